-- ===== PART A: goes FIRST, ahead of the names: the tables' words, and 'selects' of the private methods out of them =====
/-- a private method of a class that the tables say can be made, by its rows of tables_1 -/
def lw_okq (q : MethodName × Nat) : Prop := (q.1.cls ≠ "java/lang/invoke/MethodHandle" ∧ q.1.cls ≠ "java/lang/invoke/VarHandle") ∧ Cond.instantiable q.1.cls q.2 ∈ tables_1 ∧ Cond.privateMethod q.1 ∈ tables_1 ∧ Cond.instanceMethod q.1 ∈ tables_1
theorem lw_p0 : lw_okq (⟨"RangedPool$History", "mark", "(I)V"⟩, 6) := ⟨⟨by decide +kernel, by decide +kernel⟩, List.mem_of_getElem? (i := 65) (by decide +kernel), List.mem_of_getElem? (i := 173) (by decide +kernel), List.mem_of_getElem? (i := 174) (by decide +kernel)⟩
theorem lw_p1 : lw_okq (⟨"RangedPool$History", "dropOldest", "()V"⟩, 6) := ⟨⟨by decide +kernel, by decide +kernel⟩, List.mem_of_getElem? (i := 65) (by decide +kernel), List.mem_of_getElem? (i := 177) (by decide +kernel), List.mem_of_getElem? (i := 178) (by decide +kernel)⟩
theorem lw_p2 : lw_okq (⟨"RangedPool", "isRange", "(II)Z"⟩, 10) := ⟨⟨by decide +kernel, by decide +kernel⟩, List.mem_of_getElem? (i := 9) (by decide +kernel), List.mem_of_getElem? (i := 197) (by decide +kernel), List.mem_of_getElem? (i := 198) (by decide +kernel)⟩
theorem lw_p3 : lw_okq (⟨"RangedPool$LotBook", "findOrFree", "(III)LRangedPool$Lot;"⟩, 1) := ⟨⟨by decide +kernel, by decide +kernel⟩, List.mem_of_getElem? (i := 19) (by decide +kernel), List.mem_of_getElem? (i := 203) (by decide +kernel), List.mem_of_getElem? (i := 204) (by decide +kernel)⟩
theorem lw_p4 : lw_okq (⟨"RangedPool$LotBook", "find", "(III)LRangedPool$Lot;"⟩, 1) := ⟨⟨by decide +kernel, by decide +kernel⟩, List.mem_of_getElem? (i := 19) (by decide +kernel), List.mem_of_getElem? (i := 207) (by decide +kernel), List.mem_of_getElem? (i := 208) (by decide +kernel)⟩
theorem lw_p5 : lw_okq (⟨"RangedPool$Lot", "isThere", "()Z"⟩, 7) := ⟨⟨by decide +kernel, by decide +kernel⟩, List.mem_of_getElem? (i := 26) (by decide +kernel), List.mem_of_getElem? (i := 211) (by decide +kernel), List.mem_of_getElem? (i := 212) (by decide +kernel)⟩
theorem lw_p6 : lw_okq (⟨"RangedPool$Lot", "isFor", "(III)Z"⟩, 7) := ⟨⟨by decide +kernel, by decide +kernel⟩, List.mem_of_getElem? (i := 26) (by decide +kernel), List.mem_of_getElem? (i := 215) (by decide +kernel), List.mem_of_getElem? (i := 216) (by decide +kernel)⟩
theorem lw_p7 : lw_okq (⟨"RangedPool$LotBook", "totalLiquidity", "()J"⟩, 1) := ⟨⟨by decide +kernel, by decide +kernel⟩, List.mem_of_getElem? (i := 19) (by decide +kernel), List.mem_of_getElem? (i := 219) (by decide +kernel), List.mem_of_getElem? (i := 220) (by decide +kernel)⟩
theorem lw_p8 : lw_okq (⟨"RangedPool", "zeroOfRange", "(IIJZ)J"⟩, 10) := ⟨⟨by decide +kernel, by decide +kernel⟩, List.mem_of_getElem? (i := 9) (by decide +kernel), List.mem_of_getElem? (i := 225) (by decide +kernel), List.mem_of_getElem? (i := 226) (by decide +kernel)⟩
theorem lw_p9 : lw_okq (⟨"RangedPool", "oneOfRange", "(IIJZ)J"⟩, 10) := ⟨⟨by decide +kernel, by decide +kernel⟩, List.mem_of_getElem? (i := 9) (by decide +kernel), List.mem_of_getElem? (i := 236) (by decide +kernel), List.mem_of_getElem? (i := 237) (by decide +kernel)⟩
theorem lw_p10 : lw_okq (⟨"RangedPool", "canPay", "(IJJ)Z"⟩, 10) := ⟨⟨by decide +kernel, by decide +kernel⟩, List.mem_of_getElem? (i := 9) (by decide +kernel), List.mem_of_getElem? (i := 243) (by decide +kernel), List.mem_of_getElem? (i := 244) (by decide +kernel)⟩
theorem lw_p11 : lw_okq (⟨"RangedPool", "pay", "(IJJ)V"⟩, 10) := ⟨⟨by decide +kernel, by decide +kernel⟩, List.mem_of_getElem? (i := 9) (by decide +kernel), List.mem_of_getElem? (i := 248) (by decide +kernel), List.mem_of_getElem? (i := 249) (by decide +kernel)⟩
theorem lw_p12 : lw_okq (⟨"RangedPool", "transfer", "(IIJ)V"⟩, 10) := ⟨⟨by decide +kernel, by decide +kernel⟩, List.mem_of_getElem? (i := 9) (by decide +kernel), List.mem_of_getElem? (i := 252) (by decide +kernel), List.mem_of_getElem? (i := 253) (by decide +kernel)⟩
theorem lw_p13 : lw_okq (⟨"RangedPool$Lot", "begin", "(III)V"⟩, 7) := ⟨⟨by decide +kernel, by decide +kernel⟩, List.mem_of_getElem? (i := 26) (by decide +kernel), List.mem_of_getElem? (i := 257) (by decide +kernel), List.mem_of_getElem? (i := 258) (by decide +kernel)⟩
theorem lw_p14 : lw_okq (⟨"RangedPool$Lot", "settle", "()V"⟩, 7) := ⟨⟨by decide +kernel, by decide +kernel⟩, List.mem_of_getElem? (i := 26) (by decide +kernel), List.mem_of_getElem? (i := 261) (by decide +kernel), List.mem_of_getElem? (i := 262) (by decide +kernel)⟩
theorem lw_p15 : lw_okq (⟨"RangedPool", "isTrade", "(ZII)Z"⟩, 10) := ⟨⟨by decide +kernel, by decide +kernel⟩, List.mem_of_getElem? (i := 9) (by decide +kernel), List.mem_of_getElem? (i := 284) (by decide +kernel), List.mem_of_getElem? (i := 285) (by decide +kernel)⟩
def lw_privs_1 : List (MethodName × Nat) := [(⟨"RangedPool$History", "mark", "(I)V"⟩, 6), (⟨"RangedPool$History", "dropOldest", "()V"⟩, 6), (⟨"RangedPool", "isRange", "(II)Z"⟩, 10), (⟨"RangedPool$LotBook", "findOrFree", "(III)LRangedPool$Lot;"⟩, 1), (⟨"RangedPool$LotBook", "find", "(III)LRangedPool$Lot;"⟩, 1), (⟨"RangedPool$Lot", "isThere", "()Z"⟩, 7), (⟨"RangedPool$Lot", "isFor", "(III)Z"⟩, 7), (⟨"RangedPool$LotBook", "totalLiquidity", "()J"⟩, 1), (⟨"RangedPool", "zeroOfRange", "(IIJZ)J"⟩, 10), (⟨"RangedPool", "oneOfRange", "(IIJZ)J"⟩, 10), (⟨"RangedPool", "canPay", "(IJJ)Z"⟩, 10), (⟨"RangedPool", "pay", "(IJJ)V"⟩, 10), (⟨"RangedPool", "transfer", "(IIJ)V"⟩, 10), (⟨"RangedPool$Lot", "begin", "(III)V"⟩, 7), (⟨"RangedPool$Lot", "settle", "()V"⟩, 7), (⟨"RangedPool", "isTrade", "(ZII)Z"⟩, 10)]
theorem lw_r1 : ∀ q ∈ lw_privs_1, lw_okq q := List.forall_mem_cons.mpr ⟨lw_p0, List.forall_mem_cons.mpr ⟨lw_p1, List.forall_mem_cons.mpr ⟨lw_p2, List.forall_mem_cons.mpr ⟨lw_p3, List.forall_mem_cons.mpr ⟨lw_p4, List.forall_mem_cons.mpr ⟨lw_p5, List.forall_mem_cons.mpr ⟨lw_p6, List.forall_mem_cons.mpr ⟨lw_p7, List.forall_mem_cons.mpr ⟨lw_p8, List.forall_mem_cons.mpr ⟨lw_p9, List.forall_mem_cons.mpr ⟨lw_p10, List.forall_mem_cons.mpr ⟨lw_p11, List.forall_mem_cons.mpr ⟨lw_p12, List.forall_mem_cons.mpr ⟨lw_p13, List.forall_mem_cons.mpr ⟨lw_p14, List.forall_mem_cons.mpr ⟨lw_p15, fun _ h => absurd h List.not_mem_nil⟩⟩⟩⟩⟩⟩⟩⟩⟩⟩⟩⟩⟩⟩⟩⟩
theorem lw_p16 : lw_okq (⟨"RangedPool$Trade", "startAt", "(IIZ)V"⟩, 8) := ⟨⟨by decide +kernel, by decide +kernel⟩, List.mem_of_getElem? (i := 95) (by decide +kernel), List.mem_of_getElem? (i := 289) (by decide +kernel), List.mem_of_getElem? (i := 290) (by decide +kernel)⟩
theorem lw_p17 : lw_okq (⟨"RangedPool$Trade", "workOut", "(LRangedPool$LotBook;II)V"⟩, 8) := ⟨⟨by decide +kernel, by decide +kernel⟩, List.mem_of_getElem? (i := 95) (by decide +kernel), List.mem_of_getElem? (i := 293) (by decide +kernel), List.mem_of_getElem? (i := 294) (by decide +kernel)⟩
theorem lw_p18 : lw_okq (⟨"RangedPool$LotBook", "clearPendingGrowth", "()V"⟩, 1) := ⟨⟨by decide +kernel, by decide +kernel⟩, List.mem_of_getElem? (i := 19) (by decide +kernel), List.mem_of_getElem? (i := 297) (by decide +kernel), List.mem_of_getElem? (i := 298) (by decide +kernel)⟩
theorem lw_p19 : lw_okq (⟨"RangedPool$Trade", "goOneLeg", "(LRangedPool$LotBook;)V"⟩, 8) := ⟨⟨by decide +kernel, by decide +kernel⟩, List.mem_of_getElem? (i := 95) (by decide +kernel), List.mem_of_getElem? (i := 301) (by decide +kernel), List.mem_of_getElem? (i := 302) (by decide +kernel)⟩
theorem lw_p20 : lw_okq (⟨"RangedPool$LotBook", "markedAtOrBelow", "(I)I"⟩, 1) := ⟨⟨by decide +kernel, by decide +kernel⟩, List.mem_of_getElem? (i := 19) (by decide +kernel), List.mem_of_getElem? (i := 305) (by decide +kernel), List.mem_of_getElem? (i := 306) (by decide +kernel)⟩
theorem lw_p21 : lw_okq (⟨"RangedPool$LotBook", "markedAbove", "(I)I"⟩, 1) := ⟨⟨by decide +kernel, by decide +kernel⟩, List.mem_of_getElem? (i := 19) (by decide +kernel), List.mem_of_getElem? (i := 309) (by decide +kernel), List.mem_of_getElem? (i := 310) (by decide +kernel)⟩
theorem lw_p22 : lw_okq (⟨"RangedPool$Trade", "targetBefore", "(I)I"⟩, 8) := ⟨⟨by decide +kernel, by decide +kernel⟩, List.mem_of_getElem? (i := 95) (by decide +kernel), List.mem_of_getElem? (i := 313) (by decide +kernel), List.mem_of_getElem? (i := 314) (by decide +kernel)⟩
theorem lw_p23 : lw_okq (⟨"RangedPool$LotBook", "depthAt", "(I)J"⟩, 1) := ⟨⟨by decide +kernel, by decide +kernel⟩, List.mem_of_getElem? (i := 19) (by decide +kernel), List.mem_of_getElem? (i := 324) (by decide +kernel), List.mem_of_getElem? (i := 325) (by decide +kernel)⟩
theorem lw_p24 : lw_okq (⟨"RangedPool$Lot", "isInRange", "(I)Z"⟩, 7) := ⟨⟨by decide +kernel, by decide +kernel⟩, List.mem_of_getElem? (i := 26) (by decide +kernel), List.mem_of_getElem? (i := 328) (by decide +kernel), List.mem_of_getElem? (i := 329) (by decide +kernel)⟩
theorem lw_p25 : lw_okq (⟨"RangedPool$Trade", "priceAfterPaying", "(JI)I"⟩, 8) := ⟨⟨by decide +kernel, by decide +kernel⟩, List.mem_of_getElem? (i := 95) (by decide +kernel), List.mem_of_getElem? (i := 332) (by decide +kernel), List.mem_of_getElem? (i := 333) (by decide +kernel)⟩
theorem lw_p26 : lw_okq (⟨"RangedPool$Trade", "amountIn", "(JI)J"⟩, 8) := ⟨⟨by decide +kernel, by decide +kernel⟩, List.mem_of_getElem? (i := 95) (by decide +kernel), List.mem_of_getElem? (i := 337) (by decide +kernel), List.mem_of_getElem? (i := 338) (by decide +kernel)⟩
theorem lw_p27 : lw_okq (⟨"RangedPool$Trade", "priceAfterTaking", "(JI)I"⟩, 8) := ⟨⟨by decide +kernel, by decide +kernel⟩, List.mem_of_getElem? (i := 95) (by decide +kernel), List.mem_of_getElem? (i := 345) (by decide +kernel), List.mem_of_getElem? (i := 346) (by decide +kernel)⟩
theorem lw_p28 : lw_okq (⟨"RangedPool$Trade", "amountOut", "(JI)J"⟩, 8) := ⟨⟨by decide +kernel, by decide +kernel⟩, List.mem_of_getElem? (i := 95) (by decide +kernel), List.mem_of_getElem? (i := 349) (by decide +kernel), List.mem_of_getElem? (i := 350) (by decide +kernel)⟩
theorem lw_p29 : lw_okq (⟨"RangedPool$LotBook", "growPending", "(IJJ)V"⟩, 1) := ⟨⟨by decide +kernel, by decide +kernel⟩, List.mem_of_getElem? (i := 19) (by decide +kernel), List.mem_of_getElem? (i := 356) (by decide +kernel), List.mem_of_getElem? (i := 357) (by decide +kernel)⟩
theorem lw_p30 : lw_okq (⟨"RangedPool$Trade", "moveTo", "(II)V"⟩, 8) := ⟨⟨by decide +kernel, by decide +kernel⟩, List.mem_of_getElem? (i := 95) (by decide +kernel), List.mem_of_getElem? (i := 362) (by decide +kernel), List.mem_of_getElem? (i := 363) (by decide +kernel)⟩
theorem lw_p31 : lw_okq (⟨"RangedPool$Trade", "tokenIn", "()I"⟩, 8) := ⟨⟨by decide +kernel, by decide +kernel⟩, List.mem_of_getElem? (i := 95) (by decide +kernel), List.mem_of_getElem? (i := 369) (by decide +kernel), List.mem_of_getElem? (i := 370) (by decide +kernel)⟩
def lw_privs_2 : List (MethodName × Nat) := [(⟨"RangedPool$Trade", "startAt", "(IIZ)V"⟩, 8), (⟨"RangedPool$Trade", "workOut", "(LRangedPool$LotBook;II)V"⟩, 8), (⟨"RangedPool$LotBook", "clearPendingGrowth", "()V"⟩, 1), (⟨"RangedPool$Trade", "goOneLeg", "(LRangedPool$LotBook;)V"⟩, 8), (⟨"RangedPool$LotBook", "markedAtOrBelow", "(I)I"⟩, 1), (⟨"RangedPool$LotBook", "markedAbove", "(I)I"⟩, 1), (⟨"RangedPool$Trade", "targetBefore", "(I)I"⟩, 8), (⟨"RangedPool$LotBook", "depthAt", "(I)J"⟩, 1), (⟨"RangedPool$Lot", "isInRange", "(I)Z"⟩, 7), (⟨"RangedPool$Trade", "priceAfterPaying", "(JI)I"⟩, 8), (⟨"RangedPool$Trade", "amountIn", "(JI)J"⟩, 8), (⟨"RangedPool$Trade", "priceAfterTaking", "(JI)I"⟩, 8), (⟨"RangedPool$Trade", "amountOut", "(JI)J"⟩, 8), (⟨"RangedPool$LotBook", "growPending", "(IJJ)V"⟩, 1), (⟨"RangedPool$Trade", "moveTo", "(II)V"⟩, 8), (⟨"RangedPool$Trade", "tokenIn", "()I"⟩, 8)]
theorem lw_r2 : ∀ q ∈ lw_privs_2, lw_okq q := List.forall_mem_cons.mpr ⟨lw_p16, List.forall_mem_cons.mpr ⟨lw_p17, List.forall_mem_cons.mpr ⟨lw_p18, List.forall_mem_cons.mpr ⟨lw_p19, List.forall_mem_cons.mpr ⟨lw_p20, List.forall_mem_cons.mpr ⟨lw_p21, List.forall_mem_cons.mpr ⟨lw_p22, List.forall_mem_cons.mpr ⟨lw_p23, List.forall_mem_cons.mpr ⟨lw_p24, List.forall_mem_cons.mpr ⟨lw_p25, List.forall_mem_cons.mpr ⟨lw_p26, List.forall_mem_cons.mpr ⟨lw_p27, List.forall_mem_cons.mpr ⟨lw_p28, List.forall_mem_cons.mpr ⟨lw_p29, List.forall_mem_cons.mpr ⟨lw_p30, List.forall_mem_cons.mpr ⟨lw_p31, fun _ h => absurd h List.not_mem_nil⟩⟩⟩⟩⟩⟩⟩⟩⟩⟩⟩⟩⟩⟩⟩⟩
theorem lw_p32 : lw_okq (⟨"RangedPool$LotBook", "keepPendingGrowth", "(I)V"⟩, 1) := ⟨⟨by decide +kernel, by decide +kernel⟩, List.mem_of_getElem? (i := 19) (by decide +kernel), List.mem_of_getElem? (i := 373) (by decide +kernel), List.mem_of_getElem? (i := 374) (by decide +kernel)⟩
theorem lw_p33 : lw_okq (⟨"RangedPool", "canLend", "(II)Z"⟩, 10) := ⟨⟨by decide +kernel, by decide +kernel⟩, List.mem_of_getElem? (i := 9) (by decide +kernel), List.mem_of_getElem? (i := 386) (by decide +kernel), List.mem_of_getElem? (i := 387) (by decide +kernel)⟩
theorem lw_p34 : lw_okq (⟨"RangedPool", "takeFee", "(IJJ)V"⟩, 10) := ⟨⟨by decide +kernel, by decide +kernel⟩, List.mem_of_getElem? (i := 9) (by decide +kernel), List.mem_of_getElem? (i := 391) (by decide +kernel), List.mem_of_getElem? (i := 392) (by decide +kernel)⟩
theorem lw_p35 : lw_okq (⟨"RangedPool$History", "tick", "(II)V"⟩, 6) := ⟨⟨by decide +kernel, by decide +kernel⟩, List.mem_of_getElem? (i := 65) (by decide +kernel), List.mem_of_getElem? (i := 401) (by decide +kernel), List.mem_of_getElem? (i := 402) (by decide +kernel)⟩
theorem lw_p36 : lw_okq (⟨"RangedPool$History", "reaches", "(J)Z"⟩, 6) := ⟨⟨by decide +kernel, by decide +kernel⟩, List.mem_of_getElem? (i := 65) (by decide +kernel), List.mem_of_getElem? (i := 409) (by decide +kernel), List.mem_of_getElem? (i := 410) (by decide +kernel)⟩
theorem lw_p37 : lw_okq (⟨"RangedPool$History", "sumAt", "(JI)J"⟩, 6) := ⟨⟨by decide +kernel, by decide +kernel⟩, List.mem_of_getElem? (i := 65) (by decide +kernel), List.mem_of_getElem? (i := 413) (by decide +kernel), List.mem_of_getElem? (i := 414) (by decide +kernel)⟩
theorem lw_p38 : lw_okq (⟨"RangedPool$LotBook", "netAt", "(I)J"⟩, 1) := ⟨⟨by decide +kernel, by decide +kernel⟩, List.mem_of_getElem? (i := 19) (by decide +kernel), List.mem_of_getElem? (i := 446) (by decide +kernel), List.mem_of_getElem? (i := 447) (by decide +kernel)⟩
theorem lw_p39 : lw_okq (⟨"RangedPoolModel", "price", "(I)J"⟩, 26) := ⟨⟨by decide +kernel, by decide +kernel⟩, List.mem_of_getElem? (i := 453) (by decide +kernel), List.mem_of_getElem? (i := 549) (by decide +kernel), List.mem_of_getElem? (i := 550) (by decide +kernel)⟩
theorem lw_p40 : lw_okq (⟨"RangedPoolModel", "note", "()V"⟩, 26) := ⟨⟨by decide +kernel, by decide +kernel⟩, List.mem_of_getElem? (i := 453) (by decide +kernel), List.mem_of_getElem? (i := 553) (by decide +kernel), List.mem_of_getElem? (i := 554) (by decide +kernel)⟩
theorem lw_p41 : lw_okq (⟨"RangedPoolModel", "isRange", "(II)Z"⟩, 26) := ⟨⟨by decide +kernel, by decide +kernel⟩, List.mem_of_getElem? (i := 453) (by decide +kernel), List.mem_of_getElem? (i := 570) (by decide +kernel), List.mem_of_getElem? (i := 571) (by decide +kernel)⟩
theorem lw_p42 : lw_okq (⟨"RangedPoolModel", "find", "(III)I"⟩, 26) := ⟨⟨by decide +kernel, by decide +kernel⟩, List.mem_of_getElem? (i := 453) (by decide +kernel), List.mem_of_getElem? (i := 576) (by decide +kernel), List.mem_of_getElem? (i := 577) (by decide +kernel)⟩
theorem lw_p43 : lw_okq (⟨"RangedPoolModel", "worthZero", "(IIJZ)J"⟩, 26) := ⟨⟨by decide +kernel, by decide +kernel⟩, List.mem_of_getElem? (i := 453) (by decide +kernel), List.mem_of_getElem? (i := 582) (by decide +kernel), List.mem_of_getElem? (i := 583) (by decide +kernel)⟩
theorem lw_p44 : lw_okq (⟨"RangedPoolModel", "worthOne", "(IIJZ)J"⟩, 26) := ⟨⟨by decide +kernel, by decide +kernel⟩, List.mem_of_getElem? (i := 453) (by decide +kernel), List.mem_of_getElem? (i := 592) (by decide +kernel), List.mem_of_getElem? (i := 593) (by decide +kernel)⟩
theorem lw_p45 : lw_okq (⟨"RangedPoolModel", "settle", "(I)V"⟩, 26) := ⟨⟨by decide +kernel, by decide +kernel⟩, List.mem_of_getElem? (i := 453) (by decide +kernel), List.mem_of_getElem? (i := 600) (by decide +kernel), List.mem_of_getElem? (i := 601) (by decide +kernel)⟩
theorem lw_p46 : lw_okq (⟨"RangedPoolModel", "pay", "(IJJ)V"⟩, 26) := ⟨⟨by decide +kernel, by decide +kernel⟩, List.mem_of_getElem? (i := 453) (by decide +kernel), List.mem_of_getElem? (i := 605) (by decide +kernel), List.mem_of_getElem? (i := 606) (by decide +kernel)⟩
theorem lw_p47 : lw_okq (⟨"RangedPoolModel", "sweep", "(I)V"⟩, 26) := ⟨⟨by decide +kernel, by decide +kernel⟩, List.mem_of_getElem? (i := 453) (by decide +kernel), List.mem_of_getElem? (i := 614) (by decide +kernel), List.mem_of_getElem? (i := 615) (by decide +kernel)⟩
def lw_privs_3 : List (MethodName × Nat) := [(⟨"RangedPool$LotBook", "keepPendingGrowth", "(I)V"⟩, 1), (⟨"RangedPool", "canLend", "(II)Z"⟩, 10), (⟨"RangedPool", "takeFee", "(IJJ)V"⟩, 10), (⟨"RangedPool$History", "tick", "(II)V"⟩, 6), (⟨"RangedPool$History", "reaches", "(J)Z"⟩, 6), (⟨"RangedPool$History", "sumAt", "(JI)J"⟩, 6), (⟨"RangedPool$LotBook", "netAt", "(I)J"⟩, 1), (⟨"RangedPoolModel", "price", "(I)J"⟩, 26), (⟨"RangedPoolModel", "note", "()V"⟩, 26), (⟨"RangedPoolModel", "isRange", "(II)Z"⟩, 26), (⟨"RangedPoolModel", "find", "(III)I"⟩, 26), (⟨"RangedPoolModel", "worthZero", "(IIJZ)J"⟩, 26), (⟨"RangedPoolModel", "worthOne", "(IIJZ)J"⟩, 26), (⟨"RangedPoolModel", "settle", "(I)V"⟩, 26), (⟨"RangedPoolModel", "pay", "(IJJ)V"⟩, 26), (⟨"RangedPoolModel", "sweep", "(I)V"⟩, 26)]
theorem lw_r3 : ∀ q ∈ lw_privs_3, lw_okq q := List.forall_mem_cons.mpr ⟨lw_p32, List.forall_mem_cons.mpr ⟨lw_p33, List.forall_mem_cons.mpr ⟨lw_p34, List.forall_mem_cons.mpr ⟨lw_p35, List.forall_mem_cons.mpr ⟨lw_p36, List.forall_mem_cons.mpr ⟨lw_p37, List.forall_mem_cons.mpr ⟨lw_p38, List.forall_mem_cons.mpr ⟨lw_p39, List.forall_mem_cons.mpr ⟨lw_p40, List.forall_mem_cons.mpr ⟨lw_p41, List.forall_mem_cons.mpr ⟨lw_p42, List.forall_mem_cons.mpr ⟨lw_p43, List.forall_mem_cons.mpr ⟨lw_p44, List.forall_mem_cons.mpr ⟨lw_p45, List.forall_mem_cons.mpr ⟨lw_p46, List.forall_mem_cons.mpr ⟨lw_p47, fun _ h => absurd h List.not_mem_nil⟩⟩⟩⟩⟩⟩⟩⟩⟩⟩⟩⟩⟩⟩⟩⟩
theorem lw_p48 : lw_okq (⟨"RangedPoolModel", "work", "(ZII)Z"⟩, 26) := ⟨⟨by decide +kernel, by decide +kernel⟩, List.mem_of_getElem? (i := 453) (by decide +kernel), List.mem_of_getElem? (i := 626) (by decide +kernel), List.mem_of_getElem? (i := 627) (by decide +kernel)⟩
theorem lw_p49 : lw_okq (⟨"RangedPoolModel", "leg", "(ZJ)V"⟩, 26) := ⟨⟨by decide +kernel, by decide +kernel⟩, List.mem_of_getElem? (i := 453) (by decide +kernel), List.mem_of_getElem? (i := 631) (by decide +kernel), List.mem_of_getElem? (i := 632) (by decide +kernel)⟩
theorem lw_p50 : lw_okq (⟨"RangedPoolModel", "nextStep", "(Z)I"⟩, 26) := ⟨⟨by decide +kernel, by decide +kernel⟩, List.mem_of_getElem? (i := 453) (by decide +kernel), List.mem_of_getElem? (i := 635) (by decide +kernel), List.mem_of_getElem? (i := 636) (by decide +kernel)⟩
theorem lw_p51 : lw_okq (⟨"RangedPoolModel", "marked", "(I)Z"⟩, 26) := ⟨⟨by decide +kernel, by decide +kernel⟩, List.mem_of_getElem? (i := 453) (by decide +kernel), List.mem_of_getElem? (i := 639) (by decide +kernel), List.mem_of_getElem? (i := 640) (by decide +kernel)⟩
theorem lw_p52 : lw_okq (⟨"RangedPoolModel", "depthAt", "(I)J"⟩, 26) := ⟨⟨by decide +kernel, by decide +kernel⟩, List.mem_of_getElem? (i := 453) (by decide +kernel), List.mem_of_getElem? (i := 643) (by decide +kernel), List.mem_of_getElem? (i := 644) (by decide +kernel)⟩
theorem lw_p53 : lw_okq (⟨"RangedPoolModel", "onTheWay", "(ZJJJ)J"⟩, 26) := ⟨⟨by decide +kernel, by decide +kernel⟩, List.mem_of_getElem? (i := 453) (by decide +kernel), List.mem_of_getElem? (i := 653) (by decide +kernel), List.mem_of_getElem? (i := 654) (by decide +kernel)⟩
def lw_privs_4 : List (MethodName × Nat) := [(⟨"RangedPoolModel", "work", "(ZII)Z"⟩, 26), (⟨"RangedPoolModel", "leg", "(ZJ)V"⟩, 26), (⟨"RangedPoolModel", "nextStep", "(Z)I"⟩, 26), (⟨"RangedPoolModel", "marked", "(I)Z"⟩, 26), (⟨"RangedPoolModel", "depthAt", "(I)J"⟩, 26), (⟨"RangedPoolModel", "onTheWay", "(ZJJJ)J"⟩, 26)]
theorem lw_r4 : ∀ q ∈ lw_privs_4, lw_okq q := List.forall_mem_cons.mpr ⟨lw_p48, List.forall_mem_cons.mpr ⟨lw_p49, List.forall_mem_cons.mpr ⟨lw_p50, List.forall_mem_cons.mpr ⟨lw_p51, List.forall_mem_cons.mpr ⟨lw_p52, List.forall_mem_cons.mpr ⟨lw_p53, fun _ h => absurd h List.not_mem_nil⟩⟩⟩⟩⟩⟩
def lw_privs : List (MethodName × Nat) := lw_privs_1 ++ (lw_privs_2 ++ (lw_privs_3 ++ (lw_privs_4)))
def lw_tbl : List Cond := k2_sels lw_privs ++ tables_1
theorem lw_privs_ok : ∀ q ∈ lw_privs, lw_okq q := by
  show ∀ q ∈ lw_privs_1 ++ (lw_privs_2 ++ (lw_privs_3 ++ (lw_privs_4))), lw_okq q
  exact List.forall_mem_append.mpr ⟨lw_r1, List.forall_mem_append.mpr ⟨lw_r2, List.forall_mem_append.mpr ⟨lw_r3, lw_r4⟩⟩⟩
-- ===== end of PART A (out of the skeleton); what follows is by wip/whole/names.py =====
def y_P_init : MethodName := ⟨"RangedPool", "<init>", "(II)V"⟩
abbrev b_P_init : ByteArray := prog_1_method_1_code
def y_B_init : MethodName := ⟨"RangedPool$LotBook", "<init>", "()V"⟩
abbrev b_B_init : ByteArray := prog_4_method_1_code
def y_T_init : MethodName := ⟨"RangedPool$Lot", "<init>", "()V"⟩
abbrev b_T_init : ByteArray := prog_3_method_1_code
def y_H_init : MethodName := ⟨"RangedPool$History", "<init>", "()V"⟩
abbrev b_H_init : ByteArray := prog_2_method_1_code
def y_P_isSpacing : MethodName := ⟨"RangedPool", "isSpacing", "(I)Z"⟩
abbrev b_P_isSpacing : ByteArray := prog_1_method_19_code
def y_D_init : MethodName := ⟨"RangedPool$Trade", "<init>", "(I)V"⟩
abbrev b_D_init : ByteArray := prog_5_method_1_code
def y_P_open : MethodName := ⟨"RangedPool", "open", "(I)Z"⟩
abbrev b_P_open : ByteArray := prog_1_method_2_code
def y_P_isStep : MethodName := ⟨"RangedPool", "isStep", "(I)Z"⟩
abbrev b_P_isStep : ByteArray := prog_1_method_20_code
def y_P_priceOf : MethodName := ⟨"RangedPool", "priceOf", "(I)I"⟩
abbrev b_P_priceOf : ByteArray := prog_1_method_36_code
def y_H_mark : MethodName := ⟨"RangedPool$History", "mark", "(I)V"⟩
abbrev b_H_mark : ByteArray := prog_2_method_3_code
def y_H_dropOldest : MethodName := ⟨"RangedPool$History", "dropOldest", "()V"⟩
abbrev b_H_dropOldest : ByteArray := prog_2_method_4_code
def y_P_fund : MethodName := ⟨"RangedPool", "fund", "(III)Z"⟩
abbrev b_P_fund : ByteArray := prog_1_method_3_code
def y_P_isOwner : MethodName := ⟨"RangedPool", "isOwner", "(I)Z"⟩
abbrev b_P_isOwner : ByteArray := prog_1_method_21_code
def y_P_isToken : MethodName := ⟨"RangedPool", "isToken", "(I)Z"⟩
abbrev b_P_isToken : ByteArray := prog_1_method_22_code
def y_P_mint : MethodName := ⟨"RangedPool", "mint", "(IIII)J"⟩
abbrev b_P_mint : ByteArray := prog_1_method_4_code
def y_P_isRange : MethodName := ⟨"RangedPool", "isRange", "(II)Z"⟩
abbrev b_P_isRange : ByteArray := prog_1_method_23_code
def y_B_findOrFree : MethodName := ⟨"RangedPool$LotBook", "findOrFree", "(III)LRangedPool$Lot;"⟩
abbrev b_B_findOrFree : ByteArray := prog_4_method_3_code
def y_B_find : MethodName := ⟨"RangedPool$LotBook", "find", "(III)LRangedPool$Lot;"⟩
abbrev b_B_find : ByteArray := prog_4_method_2_code
def y_T_isThere : MethodName := ⟨"RangedPool$Lot", "isThere", "()Z"⟩
abbrev b_T_isThere : ByteArray := prog_3_method_2_code
def y_T_isFor : MethodName := ⟨"RangedPool$Lot", "isFor", "(III)Z"⟩
abbrev b_T_isFor : ByteArray := prog_3_method_3_code
def y_B_totalLiquidity : MethodName := ⟨"RangedPool$LotBook", "totalLiquidity", "()J"⟩
abbrev b_B_totalLiquidity : ByteArray := prog_4_method_4_code
def y_P_zeroOfRange : MethodName := ⟨"RangedPool", "zeroOfRange", "(IIJZ)J"⟩
abbrev b_P_zeroOfRange : ByteArray := prog_1_method_30_code
def y_P_zeroBetween : MethodName := ⟨"RangedPool", "zeroBetween", "(JJJZ)J"⟩
abbrev b_P_zeroBetween : ByteArray := prog_1_method_32_code
def y_P_quotient : MethodName := ⟨"RangedPool", "quotient", "(JJZ)J"⟩
abbrev b_P_quotient : ByteArray := prog_1_method_34_code
def y_P_oneOfRange : MethodName := ⟨"RangedPool", "oneOfRange", "(IIJZ)J"⟩
abbrev b_P_oneOfRange : ByteArray := prog_1_method_31_code
def y_P_oneBetween : MethodName := ⟨"RangedPool", "oneBetween", "(JJJZ)J"⟩
abbrev b_P_oneBetween : ByteArray := prog_1_method_33_code
def y_P_canPay : MethodName := ⟨"RangedPool", "canPay", "(IJJ)Z"⟩
abbrev b_P_canPay : ByteArray := prog_1_method_26_code
def y_P_pay : MethodName := ⟨"RangedPool", "pay", "(IJJ)V"⟩
abbrev b_P_pay : ByteArray := prog_1_method_27_code
def y_P_transfer : MethodName := ⟨"RangedPool", "transfer", "(IIJ)V"⟩
abbrev b_P_transfer : ByteArray := prog_1_method_28_code
def y_T_begin : MethodName := ⟨"RangedPool$Lot", "begin", "(III)V"⟩
abbrev b_T_begin : ByteArray := prog_3_method_5_code
def y_T_settle : MethodName := ⟨"RangedPool$Lot", "settle", "()V"⟩
abbrev b_T_settle : ByteArray := prog_3_method_6_code
def y_P_pair : MethodName := ⟨"RangedPool", "pair", "(JJ)J"⟩
abbrev b_P_pair : ByteArray := prog_1_method_35_code
def y_P_burn : MethodName := ⟨"RangedPool", "burn", "(IIII)J"⟩
abbrev b_P_burn : ByteArray := prog_1_method_5_code
def y_P_collect : MethodName := ⟨"RangedPool", "collect", "(III)J"⟩
abbrev b_P_collect : ByteArray := prog_1_method_6_code
def y_P_swap : MethodName := ⟨"RangedPool", "swap", "(IZII)J"⟩
abbrev b_P_swap : ByteArray := prog_1_method_7_code
def y_P_isTrade : MethodName := ⟨"RangedPool", "isTrade", "(ZII)Z"⟩
abbrev b_P_isTrade : ByteArray := prog_1_method_24_code
def y_D_startAt : MethodName := ⟨"RangedPool$Trade", "startAt", "(IIZ)V"⟩
abbrev b_D_startAt : ByteArray := prog_5_method_3_code
def y_D_workOut : MethodName := ⟨"RangedPool$Trade", "workOut", "(LRangedPool$LotBook;II)V"⟩
abbrev b_D_workOut : ByteArray := prog_5_method_4_code
def y_B_clearPendingGrowth : MethodName := ⟨"RangedPool$LotBook", "clearPendingGrowth", "()V"⟩
abbrev b_B_clearPendingGrowth : ByteArray := prog_4_method_9_code
def y_D_goOneLeg : MethodName := ⟨"RangedPool$Trade", "goOneLeg", "(LRangedPool$LotBook;)V"⟩
abbrev b_D_goOneLeg : ByteArray := prog_5_method_5_code
def y_B_markedAtOrBelow : MethodName := ⟨"RangedPool$LotBook", "markedAtOrBelow", "(I)I"⟩
abbrev b_B_markedAtOrBelow : ByteArray := prog_4_method_7_code
def y_B_markedAbove : MethodName := ⟨"RangedPool$LotBook", "markedAbove", "(I)I"⟩
abbrev b_B_markedAbove : ByteArray := prog_4_method_8_code
def y_D_targetBefore : MethodName := ⟨"RangedPool$Trade", "targetBefore", "(I)I"⟩
abbrev b_D_targetBefore : ByteArray := prog_5_method_6_code
def y_B_depthAt : MethodName := ⟨"RangedPool$LotBook", "depthAt", "(I)J"⟩
abbrev b_B_depthAt : ByteArray := prog_4_method_5_code
def y_T_isInRange : MethodName := ⟨"RangedPool$Lot", "isInRange", "(I)Z"⟩
abbrev b_T_isInRange : ByteArray := prog_3_method_4_code
def y_D_priceAfterPaying : MethodName := ⟨"RangedPool$Trade", "priceAfterPaying", "(JI)I"⟩
abbrev b_D_priceAfterPaying : ByteArray := prog_5_method_7_code
def y_D_amountIn : MethodName := ⟨"RangedPool$Trade", "amountIn", "(JI)J"⟩
abbrev b_D_amountIn : ByteArray := prog_5_method_9_code
def y_D_priceAfterTaking : MethodName := ⟨"RangedPool$Trade", "priceAfterTaking", "(JI)I"⟩
abbrev b_D_priceAfterTaking : ByteArray := prog_5_method_8_code
def y_D_amountOut : MethodName := ⟨"RangedPool$Trade", "amountOut", "(JI)J"⟩
abbrev b_D_amountOut : ByteArray := prog_5_method_10_code
def y_B_growPending : MethodName := ⟨"RangedPool$LotBook", "growPending", "(IJJ)V"⟩
abbrev b_B_growPending : ByteArray := prog_4_method_10_code
def y_D_moveTo : MethodName := ⟨"RangedPool$Trade", "moveTo", "(II)V"⟩
abbrev b_D_moveTo : ByteArray := prog_5_method_11_code
def y_P_greatestStepAt : MethodName := ⟨"RangedPool", "greatestStepAt", "(I)I"⟩
abbrev b_P_greatestStepAt : ByteArray := prog_1_method_37_code
def y_D_tokenIn : MethodName := ⟨"RangedPool$Trade", "tokenIn", "()I"⟩
abbrev b_D_tokenIn : ByteArray := prog_5_method_2_code
def y_B_keepPendingGrowth : MethodName := ⟨"RangedPool$LotBook", "keepPendingGrowth", "(I)V"⟩
abbrev b_B_keepPendingGrowth : ByteArray := prog_4_method_11_code
def y_P_quote : MethodName := ⟨"RangedPool", "quote", "(ZII)J"⟩
abbrev b_P_quote : ByteArray := prog_1_method_8_code
def y_P_flash : MethodName := ⟨"RangedPool", "flash", "(III)J"⟩
abbrev b_P_flash : ByteArray := prog_1_method_9_code
def y_P_canLend : MethodName := ⟨"RangedPool", "canLend", "(II)Z"⟩
abbrev b_P_canLend : ByteArray := prog_1_method_25_code
def y_P_takeFee : MethodName := ⟨"RangedPool", "takeFee", "(IJJ)V"⟩
abbrev b_P_takeFee : ByteArray := prog_1_method_29_code
def y_P_advance : MethodName := ⟨"RangedPool", "advance", "(I)Z"⟩
abbrev b_P_advance : ByteArray := prog_1_method_10_code
def y_H_tick : MethodName := ⟨"RangedPool$History", "tick", "(II)V"⟩
abbrev b_H_tick : ByteArray := prog_2_method_2_code
def y_P_observe : MethodName := ⟨"RangedPool", "observe", "(I)J"⟩
abbrev b_P_observe : ByteArray := prog_1_method_11_code
def y_H_reaches : MethodName := ⟨"RangedPool$History", "reaches", "(J)Z"⟩
abbrev b_H_reaches : ByteArray := prog_2_method_5_code
def y_H_sumAt : MethodName := ⟨"RangedPool$History", "sumAt", "(JI)J"⟩
abbrev b_H_sumAt : ByteArray := prog_2_method_6_code
def y_P_price : MethodName := ⟨"RangedPool", "price", "()I"⟩
abbrev b_P_price : ByteArray := prog_1_method_12_code
def y_P_step : MethodName := ⟨"RangedPool", "step", "()I"⟩
abbrev b_P_step : ByteArray := prog_1_method_13_code
def y_P_depth : MethodName := ⟨"RangedPool", "depth", "()I"⟩
abbrev b_P_depth : ByteArray := prog_1_method_14_code
def y_P_wallet : MethodName := ⟨"RangedPool", "wallet", "(II)J"⟩
abbrev b_P_wallet : ByteArray := prog_1_method_15_code
def y_P_reserve : MethodName := ⟨"RangedPool", "reserve", "(I)J"⟩
abbrev b_P_reserve : ByteArray := prog_1_method_16_code
def y_P_lot : MethodName := ⟨"RangedPool", "lot", "(IIII)J"⟩
abbrev b_P_lot : ByteArray := prog_1_method_17_code
def y_P_net : MethodName := ⟨"RangedPool", "net", "(I)I"⟩
abbrev b_P_net : ByteArray := prog_1_method_18_code
def y_B_netAt : MethodName := ⟨"RangedPool$LotBook", "netAt", "(I)J"⟩
abbrev b_B_netAt : ByteArray := prog_4_method_6_code
def y_L_cell : MethodName := ⟨"RangedPoolLaw", "cell", "([II)I"⟩
abbrev b_L_cell : ByteArray := method_2_code
def y_M_init : MethodName := ⟨"RangedPoolModel", "<init>", "(II)V"⟩
abbrev b_M_init : ByteArray := prog_7_method_1_code
def y_M_open : MethodName := ⟨"RangedPoolModel", "open", "(I)Z"⟩
abbrev b_M_open : ByteArray := prog_7_method_8_code
def y_M_isStep : MethodName := ⟨"RangedPoolModel", "isStep", "(I)Z"⟩
abbrev b_M_isStep : ByteArray := prog_7_method_2_code
def y_M_price : MethodName := ⟨"RangedPoolModel", "price", "(I)J"⟩
abbrev b_M_price : ByteArray := prog_7_method_3_code
def y_M_note : MethodName := ⟨"RangedPoolModel", "note", "()V"⟩
abbrev b_M_note : ByteArray := prog_7_method_7_code
def y_M_fund : MethodName := ⟨"RangedPoolModel", "fund", "(III)Z"⟩
abbrev b_M_fund : ByteArray := prog_7_method_10_code
def y_M_isOwner : MethodName := ⟨"RangedPoolModel", "isOwner", "(I)Z"⟩
abbrev b_M_isOwner : ByteArray := prog_7_method_9_code
def y_M_mint : MethodName := ⟨"RangedPoolModel", "mint", "(IIII)J"⟩
abbrev b_M_mint : ByteArray := prog_7_method_18_code
def y_M_isRange : MethodName := ⟨"RangedPoolModel", "isRange", "(II)Z"⟩
abbrev b_M_isRange : ByteArray := prog_7_method_17_code
def y_M_find : MethodName := ⟨"RangedPoolModel", "find", "(III)I"⟩
abbrev b_M_find : ByteArray := prog_7_method_11_code
def y_M_worthZero : MethodName := ⟨"RangedPoolModel", "worthZero", "(IIJZ)J"⟩
abbrev b_M_worthZero : ByteArray := prog_7_method_15_code
def y_M_zero : MethodName := ⟨"RangedPoolModel", "zero", "(JJJZ)J"⟩
abbrev b_M_zero : ByteArray := prog_7_method_5_code
def y_M_quotient : MethodName := ⟨"RangedPoolModel", "quotient", "(JJZ)J"⟩
abbrev b_M_quotient : ByteArray := prog_7_method_4_code
def y_M_worthOne : MethodName := ⟨"RangedPoolModel", "worthOne", "(IIJZ)J"⟩
abbrev b_M_worthOne : ByteArray := prog_7_method_16_code
def y_M_one : MethodName := ⟨"RangedPoolModel", "one", "(JJJZ)J"⟩
abbrev b_M_one : ByteArray := prog_7_method_6_code
def y_M_settle : MethodName := ⟨"RangedPoolModel", "settle", "(I)V"⟩
abbrev b_M_settle : ByteArray := prog_7_method_13_code
def y_M_pay : MethodName := ⟨"RangedPoolModel", "pay", "(IJJ)V"⟩
abbrev b_M_pay : ByteArray := prog_7_method_19_code
def y_M_burn : MethodName := ⟨"RangedPoolModel", "burn", "(IIII)J"⟩
abbrev b_M_burn : ByteArray := prog_7_method_20_code
def y_M_sweep : MethodName := ⟨"RangedPoolModel", "sweep", "(I)V"⟩
abbrev b_M_sweep : ByteArray := prog_7_method_14_code
def y_M_collect : MethodName := ⟨"RangedPoolModel", "collect", "(III)J"⟩
abbrev b_M_collect : ByteArray := prog_7_method_21_code
def y_M_swap : MethodName := ⟨"RangedPoolModel", "swap", "(IZII)J"⟩
abbrev b_M_swap : ByteArray := prog_7_method_29_code
def y_M_work : MethodName := ⟨"RangedPoolModel", "work", "(ZII)Z"⟩
abbrev b_M_work : ByteArray := prog_7_method_28_code
def y_M_leg : MethodName := ⟨"RangedPoolModel", "leg", "(ZJ)V"⟩
abbrev b_M_leg : ByteArray := prog_7_method_27_code
def y_M_nextStep : MethodName := ⟨"RangedPoolModel", "nextStep", "(Z)I"⟩
abbrev b_M_nextStep : ByteArray := prog_7_method_23_code
def y_M_marked : MethodName := ⟨"RangedPoolModel", "marked", "(I)Z"⟩
abbrev b_M_marked : ByteArray := prog_7_method_22_code
def y_M_depthAt : MethodName := ⟨"RangedPoolModel", "depthAt", "(I)J"⟩
abbrev b_M_depthAt : ByteArray := prog_7_method_12_code
def y_M_in : MethodName := ⟨"RangedPoolModel", "in", "(ZJJJ)J"⟩
abbrev b_M_in : ByteArray := prog_7_method_24_code
def y_M_goesOut : MethodName := ⟨"RangedPoolModel", "goesOut", "(ZJJJ)J"⟩
abbrev b_M_goesOut : ByteArray := prog_7_method_25_code
def y_M_onTheWay : MethodName := ⟨"RangedPoolModel", "onTheWay", "(ZJJJ)J"⟩
abbrev b_M_onTheWay : ByteArray := prog_7_method_26_code
def y_M_quote : MethodName := ⟨"RangedPoolModel", "quote", "(ZII)J"⟩
abbrev b_M_quote : ByteArray := prog_7_method_30_code
def y_M_flash : MethodName := ⟨"RangedPoolModel", "flash", "(III)J"⟩
abbrev b_M_flash : ByteArray := prog_7_method_31_code
def y_M_advance : MethodName := ⟨"RangedPoolModel", "advance", "(I)Z"⟩
abbrev b_M_advance : ByteArray := prog_7_method_32_code
def y_M_observe : MethodName := ⟨"RangedPoolModel", "observe", "(I)J"⟩
abbrev b_M_observe : ByteArray := prog_7_method_33_code
def y_M_price0 : MethodName := ⟨"RangedPoolModel", "price", "()I"⟩
abbrev b_M_price0 : ByteArray := prog_7_method_34_code
def y_M_step : MethodName := ⟨"RangedPoolModel", "step", "()I"⟩
abbrev b_M_step : ByteArray := prog_7_method_35_code
def y_M_depth : MethodName := ⟨"RangedPoolModel", "depth", "()I"⟩
abbrev b_M_depth : ByteArray := prog_7_method_36_code
def y_M_wallet : MethodName := ⟨"RangedPoolModel", "wallet", "(II)J"⟩
abbrev b_M_wallet : ByteArray := prog_7_method_37_code
def y_M_reserve : MethodName := ⟨"RangedPoolModel", "reserve", "(I)J"⟩
abbrev b_M_reserve : ByteArray := prog_7_method_38_code
def y_M_lot : MethodName := ⟨"RangedPoolModel", "lot", "(IIII)J"⟩
abbrev b_M_lot : ByteArray := prog_7_method_39_code
def y_M_net : MethodName := ⟨"RangedPoolModel", "net", "(I)I"⟩
abbrev b_M_net : ByteArray := prog_7_method_40_code
/-- all words that a warm machine keeps: every method's own are among them -/
def gA : List Cond := lw_tbl.filter goodWord
theorem gA_ok {w : Cond} (h : w ∈ gA) : (w.onTables && w.keeps) = true ∨ ∃ ty, w = .arrayClass ty := good_of_word (List.mem_filter.mp h).2
theorem gA_in : ∀ w ∈ gA, w ∈ lw_tbl := fun w h => (List.mem_filter.mp h).1
theorem gA_good {l : List Cond} {cy : Cond} (h : ∀ w ∈ l, w ∈ gA) (hc : cy ∈ gA) : GoodIn gA (l ++ (cy :: gA)) := fun w hw => by
  rcases List.mem_append.mp hw with h1 | h1
  · exact ⟨h w h1, gA_ok (h w h1)⟩
  · rcases List.mem_cons.mp h1 with rfl | h1
    · exact ⟨hc, gA_ok hc⟩
    · exact ⟨h1, gA_ok h1⟩
theorem gA_t {w : Cond} {i : Nat} (h : tables_1[i]? = some w) (hg : goodWord w = true) : w ∈ gA := List.mem_filter.mpr ⟨List.mem_append_right _ (List.mem_of_getElem? h), hg⟩
theorem gA_s {w : Cond} {i : Nat} (h : (k2_sels lw_privs)[i]? = some w) (hg : goodWord w = true) : w ∈ gA := List.mem_filter.mpr ⟨List.mem_append_left _ (List.mem_of_getElem? h), hg⟩
theorem kw0 : Cond.initialized "RangedPoolLaw" ∈ gA := gA_t (i := 0) (by decide +kernel) (by decide +kernel)
theorem kw1 : Cond.initialized "RangedPool" ∈ gA := gA_t (i := 1) (by decide +kernel) (by decide +kernel)
theorem kw2 : Cond.initialized "RangedPool$LotBook" ∈ gA := gA_t (i := 2) (by decide +kernel) (by decide +kernel)
theorem kw3 : Cond.initialized "RangedPool$Lot" ∈ gA := gA_t (i := 3) (by decide +kernel) (by decide +kernel)
theorem kw4 : Cond.initialized "RangedPool$History" ∈ gA := gA_t (i := 4) (by decide +kernel) (by decide +kernel)
theorem kw5 : Cond.initialized "RangedPool$Trade" ∈ gA := gA_t (i := 5) (by decide +kernel) (by decide +kernel)
theorem kw6 : Cond.initialized "RangedPoolModel" ∈ gA := gA_t (i := 6) (by decide +kernel) (by decide +kernel)
theorem kw7 : Cond.initialized "java/lang/Math" ∈ gA := gA_t (i := 7) (by decide +kernel) (by decide +kernel)
theorem kw8 : Cond.classLink "RangedPoolLaw" 7 "RangedPool" ∈ gA := gA_t (i := 8) (by decide +kernel) (by decide +kernel)
theorem kw9 : Cond.instantiable "RangedPool" 10 ∈ gA := gA_t (i := 9) (by decide +kernel) (by decide +kernel)
theorem kw10 : Cond.methodLink "RangedPoolLaw" 15 y_P_init ∈ gA := gA_t (i := 10) (by decide +kernel) (by decide +kernel)
theorem kw11 : Cond.instanceMethod y_P_init ∈ gA := gA_t (i := 11) (by decide +kernel) (by decide +kernel)
set_option maxRecDepth 20000 in
theorem kw12 : Cond.code y_P_init prog_1_method_1_code 3 none ∈ gA := gA_t (i := 12) rfl (by decide +kernel)
theorem kw13 : Cond.methodLink "RangedPool" 1 ⟨"java/lang/Object", "<init>", "()V"⟩ ∈ gA := gA_t (i := 13) (by decide +kernel) (by decide +kernel)
theorem kw14 : Cond.instanceMethod ⟨"java/lang/Object", "<init>", "()V"⟩ ∈ gA := gA_t (i := 14) (by decide +kernel) (by decide +kernel)
set_option maxRecDepth 20000 in
theorem kw15 : Cond.code ⟨"java/lang/Object", "<init>", "()V"⟩ object_method_1_code 1 none ∈ gA := gA_t (i := 15) rfl (by decide +kernel)
theorem kw16 : Cond.classLink "RangedPool" 9 "[[J" ∈ gA := gA_t (i := 16) (by decide +kernel) (by decide +kernel)
theorem kw18 : Cond.classLink "RangedPool" 18 "RangedPool$LotBook" ∈ gA := gA_t (i := 18) (by decide +kernel) (by decide +kernel)
theorem kw19 : Cond.instantiable "RangedPool$LotBook" 1 ∈ gA := gA_t (i := 19) (by decide +kernel) (by decide +kernel)
theorem kw21 : Cond.instanceMethod y_B_init ∈ gA := gA_t (i := 21) (by decide +kernel) (by decide +kernel)
set_option maxRecDepth 20000 in
theorem kw22 : Cond.code y_B_init prog_4_method_1_code 2 none ∈ gA := gA_t (i := 22) rfl (by decide +kernel)
theorem kw23 : Cond.methodLink "RangedPool$LotBook" 3 ⟨"java/lang/Object", "<init>", "()V"⟩ ∈ gA := gA_t (i := 23) (by decide +kernel) (by decide +kernel)
theorem kw24 : Cond.classLink "RangedPool$LotBook" 9 "RangedPool$Lot" ∈ gA := gA_t (i := 24) (by decide +kernel) (by decide +kernel)
theorem kw26 : Cond.instantiable "RangedPool$Lot" 7 ∈ gA := gA_t (i := 26) (by decide +kernel) (by decide +kernel)
theorem kw28 : Cond.instanceMethod y_T_init ∈ gA := gA_t (i := 28) (by decide +kernel) (by decide +kernel)
set_option maxRecDepth 20000 in
theorem kw29 : Cond.code y_T_init prog_3_method_1_code 1 none ∈ gA := gA_t (i := 29) rfl (by decide +kernel)
theorem kw30 : Cond.methodLink "RangedPool$Lot" 3 ⟨"java/lang/Object", "<init>", "()V"⟩ ∈ gA := gA_t (i := 30) (by decide +kernel) (by decide +kernel)
theorem kw31 : Cond.fieldLink "RangedPool$Lot" 22 "RangedPool$Lot" "owner" "I" ∈ gA := gA_t (i := 31) (by decide +kernel) (by decide +kernel)
theorem kw32 : Cond.fieldLink "RangedPool$Lot" 26 "RangedPool$Lot" "lo" "I" ∈ gA := gA_t (i := 32) (by decide +kernel) (by decide +kernel)
theorem kw34 : Cond.fieldLink "RangedPool$Lot" 29 "RangedPool$Lot" "hi" "I" ∈ gA := gA_t (i := 34) (by decide +kernel) (by decide +kernel)
theorem kw36 : Cond.fieldLink "RangedPool$Lot" 18 "RangedPool$Lot" "liquidity" "J" ∈ gA := gA_t (i := 36) (by decide +kernel) (by decide +kernel)
theorem kw39 : Cond.fieldLink "RangedPool$Lot" 9 "RangedPool$Lot" "owed" "[J" ∈ gA := gA_t (i := 39) (by decide +kernel) (by decide +kernel)
theorem kw41 : Cond.fieldLink "RangedPool$Lot" 15 "RangedPool$Lot" "growth" "[J" ∈ gA := gA_t (i := 41) (by decide +kernel) (by decide +kernel)
theorem kw44 : Cond.lays "RangedPool$Lot" "RangedPool$Lot" "owner" "I" ∈ gA := gA_t (i := 44) (by decide +kernel) (by decide +kernel)
theorem kw46 : Cond.lays "RangedPool$Lot" "RangedPool$Lot" "lo" "I" ∈ gA := gA_t (i := 46) (by decide +kernel) (by decide +kernel)
theorem kw48 : Cond.lays "RangedPool$Lot" "RangedPool$Lot" "hi" "I" ∈ gA := gA_t (i := 48) (by decide +kernel) (by decide +kernel)
theorem kw50 : Cond.lays "RangedPool$Lot" "RangedPool$Lot" "liquidity" "J" ∈ gA := gA_t (i := 50) (by decide +kernel) (by decide +kernel)
theorem kw52 : Cond.laysFinal "RangedPool$Lot" "RangedPool$Lot" "owed" "[J" ∈ gA := gA_t (i := 52) (by decide +kernel) (by decide +kernel)
theorem kw54 : Cond.laysFinal "RangedPool$Lot" "RangedPool$Lot" "growth" "[J" ∈ gA := gA_t (i := 54) (by decide +kernel) (by decide +kernel)
theorem kw56 : Cond.lays "RangedPool$Lot" "RangedPool$Lot" "pending" "J" ∈ gA := gA_t (i := 56) (by decide +kernel) (by decide +kernel)
theorem kw59 : Cond.arrayClass .long ∈ gA := gA_t (i := 59) (by decide +kernel) (by decide +kernel)
theorem kw60 : Cond.fieldLink "RangedPool$LotBook" 11 "RangedPool$LotBook" "lots" "[LRangedPool$Lot;" ∈ gA := gA_t (i := 60) (by decide +kernel) (by decide +kernel)
theorem kw61 : Cond.laysFinal "RangedPool$LotBook" "RangedPool$LotBook" "lots" "[LRangedPool$Lot;" ∈ gA := gA_t (i := 61) (by decide +kernel) (by decide +kernel)
theorem kw64 : Cond.classLink "RangedPool" 25 "RangedPool$History" ∈ gA := gA_t (i := 64) (by decide +kernel) (by decide +kernel)
theorem kw65 : Cond.instantiable "RangedPool$History" 6 ∈ gA := gA_t (i := 65) (by decide +kernel) (by decide +kernel)
theorem kw67 : Cond.instanceMethod y_H_init ∈ gA := gA_t (i := 67) (by decide +kernel) (by decide +kernel)
set_option maxRecDepth 20000 in
theorem kw68 : Cond.code y_H_init prog_2_method_1_code 1 none ∈ gA := gA_t (i := 68) rfl (by decide +kernel)
theorem kw69 : Cond.methodLink "RangedPool$History" 3 ⟨"java/lang/Object", "<init>", "()V"⟩ ∈ gA := gA_t (i := 69) (by decide +kernel) (by decide +kernel)
theorem kw70 : Cond.fieldLink "RangedPool$History" 22 "RangedPool$History" "clock" "J" ∈ gA := gA_t (i := 70) (by decide +kernel) (by decide +kernel)
theorem kw72 : Cond.fieldLink "RangedPool$History" 26 "RangedPool$History" "sum" "J" ∈ gA := gA_t (i := 72) (by decide +kernel) (by decide +kernel)
theorem kw73 : Cond.fieldLink "RangedPool$History" 29 "RangedPool$History" "marks" "I" ∈ gA := gA_t (i := 73) (by decide +kernel) (by decide +kernel)
theorem kw74 : Cond.fieldLink "RangedPool$History" 9 "RangedPool$History" "times" "[J" ∈ gA := gA_t (i := 74) (by decide +kernel) (by decide +kernel)
theorem kw75 : Cond.fieldLink "RangedPool$History" 15 "RangedPool$History" "sums" "[J" ∈ gA := gA_t (i := 75) (by decide +kernel) (by decide +kernel)
theorem kw76 : Cond.fieldLink "RangedPool$History" 18 "RangedPool$History" "stepsBefore" "[I" ∈ gA := gA_t (i := 76) (by decide +kernel) (by decide +kernel)
theorem kw77 : Cond.lays "RangedPool$History" "RangedPool$History" "clock" "J" ∈ gA := gA_t (i := 77) (by decide +kernel) (by decide +kernel)
theorem kw79 : Cond.lays "RangedPool$History" "RangedPool$History" "sum" "J" ∈ gA := gA_t (i := 79) (by decide +kernel) (by decide +kernel)
theorem kw81 : Cond.lays "RangedPool$History" "RangedPool$History" "marks" "I" ∈ gA := gA_t (i := 81) (by decide +kernel) (by decide +kernel)
theorem kw83 : Cond.laysFinal "RangedPool$History" "RangedPool$History" "times" "[J" ∈ gA := gA_t (i := 83) (by decide +kernel) (by decide +kernel)
theorem kw85 : Cond.laysFinal "RangedPool$History" "RangedPool$History" "sums" "[J" ∈ gA := gA_t (i := 85) (by decide +kernel) (by decide +kernel)
theorem kw87 : Cond.laysFinal "RangedPool$History" "RangedPool$History" "stepsBefore" "[I" ∈ gA := gA_t (i := 87) (by decide +kernel) (by decide +kernel)
theorem kw90 : Cond.arrayClass .int ∈ gA := gA_t (i := 90) (by decide +kernel) (by decide +kernel)
theorem kw91 : Cond.methodLink "RangedPool" 32 y_P_isSpacing ∈ gA := gA_t (i := 91) (by decide +kernel) (by decide +kernel)
theorem kw92 : Cond.static y_P_isSpacing ∈ gA := gA_t (i := 92) (by decide +kernel) (by decide +kernel)
set_option maxRecDepth 20000 in
theorem kw93 : Cond.code y_P_isSpacing prog_1_method_19_code 1 (some .boolean) ∈ gA := gA_t (i := 93) rfl (by decide +kernel)
theorem kw94 : Cond.classLink "RangedPool" 43 "RangedPool$Trade" ∈ gA := gA_t (i := 94) (by decide +kernel) (by decide +kernel)
theorem kw95 : Cond.instantiable "RangedPool$Trade" 8 ∈ gA := gA_t (i := 95) (by decide +kernel) (by decide +kernel)
theorem kw97 : Cond.instanceMethod y_D_init ∈ gA := gA_t (i := 97) (by decide +kernel) (by decide +kernel)
set_option maxRecDepth 20000 in
theorem kw98 : Cond.code y_D_init prog_5_method_1_code 2 none ∈ gA := gA_t (i := 98) rfl (by decide +kernel)
theorem kw99 : Cond.methodLink "RangedPool$Trade" 3 ⟨"java/lang/Object", "<init>", "()V"⟩ ∈ gA := gA_t (i := 99) (by decide +kernel) (by decide +kernel)
theorem kw100 : Cond.fieldLink "RangedPool$Trade" 9 "RangedPool$Trade" "fee" "I" ∈ gA := gA_t (i := 100) (by decide +kernel) (by decide +kernel)
theorem kw101 : Cond.fieldLink "RangedPool$Trade" 15 "RangedPool$Trade" "down" "Z" ∈ gA := gA_t (i := 101) (by decide +kernel) (by decide +kernel)
theorem kw102 : Cond.fieldLink "RangedPool$Trade" 35 "RangedPool$Trade" "limit" "I" ∈ gA := gA_t (i := 102) (by decide +kernel) (by decide +kernel)
theorem kw103 : Cond.fieldLink "RangedPool$Trade" 32 "RangedPool$Trade" "left" "J" ∈ gA := gA_t (i := 103) (by decide +kernel) (by decide +kernel)
theorem kw104 : Cond.fieldLink "RangedPool$Trade" 19 "RangedPool$Trade" "price" "I" ∈ gA := gA_t (i := 104) (by decide +kernel) (by decide +kernel)
theorem kw106 : Cond.fieldLink "RangedPool$Trade" 22 "RangedPool$Trade" "step" "I" ∈ gA := gA_t (i := 106) (by decide +kernel) (by decide +kernel)
theorem kw108 : Cond.fieldLink "RangedPool$Trade" 25 "RangedPool$Trade" "paid" "J" ∈ gA := gA_t (i := 108) (by decide +kernel) (by decide +kernel)
theorem kw110 : Cond.fieldLink "RangedPool$Trade" 29 "RangedPool$Trade" "given" "J" ∈ gA := gA_t (i := 110) (by decide +kernel) (by decide +kernel)
theorem kw112 : Cond.laysFinal "RangedPool$Trade" "RangedPool$Trade" "fee" "I" ∈ gA := gA_t (i := 112) (by decide +kernel) (by decide +kernel)
theorem kw114 : Cond.lays "RangedPool$Trade" "RangedPool$Trade" "down" "Z" ∈ gA := gA_t (i := 114) (by decide +kernel) (by decide +kernel)
theorem kw116 : Cond.lays "RangedPool$Trade" "RangedPool$Trade" "limit" "I" ∈ gA := gA_t (i := 116) (by decide +kernel) (by decide +kernel)
theorem kw118 : Cond.lays "RangedPool$Trade" "RangedPool$Trade" "left" "J" ∈ gA := gA_t (i := 118) (by decide +kernel) (by decide +kernel)
theorem kw120 : Cond.lays "RangedPool$Trade" "RangedPool$Trade" "price" "I" ∈ gA := gA_t (i := 120) (by decide +kernel) (by decide +kernel)
theorem kw122 : Cond.lays "RangedPool$Trade" "RangedPool$Trade" "step" "I" ∈ gA := gA_t (i := 122) (by decide +kernel) (by decide +kernel)
theorem kw124 : Cond.lays "RangedPool$Trade" "RangedPool$Trade" "paid" "J" ∈ gA := gA_t (i := 124) (by decide +kernel) (by decide +kernel)
theorem kw126 : Cond.lays "RangedPool$Trade" "RangedPool$Trade" "given" "J" ∈ gA := gA_t (i := 126) (by decide +kernel) (by decide +kernel)
theorem kw129 : Cond.fieldLink "RangedPool" 36 "RangedPool" "spacing" "I" ∈ gA := gA_t (i := 129) (by decide +kernel) (by decide +kernel)
theorem kw130 : Cond.fieldLink "RangedPool" 40 "RangedPool" "fee" "I" ∈ gA := gA_t (i := 130) (by decide +kernel) (by decide +kernel)
theorem kw131 : Cond.fieldLink "RangedPool" 11 "RangedPool" "wallets" "[[J" ∈ gA := gA_t (i := 131) (by decide +kernel) (by decide +kernel)
theorem kw132 : Cond.fieldLink "RangedPool" 14 "RangedPool" "reserves" "[J" ∈ gA := gA_t (i := 132) (by decide +kernel) (by decide +kernel)
theorem kw133 : Cond.fieldLink "RangedPool" 21 "RangedPool" "book" "LRangedPool$LotBook;" ∈ gA := gA_t (i := 133) (by decide +kernel) (by decide +kernel)
theorem kw134 : Cond.fieldLink "RangedPool" 28 "RangedPool" "history" "LRangedPool$History;" ∈ gA := gA_t (i := 134) (by decide +kernel) (by decide +kernel)
theorem kw135 : Cond.fieldLink "RangedPool" 48 "RangedPool" "trade" "LRangedPool$Trade;" ∈ gA := gA_t (i := 135) (by decide +kernel) (by decide +kernel)
theorem kw136 : Cond.fieldLink "RangedPool" 52 "RangedPool" "opened" "Z" ∈ gA := gA_t (i := 136) (by decide +kernel) (by decide +kernel)
theorem kw137 : Cond.fieldLink "RangedPool" 63 "RangedPool" "currentPrice" "I" ∈ gA := gA_t (i := 137) (by decide +kernel) (by decide +kernel)
theorem kw138 : Cond.fieldLink "RangedPool" 66 "RangedPool" "currentStep" "I" ∈ gA := gA_t (i := 138) (by decide +kernel) (by decide +kernel)
theorem kw139 : Cond.laysFinal "RangedPool" "RangedPool" "spacing" "I" ∈ gA := gA_t (i := 139) (by decide +kernel) (by decide +kernel)
theorem kw141 : Cond.laysFinal "RangedPool" "RangedPool" "fee" "I" ∈ gA := gA_t (i := 141) (by decide +kernel) (by decide +kernel)
theorem kw143 : Cond.laysFinal "RangedPool" "RangedPool" "wallets" "[[J" ∈ gA := gA_t (i := 143) (by decide +kernel) (by decide +kernel)
theorem kw145 : Cond.laysFinal "RangedPool" "RangedPool" "reserves" "[J" ∈ gA := gA_t (i := 145) (by decide +kernel) (by decide +kernel)
theorem kw147 : Cond.laysFinal "RangedPool" "RangedPool" "book" "LRangedPool$LotBook;" ∈ gA := gA_t (i := 147) (by decide +kernel) (by decide +kernel)
theorem kw149 : Cond.laysFinal "RangedPool" "RangedPool" "history" "LRangedPool$History;" ∈ gA := gA_t (i := 149) (by decide +kernel) (by decide +kernel)
theorem kw151 : Cond.laysFinal "RangedPool" "RangedPool" "trade" "LRangedPool$Trade;" ∈ gA := gA_t (i := 151) (by decide +kernel) (by decide +kernel)
theorem kw153 : Cond.lays "RangedPool" "RangedPool" "opened" "Z" ∈ gA := gA_t (i := 153) (by decide +kernel) (by decide +kernel)
theorem kw155 : Cond.lays "RangedPool" "RangedPool" "currentPrice" "I" ∈ gA := gA_t (i := 155) (by decide +kernel) (by decide +kernel)
theorem kw157 : Cond.lays "RangedPool" "RangedPool" "currentStep" "I" ∈ gA := gA_t (i := 157) (by decide +kernel) (by decide +kernel)
theorem kw160 : Cond.methodLink "RangedPoolLaw" 21 y_P_open ∈ gA := gA_t (i := 160) (by decide +kernel) (by decide +kernel)
theorem kw161 : Cond.instanceMethod y_P_open ∈ gA := gA_t (i := 161) (by decide +kernel) (by decide +kernel)
theorem kw162 : Cond.selects "RangedPool" y_P_open y_P_open ∈ gA := gA_t (i := 162) (by decide +kernel) (by decide +kernel)
set_option maxRecDepth 20000 in
theorem kw163 : Cond.code y_P_open prog_1_method_2_code 2 (some .boolean) ∈ gA := gA_t (i := 163) rfl (by decide +kernel)
theorem kw164 : Cond.methodLink "RangedPool" 56 y_P_isStep ∈ gA := gA_t (i := 164) (by decide +kernel) (by decide +kernel)
theorem kw165 : Cond.static y_P_isStep ∈ gA := gA_t (i := 165) (by decide +kernel) (by decide +kernel)
set_option maxRecDepth 20000 in
theorem kw166 : Cond.code y_P_isStep prog_1_method_20_code 1 (some .boolean) ∈ gA := gA_t (i := 166) rfl (by decide +kernel)
theorem kw167 : Cond.methodLink "RangedPool" 59 y_P_priceOf ∈ gA := gA_t (i := 167) (by decide +kernel) (by decide +kernel)
theorem kw168 : Cond.static y_P_priceOf ∈ gA := gA_t (i := 168) (by decide +kernel) (by decide +kernel)
set_option maxRecDepth 20000 in
theorem kw169 : Cond.code y_P_priceOf prog_1_method_36_code 1 (some .int) ∈ gA := gA_t (i := 169) rfl (by decide +kernel)
theorem kw170 : Cond.fieldLink "RangedPool" 235 "RangedPool" "STEP_PRICES" "[I" ∈ gA := gA_t (i := 170) (by decide +kernel) (by decide +kernel)
theorem kw174 : Cond.instanceMethod y_H_mark ∈ gA := gA_t (i := 174) (by decide +kernel) (by decide +kernel)
set_option maxRecDepth 20000 in
theorem kw175 : Cond.code y_H_mark prog_2_method_3_code 2 none ∈ gA := gA_t (i := 175) rfl (by decide +kernel)
theorem kw176 : Cond.methodLink "RangedPool$History" 33 y_H_dropOldest ∈ gA := gA_t (i := 176) (by decide +kernel) (by decide +kernel)
theorem kw178 : Cond.instanceMethod y_H_dropOldest ∈ gA := gA_t (i := 178) (by decide +kernel) (by decide +kernel)
set_option maxRecDepth 20000 in
theorem kw179 : Cond.code y_H_dropOldest prog_2_method_4_code 2 none ∈ gA := gA_t (i := 179) rfl (by decide +kernel)
theorem kw180 : Cond.methodLink "RangedPoolLaw" 26 y_P_fund ∈ gA := gA_t (i := 180) (by decide +kernel) (by decide +kernel)
theorem kw181 : Cond.instanceMethod y_P_fund ∈ gA := gA_t (i := 181) (by decide +kernel) (by decide +kernel)
theorem kw182 : Cond.selects "RangedPool" y_P_fund y_P_fund ∈ gA := gA_t (i := 182) (by decide +kernel) (by decide +kernel)
set_option maxRecDepth 20000 in
theorem kw183 : Cond.code y_P_fund prog_1_method_3_code 4 (some .boolean) ∈ gA := gA_t (i := 183) rfl (by decide +kernel)
theorem kw184 : Cond.methodLink "RangedPool" 72 y_P_isOwner ∈ gA := gA_t (i := 184) (by decide +kernel) (by decide +kernel)
theorem kw185 : Cond.static y_P_isOwner ∈ gA := gA_t (i := 185) (by decide +kernel) (by decide +kernel)
set_option maxRecDepth 20000 in
theorem kw186 : Cond.code y_P_isOwner prog_1_method_21_code 1 (some .boolean) ∈ gA := gA_t (i := 186) rfl (by decide +kernel)
theorem kw187 : Cond.methodLink "RangedPool" 75 y_P_isToken ∈ gA := gA_t (i := 187) (by decide +kernel) (by decide +kernel)
theorem kw188 : Cond.static y_P_isToken ∈ gA := gA_t (i := 188) (by decide +kernel) (by decide +kernel)
set_option maxRecDepth 20000 in
theorem kw189 : Cond.code y_P_isToken prog_1_method_22_code 1 (some .boolean) ∈ gA := gA_t (i := 189) rfl (by decide +kernel)
theorem kw190 : Cond.constant "RangedPool" 78 1000000000 ∈ gA := gA_t (i := 190) (by decide +kernel) (by decide +kernel)
theorem kw191 : Cond.methodLink "RangedPoolLaw" 31 y_P_mint ∈ gA := gA_t (i := 191) (by decide +kernel) (by decide +kernel)
theorem kw192 : Cond.instanceMethod y_P_mint ∈ gA := gA_t (i := 192) (by decide +kernel) (by decide +kernel)
theorem kw193 : Cond.selects "RangedPool" y_P_mint y_P_mint ∈ gA := gA_t (i := 193) (by decide +kernel) (by decide +kernel)
set_option maxRecDepth 20000 in
theorem kw194 : Cond.code y_P_mint prog_1_method_4_code 10 (some .long) ∈ gA := gA_t (i := 194) rfl (by decide +kernel)
theorem kw195 : Cond.constantLong "RangedPool" 79 (-1) ∈ gA := gA_t (i := 195) (by decide +kernel) (by decide +kernel)
theorem kw196 : Cond.methodLink "RangedPool" 81 y_P_isRange ∈ gA := gA_t (i := 196) (by decide +kernel) (by decide +kernel)
theorem kw198 : Cond.instanceMethod y_P_isRange ∈ gA := gA_t (i := 198) (by decide +kernel) (by decide +kernel)
set_option maxRecDepth 20000 in
theorem kw199 : Cond.code y_P_isRange prog_1_method_23_code 3 (some .boolean) ∈ gA := gA_t (i := 199) rfl (by decide +kernel)
theorem kw200 : Cond.constant "RangedPool" 85 1000000 ∈ gA := gA_t (i := 200) (by decide +kernel) (by decide +kernel)
theorem kw201 : Cond.constantLong "RangedPool" 86 (-2) ∈ gA := gA_t (i := 201) (by decide +kernel) (by decide +kernel)
theorem kw204 : Cond.instanceMethod y_B_findOrFree ∈ gA := gA_t (i := 204) (by decide +kernel) (by decide +kernel)
set_option maxRecDepth 20000 in
theorem kw205 : Cond.code y_B_findOrFree prog_4_method_3_code 6 (some (.object "RangedPool$Lot")) ∈ gA := gA_t (i := 205) rfl (by decide +kernel)
theorem kw206 : Cond.methodLink "RangedPool$LotBook" 26 y_B_find ∈ gA := gA_t (i := 206) (by decide +kernel) (by decide +kernel)
theorem kw208 : Cond.instanceMethod y_B_find ∈ gA := gA_t (i := 208) (by decide +kernel) (by decide +kernel)
set_option maxRecDepth 20000 in
theorem kw209 : Cond.code y_B_find prog_4_method_2_code 8 (some (.object "RangedPool$Lot")) ∈ gA := gA_t (i := 209) rfl (by decide +kernel)
theorem kw212 : Cond.instanceMethod y_T_isThere ∈ gA := gA_t (i := 212) (by decide +kernel) (by decide +kernel)
set_option maxRecDepth 20000 in
theorem kw213 : Cond.code y_T_isThere prog_3_method_2_code 1 (some .boolean) ∈ gA := gA_t (i := 213) rfl (by decide +kernel)
theorem kw216 : Cond.instanceMethod y_T_isFor ∈ gA := gA_t (i := 216) (by decide +kernel) (by decide +kernel)
set_option maxRecDepth 20000 in
theorem kw217 : Cond.code y_T_isFor prog_3_method_3_code 4 (some .boolean) ∈ gA := gA_t (i := 217) rfl (by decide +kernel)
theorem kw220 : Cond.instanceMethod y_B_totalLiquidity ∈ gA := gA_t (i := 220) (by decide +kernel) (by decide +kernel)
set_option maxRecDepth 20000 in
theorem kw221 : Cond.code y_B_totalLiquidity prog_4_method_4_code 7 (some .long) ∈ gA := gA_t (i := 221) rfl (by decide +kernel)
theorem kw222 : Cond.constantLong "RangedPool" 96 1000000 ∈ gA := gA_t (i := 222) (by decide +kernel) (by decide +kernel)
theorem kw223 : Cond.constantLong "RangedPool" 98 (-4) ∈ gA := gA_t (i := 223) (by decide +kernel) (by decide +kernel)
theorem kw224 : Cond.methodLink "RangedPool" 100 y_P_zeroOfRange ∈ gA := gA_t (i := 224) (by decide +kernel) (by decide +kernel)
theorem kw226 : Cond.instanceMethod y_P_zeroOfRange ∈ gA := gA_t (i := 226) (by decide +kernel) (by decide +kernel)
set_option maxRecDepth 20000 in
theorem kw227 : Cond.code y_P_zeroOfRange prog_1_method_30_code 7 (some .long) ∈ gA := gA_t (i := 227) rfl (by decide +kernel)
theorem kw228 : Cond.methodLink "RangedPool" 224 y_P_zeroBetween ∈ gA := gA_t (i := 228) (by decide +kernel) (by decide +kernel)
theorem kw229 : Cond.static y_P_zeroBetween ∈ gA := gA_t (i := 229) (by decide +kernel) (by decide +kernel)
set_option maxRecDepth 20000 in
theorem kw230 : Cond.code y_P_zeroBetween prog_1_method_32_code 7 (some .long) ∈ gA := gA_t (i := 230) rfl (by decide +kernel)
theorem kw231 : Cond.constantLong "RangedPool" 231 65536 ∈ gA := gA_t (i := 231) (by decide +kernel) (by decide +kernel)
theorem kw232 : Cond.methodLink "RangedPool" 190 y_P_quotient ∈ gA := gA_t (i := 232) (by decide +kernel) (by decide +kernel)
theorem kw233 : Cond.static y_P_quotient ∈ gA := gA_t (i := 233) (by decide +kernel) (by decide +kernel)
set_option maxRecDepth 20000 in
theorem kw234 : Cond.code y_P_quotient prog_1_method_34_code 7 (some .long) ∈ gA := gA_t (i := 234) rfl (by decide +kernel)
theorem kw235 : Cond.methodLink "RangedPool" 104 y_P_oneOfRange ∈ gA := gA_t (i := 235) (by decide +kernel) (by decide +kernel)
theorem kw237 : Cond.instanceMethod y_P_oneOfRange ∈ gA := gA_t (i := 237) (by decide +kernel) (by decide +kernel)
set_option maxRecDepth 20000 in
theorem kw238 : Cond.code y_P_oneOfRange prog_1_method_31_code 7 (some .long) ∈ gA := gA_t (i := 238) rfl (by decide +kernel)
theorem kw239 : Cond.methodLink "RangedPool" 228 y_P_oneBetween ∈ gA := gA_t (i := 239) (by decide +kernel) (by decide +kernel)
theorem kw240 : Cond.static y_P_oneBetween ∈ gA := gA_t (i := 240) (by decide +kernel) (by decide +kernel)
set_option maxRecDepth 20000 in
theorem kw241 : Cond.code y_P_oneBetween prog_1_method_33_code 7 (some .long) ∈ gA := gA_t (i := 241) rfl (by decide +kernel)
theorem kw242 : Cond.methodLink "RangedPool" 107 y_P_canPay ∈ gA := gA_t (i := 242) (by decide +kernel) (by decide +kernel)
theorem kw244 : Cond.instanceMethod y_P_canPay ∈ gA := gA_t (i := 244) (by decide +kernel) (by decide +kernel)
set_option maxRecDepth 20000 in
theorem kw245 : Cond.code y_P_canPay prog_1_method_26_code 6 (some .boolean) ∈ gA := gA_t (i := 245) rfl (by decide +kernel)
theorem kw246 : Cond.constantLong "RangedPool" 111 (-5) ∈ gA := gA_t (i := 246) (by decide +kernel) (by decide +kernel)
theorem kw247 : Cond.methodLink "RangedPool" 113 y_P_pay ∈ gA := gA_t (i := 247) (by decide +kernel) (by decide +kernel)
theorem kw249 : Cond.instanceMethod y_P_pay ∈ gA := gA_t (i := 249) (by decide +kernel) (by decide +kernel)
set_option maxRecDepth 20000 in
theorem kw250 : Cond.code y_P_pay prog_1_method_27_code 6 none ∈ gA := gA_t (i := 250) rfl (by decide +kernel)
theorem kw251 : Cond.methodLink "RangedPool" 165 y_P_transfer ∈ gA := gA_t (i := 251) (by decide +kernel) (by decide +kernel)
theorem kw253 : Cond.instanceMethod y_P_transfer ∈ gA := gA_t (i := 253) (by decide +kernel) (by decide +kernel)
set_option maxRecDepth 20000 in
theorem kw254 : Cond.code y_P_transfer prog_1_method_28_code 5 none ∈ gA := gA_t (i := 254) rfl (by decide +kernel)
theorem kw258 : Cond.instanceMethod y_T_begin ∈ gA := gA_t (i := 258) (by decide +kernel) (by decide +kernel)
set_option maxRecDepth 20000 in
theorem kw259 : Cond.code y_T_begin prog_3_method_5_code 4 none ∈ gA := gA_t (i := 259) rfl (by decide +kernel)
theorem kw262 : Cond.instanceMethod y_T_settle ∈ gA := gA_t (i := 262) (by decide +kernel) (by decide +kernel)
set_option maxRecDepth 20000 in
theorem kw263 : Cond.code y_T_settle prog_3_method_6_code 2 none ∈ gA := gA_t (i := 263) rfl (by decide +kernel)
theorem kw264 : Cond.constantLong "RangedPool$Lot" 32 4294967296 ∈ gA := gA_t (i := 264) (by decide +kernel) (by decide +kernel)
theorem kw265 : Cond.methodLink "RangedPool" 134 y_P_pair ∈ gA := gA_t (i := 265) (by decide +kernel) (by decide +kernel)
theorem kw266 : Cond.static y_P_pair ∈ gA := gA_t (i := 266) (by decide +kernel) (by decide +kernel)
set_option maxRecDepth 20000 in
theorem kw267 : Cond.code y_P_pair prog_1_method_35_code 4 (some .long) ∈ gA := gA_t (i := 267) rfl (by decide +kernel)
theorem kw268 : Cond.constantLong "RangedPool" 233 4294967296 ∈ gA := gA_t (i := 268) (by decide +kernel) (by decide +kernel)
theorem kw269 : Cond.methodLink "RangedPoolLaw" 36 y_P_burn ∈ gA := gA_t (i := 269) (by decide +kernel) (by decide +kernel)
theorem kw270 : Cond.instanceMethod y_P_burn ∈ gA := gA_t (i := 270) (by decide +kernel) (by decide +kernel)
theorem kw271 : Cond.selects "RangedPool" y_P_burn y_P_burn ∈ gA := gA_t (i := 271) (by decide +kernel) (by decide +kernel)
set_option maxRecDepth 20000 in
theorem kw272 : Cond.code y_P_burn prog_1_method_5_code 10 (some .long) ∈ gA := gA_t (i := 272) rfl (by decide +kernel)
theorem kw274 : Cond.constantLong "RangedPool" 141 (-3) ∈ gA := gA_t (i := 274) (by decide +kernel) (by decide +kernel)
theorem kw275 : Cond.methodLink "RangedPoolLaw" 40 y_P_collect ∈ gA := gA_t (i := 275) (by decide +kernel) (by decide +kernel)
theorem kw276 : Cond.instanceMethod y_P_collect ∈ gA := gA_t (i := 276) (by decide +kernel) (by decide +kernel)
theorem kw277 : Cond.selects "RangedPool" y_P_collect y_P_collect ∈ gA := gA_t (i := 277) (by decide +kernel) (by decide +kernel)
set_option maxRecDepth 20000 in
theorem kw278 : Cond.code y_P_collect prog_1_method_6_code 9 (some .long) ∈ gA := gA_t (i := 278) rfl (by decide +kernel)
theorem kw279 : Cond.methodLink "RangedPoolLaw" 45 y_P_swap ∈ gA := gA_t (i := 279) (by decide +kernel) (by decide +kernel)
theorem kw280 : Cond.instanceMethod y_P_swap ∈ gA := gA_t (i := 280) (by decide +kernel) (by decide +kernel)
theorem kw281 : Cond.selects "RangedPool" y_P_swap y_P_swap ∈ gA := gA_t (i := 281) (by decide +kernel) (by decide +kernel)
set_option maxRecDepth 20000 in
theorem kw282 : Cond.code y_P_swap prog_1_method_7_code 6 (some .long) ∈ gA := gA_t (i := 282) rfl (by decide +kernel)
theorem kw283 : Cond.methodLink "RangedPool" 146 y_P_isTrade ∈ gA := gA_t (i := 283) (by decide +kernel) (by decide +kernel)
theorem kw285 : Cond.instanceMethod y_P_isTrade ∈ gA := gA_t (i := 285) (by decide +kernel) (by decide +kernel)
set_option maxRecDepth 20000 in
theorem kw286 : Cond.code y_P_isTrade prog_1_method_24_code 4 (some .boolean) ∈ gA := gA_t (i := 286) rfl (by decide +kernel)
theorem kw287 : Cond.constant "RangedPool" 217 (-1000000) ∈ gA := gA_t (i := 287) (by decide +kernel) (by decide +kernel)
theorem kw290 : Cond.instanceMethod y_D_startAt ∈ gA := gA_t (i := 290) (by decide +kernel) (by decide +kernel)
set_option maxRecDepth 20000 in
theorem kw291 : Cond.code y_D_startAt prog_5_method_3_code 4 none ∈ gA := gA_t (i := 291) rfl (by decide +kernel)
theorem kw294 : Cond.instanceMethod y_D_workOut ∈ gA := gA_t (i := 294) (by decide +kernel) (by decide +kernel)
set_option maxRecDepth 20000 in
theorem kw295 : Cond.code y_D_workOut prog_5_method_4_code 5 none ∈ gA := gA_t (i := 295) rfl (by decide +kernel)
theorem kw298 : Cond.instanceMethod y_B_clearPendingGrowth ∈ gA := gA_t (i := 298) (by decide +kernel) (by decide +kernel)
set_option maxRecDepth 20000 in
theorem kw299 : Cond.code y_B_clearPendingGrowth prog_4_method_9_code 5 none ∈ gA := gA_t (i := 299) rfl (by decide +kernel)
theorem kw300 : Cond.methodLink "RangedPool$Trade" 43 y_D_goOneLeg ∈ gA := gA_t (i := 300) (by decide +kernel) (by decide +kernel)
theorem kw302 : Cond.instanceMethod y_D_goOneLeg ∈ gA := gA_t (i := 302) (by decide +kernel) (by decide +kernel)
set_option maxRecDepth 20000 in
theorem kw303 : Cond.code y_D_goOneLeg prog_5_method_5_code 14 none ∈ gA := gA_t (i := 303) rfl (by decide +kernel)
theorem kw306 : Cond.instanceMethod y_B_markedAtOrBelow ∈ gA := gA_t (i := 306) (by decide +kernel) (by decide +kernel)
set_option maxRecDepth 20000 in
theorem kw307 : Cond.code y_B_markedAtOrBelow prog_4_method_7_code 8 (some .int) ∈ gA := gA_t (i := 307) rfl (by decide +kernel)
theorem kw310 : Cond.instanceMethod y_B_markedAbove ∈ gA := gA_t (i := 310) (by decide +kernel) (by decide +kernel)
set_option maxRecDepth 20000 in
theorem kw311 : Cond.code y_B_markedAbove prog_4_method_8_code 8 (some .int) ∈ gA := gA_t (i := 311) rfl (by decide +kernel)
theorem kw312 : Cond.methodLink "RangedPool$Trade" 54 y_D_targetBefore ∈ gA := gA_t (i := 312) (by decide +kernel) (by decide +kernel)
theorem kw314 : Cond.instanceMethod y_D_targetBefore ∈ gA := gA_t (i := 314) (by decide +kernel) (by decide +kernel)
set_option maxRecDepth 20000 in
theorem kw315 : Cond.code y_D_targetBefore prog_5_method_6_code 2 (some .int) ∈ gA := gA_t (i := 315) rfl (by decide +kernel)
theorem kw317 : Cond.methodLink "RangedPool$Trade" 98 ⟨"java/lang/Math", "max", "(II)I"⟩ ∈ gA := gA_t (i := 317) (by decide +kernel) (by decide +kernel)
theorem kw318 : Cond.static ⟨"java/lang/Math", "max", "(II)I"⟩ ∈ gA := gA_t (i := 318) (by decide +kernel) (by decide +kernel)
set_option maxRecDepth 20000 in
theorem kw319 : Cond.code ⟨"java/lang/Math", "max", "(II)I"⟩ prog_8_method_65_code 2 (some .int) ∈ gA := gA_t (i := 319) rfl (by decide +kernel)
theorem kw320 : Cond.methodLink "RangedPool$Trade" 102 ⟨"java/lang/Math", "min", "(II)I"⟩ ∈ gA := gA_t (i := 320) (by decide +kernel) (by decide +kernel)
theorem kw321 : Cond.static ⟨"java/lang/Math", "min", "(II)I"⟩ ∈ gA := gA_t (i := 321) (by decide +kernel) (by decide +kernel)
set_option maxRecDepth 20000 in
theorem kw322 : Cond.code ⟨"java/lang/Math", "min", "(II)I"⟩ prog_8_method_69_code 2 (some .int) ∈ gA := gA_t (i := 322) rfl (by decide +kernel)
theorem kw325 : Cond.instanceMethod y_B_depthAt ∈ gA := gA_t (i := 325) (by decide +kernel) (by decide +kernel)
set_option maxRecDepth 20000 in
theorem kw326 : Cond.code y_B_depthAt prog_4_method_5_code 8 (some .long) ∈ gA := gA_t (i := 326) rfl (by decide +kernel)
theorem kw329 : Cond.instanceMethod y_T_isInRange ∈ gA := gA_t (i := 329) (by decide +kernel) (by decide +kernel)
set_option maxRecDepth 20000 in
theorem kw330 : Cond.code y_T_isInRange prog_3_method_4_code 2 (some .boolean) ∈ gA := gA_t (i := 330) rfl (by decide +kernel)
theorem kw331 : Cond.methodLink "RangedPool$Trade" 61 y_D_priceAfterPaying ∈ gA := gA_t (i := 331) (by decide +kernel) (by decide +kernel)
theorem kw333 : Cond.instanceMethod y_D_priceAfterPaying ∈ gA := gA_t (i := 333) (by decide +kernel) (by decide +kernel)
set_option maxRecDepth 20000 in
theorem kw334 : Cond.code y_D_priceAfterPaying prog_5_method_7_code 6 (some .int) ∈ gA := gA_t (i := 334) rfl (by decide +kernel)
theorem kw335 : Cond.constantLong "RangedPool$Trade" 81 1000 ∈ gA := gA_t (i := 335) (by decide +kernel) (by decide +kernel)
theorem kw336 : Cond.methodLink "RangedPool$Trade" 68 y_D_amountIn ∈ gA := gA_t (i := 336) (by decide +kernel) (by decide +kernel)
theorem kw338 : Cond.instanceMethod y_D_amountIn ∈ gA := gA_t (i := 338) (by decide +kernel) (by decide +kernel)
set_option maxRecDepth 20000 in
theorem kw339 : Cond.code y_D_amountIn prog_5_method_9_code 4 (some .long) ∈ gA := gA_t (i := 339) rfl (by decide +kernel)
theorem kw342 : Cond.constantLong "RangedPool$Trade" 104 65536 ∈ gA := gA_t (i := 342) (by decide +kernel) (by decide +kernel)
theorem kw344 : Cond.methodLink "RangedPool$Trade" 65 y_D_priceAfterTaking ∈ gA := gA_t (i := 344) (by decide +kernel) (by decide +kernel)
theorem kw346 : Cond.instanceMethod y_D_priceAfterTaking ∈ gA := gA_t (i := 346) (by decide +kernel) (by decide +kernel)
set_option maxRecDepth 20000 in
theorem kw347 : Cond.code y_D_priceAfterTaking prog_5_method_8_code 6 (some .int) ∈ gA := gA_t (i := 347) rfl (by decide +kernel)
theorem kw348 : Cond.methodLink "RangedPool$Trade" 72 y_D_amountOut ∈ gA := gA_t (i := 348) (by decide +kernel) (by decide +kernel)
theorem kw350 : Cond.instanceMethod y_D_amountOut ∈ gA := gA_t (i := 350) (by decide +kernel) (by decide +kernel)
set_option maxRecDepth 20000 in
theorem kw351 : Cond.code y_D_amountOut prog_5_method_10_code 4 (some .long) ∈ gA := gA_t (i := 351) rfl (by decide +kernel)
theorem kw352 : Cond.methodLink "RangedPool$Trade" 75 ⟨"java/lang/Math", "min", "(JJ)J"⟩ ∈ gA := gA_t (i := 352) (by decide +kernel) (by decide +kernel)
theorem kw353 : Cond.static ⟨"java/lang/Math", "min", "(JJ)J"⟩ ∈ gA := gA_t (i := 353) (by decide +kernel) (by decide +kernel)
set_option maxRecDepth 20000 in
theorem kw354 : Cond.code ⟨"java/lang/Math", "min", "(JJ)J"⟩ prog_8_method_70_code 4 (some .long) ∈ gA := gA_t (i := 354) rfl (by decide +kernel)
theorem kw357 : Cond.instanceMethod y_B_growPending ∈ gA := gA_t (i := 357) (by decide +kernel) (by decide +kernel)
set_option maxRecDepth 20000 in
theorem kw358 : Cond.code y_B_growPending prog_4_method_10_code 12 none ∈ gA := gA_t (i := 358) rfl (by decide +kernel)
theorem kw359 : Cond.constantLong "RangedPool$LotBook" 48 4294967296 ∈ gA := gA_t (i := 359) (by decide +kernel) (by decide +kernel)
theorem kw361 : Cond.methodLink "RangedPool$Trade" 91 y_D_moveTo ∈ gA := gA_t (i := 361) (by decide +kernel) (by decide +kernel)
theorem kw363 : Cond.instanceMethod y_D_moveTo ∈ gA := gA_t (i := 363) (by decide +kernel) (by decide +kernel)
set_option maxRecDepth 20000 in
theorem kw364 : Cond.code y_D_moveTo prog_5_method_11_code 4 none ∈ gA := gA_t (i := 364) rfl (by decide +kernel)
theorem kw366 : Cond.static y_P_greatestStepAt ∈ gA := gA_t (i := 366) (by decide +kernel) (by decide +kernel)
set_option maxRecDepth 20000 in
theorem kw367 : Cond.code y_P_greatestStepAt prog_1_method_37_code 2 (some .int) ∈ gA := gA_t (i := 367) rfl (by decide +kernel)
theorem kw370 : Cond.instanceMethod y_D_tokenIn ∈ gA := gA_t (i := 370) (by decide +kernel) (by decide +kernel)
set_option maxRecDepth 20000 in
theorem kw371 : Cond.code y_D_tokenIn prog_5_method_2_code 1 (some .int) ∈ gA := gA_t (i := 371) rfl (by decide +kernel)
theorem kw374 : Cond.instanceMethod y_B_keepPendingGrowth ∈ gA := gA_t (i := 374) (by decide +kernel) (by decide +kernel)
set_option maxRecDepth 20000 in
theorem kw375 : Cond.code y_B_keepPendingGrowth prog_4_method_11_code 6 none ∈ gA := gA_t (i := 375) rfl (by decide +kernel)
theorem kw376 : Cond.methodLink "RangedPoolLaw" 50 y_P_quote ∈ gA := gA_t (i := 376) (by decide +kernel) (by decide +kernel)
theorem kw377 : Cond.instanceMethod y_P_quote ∈ gA := gA_t (i := 377) (by decide +kernel) (by decide +kernel)
theorem kw378 : Cond.selects "RangedPool" y_P_quote y_P_quote ∈ gA := gA_t (i := 378) (by decide +kernel) (by decide +kernel)
set_option maxRecDepth 20000 in
theorem kw379 : Cond.code y_P_quote prog_1_method_8_code 4 (some .long) ∈ gA := gA_t (i := 379) rfl (by decide +kernel)
theorem kw380 : Cond.methodLink "RangedPoolLaw" 55 y_P_flash ∈ gA := gA_t (i := 380) (by decide +kernel) (by decide +kernel)
theorem kw381 : Cond.instanceMethod y_P_flash ∈ gA := gA_t (i := 381) (by decide +kernel) (by decide +kernel)
theorem kw382 : Cond.selects "RangedPool" y_P_flash y_P_flash ∈ gA := gA_t (i := 382) (by decide +kernel) (by decide +kernel)
set_option maxRecDepth 20000 in
theorem kw383 : Cond.code y_P_flash prog_1_method_9_code 10 (some .long) ∈ gA := gA_t (i := 383) rfl (by decide +kernel)
theorem kw385 : Cond.methodLink "RangedPool" 185 y_P_canLend ∈ gA := gA_t (i := 385) (by decide +kernel) (by decide +kernel)
theorem kw387 : Cond.instanceMethod y_P_canLend ∈ gA := gA_t (i := 387) (by decide +kernel) (by decide +kernel)
set_option maxRecDepth 20000 in
theorem kw388 : Cond.code y_P_canLend prog_1_method_25_code 3 (some .boolean) ∈ gA := gA_t (i := 388) rfl (by decide +kernel)
theorem kw389 : Cond.constantLong "RangedPool" 188 1000 ∈ gA := gA_t (i := 389) (by decide +kernel) (by decide +kernel)
theorem kw390 : Cond.methodLink "RangedPool" 194 y_P_takeFee ∈ gA := gA_t (i := 390) (by decide +kernel) (by decide +kernel)
theorem kw392 : Cond.instanceMethod y_P_takeFee ∈ gA := gA_t (i := 392) (by decide +kernel) (by decide +kernel)
set_option maxRecDepth 20000 in
theorem kw393 : Cond.code y_P_takeFee prog_1_method_29_code 6 none ∈ gA := gA_t (i := 393) rfl (by decide +kernel)
theorem kw396 : Cond.methodLink "RangedPoolLaw" 59 y_P_advance ∈ gA := gA_t (i := 396) (by decide +kernel) (by decide +kernel)
theorem kw397 : Cond.instanceMethod y_P_advance ∈ gA := gA_t (i := 397) (by decide +kernel) (by decide +kernel)
theorem kw398 : Cond.selects "RangedPool" y_P_advance y_P_advance ∈ gA := gA_t (i := 398) (by decide +kernel) (by decide +kernel)
set_option maxRecDepth 20000 in
theorem kw399 : Cond.code y_P_advance prog_1_method_10_code 2 (some .boolean) ∈ gA := gA_t (i := 399) rfl (by decide +kernel)
theorem kw402 : Cond.instanceMethod y_H_tick ∈ gA := gA_t (i := 402) (by decide +kernel) (by decide +kernel)
set_option maxRecDepth 20000 in
theorem kw403 : Cond.code y_H_tick prog_2_method_2_code 3 none ∈ gA := gA_t (i := 403) rfl (by decide +kernel)
theorem kw404 : Cond.methodLink "RangedPoolLaw" 63 y_P_observe ∈ gA := gA_t (i := 404) (by decide +kernel) (by decide +kernel)
theorem kw405 : Cond.instanceMethod y_P_observe ∈ gA := gA_t (i := 405) (by decide +kernel) (by decide +kernel)
theorem kw406 : Cond.selects "RangedPool" y_P_observe y_P_observe ∈ gA := gA_t (i := 406) (by decide +kernel) (by decide +kernel)
set_option maxRecDepth 20000 in
theorem kw407 : Cond.code y_P_observe prog_1_method_11_code 4 (some .long) ∈ gA := gA_t (i := 407) rfl (by decide +kernel)
theorem kw410 : Cond.instanceMethod y_H_reaches ∈ gA := gA_t (i := 410) (by decide +kernel) (by decide +kernel)
set_option maxRecDepth 20000 in
theorem kw411 : Cond.code y_H_reaches prog_2_method_5_code 3 (some .boolean) ∈ gA := gA_t (i := 411) rfl (by decide +kernel)
theorem kw414 : Cond.instanceMethod y_H_sumAt ∈ gA := gA_t (i := 414) (by decide +kernel) (by decide +kernel)
set_option maxRecDepth 20000 in
theorem kw415 : Cond.code y_H_sumAt prog_2_method_6_code 10 (some .long) ∈ gA := gA_t (i := 415) rfl (by decide +kernel)
theorem kw416 : Cond.constantLong "RangedPool" 212 (-1000000000) ∈ gA := gA_t (i := 416) (by decide +kernel) (by decide +kernel)
theorem kw417 : Cond.methodLink "RangedPoolLaw" 68 y_P_price ∈ gA := gA_t (i := 417) (by decide +kernel) (by decide +kernel)
theorem kw418 : Cond.instanceMethod y_P_price ∈ gA := gA_t (i := 418) (by decide +kernel) (by decide +kernel)
theorem kw419 : Cond.selects "RangedPool" y_P_price y_P_price ∈ gA := gA_t (i := 419) (by decide +kernel) (by decide +kernel)
set_option maxRecDepth 20000 in
theorem kw420 : Cond.code y_P_price prog_1_method_12_code 1 (some .int) ∈ gA := gA_t (i := 420) rfl (by decide +kernel)
theorem kw421 : Cond.methodLink "RangedPoolLaw" 73 y_P_step ∈ gA := gA_t (i := 421) (by decide +kernel) (by decide +kernel)
theorem kw422 : Cond.instanceMethod y_P_step ∈ gA := gA_t (i := 422) (by decide +kernel) (by decide +kernel)
theorem kw423 : Cond.selects "RangedPool" y_P_step y_P_step ∈ gA := gA_t (i := 423) (by decide +kernel) (by decide +kernel)
set_option maxRecDepth 20000 in
theorem kw424 : Cond.code y_P_step prog_1_method_13_code 1 (some .int) ∈ gA := gA_t (i := 424) rfl (by decide +kernel)
theorem kw425 : Cond.methodLink "RangedPoolLaw" 77 y_P_depth ∈ gA := gA_t (i := 425) (by decide +kernel) (by decide +kernel)
theorem kw426 : Cond.instanceMethod y_P_depth ∈ gA := gA_t (i := 426) (by decide +kernel) (by decide +kernel)
theorem kw427 : Cond.selects "RangedPool" y_P_depth y_P_depth ∈ gA := gA_t (i := 427) (by decide +kernel) (by decide +kernel)
set_option maxRecDepth 20000 in
theorem kw428 : Cond.code y_P_depth prog_1_method_14_code 1 (some .int) ∈ gA := gA_t (i := 428) rfl (by decide +kernel)
theorem kw429 : Cond.methodLink "RangedPoolLaw" 81 y_P_wallet ∈ gA := gA_t (i := 429) (by decide +kernel) (by decide +kernel)
theorem kw430 : Cond.instanceMethod y_P_wallet ∈ gA := gA_t (i := 430) (by decide +kernel) (by decide +kernel)
theorem kw431 : Cond.selects "RangedPool" y_P_wallet y_P_wallet ∈ gA := gA_t (i := 431) (by decide +kernel) (by decide +kernel)
set_option maxRecDepth 20000 in
theorem kw432 : Cond.code y_P_wallet prog_1_method_15_code 3 (some .long) ∈ gA := gA_t (i := 432) rfl (by decide +kernel)
theorem kw433 : Cond.methodLink "RangedPoolLaw" 86 y_P_reserve ∈ gA := gA_t (i := 433) (by decide +kernel) (by decide +kernel)
theorem kw434 : Cond.instanceMethod y_P_reserve ∈ gA := gA_t (i := 434) (by decide +kernel) (by decide +kernel)
theorem kw435 : Cond.selects "RangedPool" y_P_reserve y_P_reserve ∈ gA := gA_t (i := 435) (by decide +kernel) (by decide +kernel)
set_option maxRecDepth 20000 in
theorem kw436 : Cond.code y_P_reserve prog_1_method_16_code 2 (some .long) ∈ gA := gA_t (i := 436) rfl (by decide +kernel)
theorem kw437 : Cond.methodLink "RangedPoolLaw" 90 y_P_lot ∈ gA := gA_t (i := 437) (by decide +kernel) (by decide +kernel)
theorem kw438 : Cond.instanceMethod y_P_lot ∈ gA := gA_t (i := 438) (by decide +kernel) (by decide +kernel)
theorem kw439 : Cond.selects "RangedPool" y_P_lot y_P_lot ∈ gA := gA_t (i := 439) (by decide +kernel) (by decide +kernel)
set_option maxRecDepth 20000 in
theorem kw440 : Cond.code y_P_lot prog_1_method_17_code 6 (some .long) ∈ gA := gA_t (i := 440) rfl (by decide +kernel)
theorem kw441 : Cond.methodLink "RangedPoolLaw" 94 y_P_net ∈ gA := gA_t (i := 441) (by decide +kernel) (by decide +kernel)
theorem kw442 : Cond.instanceMethod y_P_net ∈ gA := gA_t (i := 442) (by decide +kernel) (by decide +kernel)
theorem kw443 : Cond.selects "RangedPool" y_P_net y_P_net ∈ gA := gA_t (i := 443) (by decide +kernel) (by decide +kernel)
set_option maxRecDepth 20000 in
theorem kw444 : Cond.code y_P_net prog_1_method_18_code 2 (some .int) ∈ gA := gA_t (i := 444) rfl (by decide +kernel)
theorem kw447 : Cond.instanceMethod y_B_netAt ∈ gA := gA_t (i := 447) (by decide +kernel) (by decide +kernel)
set_option maxRecDepth 20000 in
theorem kw448 : Cond.code y_B_netAt prog_4_method_6_code 8 (some .long) ∈ gA := gA_t (i := 448) rfl (by decide +kernel)
theorem kw449 : Cond.methodLink "RangedPoolLaw" 9 y_L_cell ∈ gA := gA_t (i := 449) (by decide +kernel) (by decide +kernel)
theorem kw450 : Cond.static y_L_cell ∈ gA := gA_t (i := 450) (by decide +kernel) (by decide +kernel)
set_option maxRecDepth 20000 in
theorem kw451 : Cond.code y_L_cell method_2_code 2 (some .int) ∈ gA := gA_t (i := 451) rfl (by decide +kernel)
theorem kw452 : Cond.classLink "RangedPoolLaw" 18 "RangedPoolModel" ∈ gA := gA_t (i := 452) (by decide +kernel) (by decide +kernel)
theorem kw453 : Cond.instantiable "RangedPoolModel" 26 ∈ gA := gA_t (i := 453) (by decide +kernel) (by decide +kernel)
theorem kw454 : Cond.methodLink "RangedPoolLaw" 20 y_M_init ∈ gA := gA_t (i := 454) (by decide +kernel) (by decide +kernel)
theorem kw455 : Cond.instanceMethod y_M_init ∈ gA := gA_t (i := 455) (by decide +kernel) (by decide +kernel)
set_option maxRecDepth 20000 in
theorem kw456 : Cond.code y_M_init prog_7_method_1_code 5 none ∈ gA := gA_t (i := 456) rfl (by decide +kernel)
theorem kw457 : Cond.methodLink "RangedPoolModel" 1 ⟨"java/lang/Object", "<init>", "()V"⟩ ∈ gA := gA_t (i := 457) (by decide +kernel) (by decide +kernel)
theorem kw458 : Cond.constantLong "RangedPoolModel" 58 65536 ∈ gA := gA_t (i := 458) (by decide +kernel) (by decide +kernel)
theorem kw459 : Cond.constantLong "RangedPoolModel" 60 1025 ∈ gA := gA_t (i := 459) (by decide +kernel) (by decide +kernel)
theorem kw460 : Cond.constantLong "RangedPoolModel" 62 1000 ∈ gA := gA_t (i := 460) (by decide +kernel) (by decide +kernel)
theorem kw461 : Cond.fieldLink "RangedPoolModel" 51 "RangedPoolModel" "spacing" "I" ∈ gA := gA_t (i := 461) (by decide +kernel) (by decide +kernel)
theorem kw462 : Cond.fieldLink "RangedPoolModel" 55 "RangedPoolModel" "fee" "I" ∈ gA := gA_t (i := 462) (by decide +kernel) (by decide +kernel)
theorem kw463 : Cond.fieldLink "RangedPoolModel" 7 "RangedPoolModel" "steps" "[J" ∈ gA := gA_t (i := 463) (by decide +kernel) (by decide +kernel)
theorem kw464 : Cond.fieldLink "RangedPoolModel" 78 "RangedPoolModel" "open" "Z" ∈ gA := gA_t (i := 464) (by decide +kernel) (by decide +kernel)
theorem kw465 : Cond.fieldLink "RangedPoolModel" 93 "RangedPoolModel" "p" "J" ∈ gA := gA_t (i := 465) (by decide +kernel) (by decide +kernel)
theorem kw466 : Cond.fieldLink "RangedPoolModel" 86 "RangedPoolModel" "c" "I" ∈ gA := gA_t (i := 466) (by decide +kernel) (by decide +kernel)
theorem kw467 : Cond.fieldLink "RangedPoolModel" 13 "RangedPoolModel" "wallets" "[J" ∈ gA := gA_t (i := 467) (by decide +kernel) (by decide +kernel)
theorem kw468 : Cond.fieldLink "RangedPoolModel" 16 "RangedPoolModel" "reserves" "[J" ∈ gA := gA_t (i := 468) (by decide +kernel) (by decide +kernel)
theorem kw469 : Cond.fieldLink "RangedPoolModel" 19 "RangedPoolModel" "there" "[Z" ∈ gA := gA_t (i := 469) (by decide +kernel) (by decide +kernel)
theorem kw470 : Cond.fieldLink "RangedPoolModel" 23 "RangedPoolModel" "owners" "[I" ∈ gA := gA_t (i := 470) (by decide +kernel) (by decide +kernel)
theorem kw471 : Cond.fieldLink "RangedPoolModel" 27 "RangedPoolModel" "lows" "[I" ∈ gA := gA_t (i := 471) (by decide +kernel) (by decide +kernel)
theorem kw472 : Cond.fieldLink "RangedPoolModel" 30 "RangedPoolModel" "highs" "[I" ∈ gA := gA_t (i := 472) (by decide +kernel) (by decide +kernel)
theorem kw473 : Cond.fieldLink "RangedPoolModel" 33 "RangedPoolModel" "liquidity" "[J" ∈ gA := gA_t (i := 473) (by decide +kernel) (by decide +kernel)
theorem kw474 : Cond.fieldLink "RangedPoolModel" 36 "RangedPoolModel" "owed" "[J" ∈ gA := gA_t (i := 474) (by decide +kernel) (by decide +kernel)
theorem kw475 : Cond.fieldLink "RangedPoolModel" 39 "RangedPoolModel" "growth" "[J" ∈ gA := gA_t (i := 475) (by decide +kernel) (by decide +kernel)
theorem kw476 : Cond.fieldLink "RangedPoolModel" 71 "RangedPoolModel" "clock" "J" ∈ gA := gA_t (i := 476) (by decide +kernel) (by decide +kernel)
theorem kw477 : Cond.fieldLink "RangedPoolModel" 75 "RangedPoolModel" "sum" "J" ∈ gA := gA_t (i := 477) (by decide +kernel) (by decide +kernel)
theorem kw478 : Cond.fieldLink "RangedPoolModel" 68 "RangedPoolModel" "marks" "I" ∈ gA := gA_t (i := 478) (by decide +kernel) (by decide +kernel)
theorem kw479 : Cond.fieldLink "RangedPoolModel" 42 "RangedPoolModel" "markTime" "[J" ∈ gA := gA_t (i := 479) (by decide +kernel) (by decide +kernel)
theorem kw480 : Cond.fieldLink "RangedPoolModel" 45 "RangedPoolModel" "markSum" "[J" ∈ gA := gA_t (i := 480) (by decide +kernel) (by decide +kernel)
theorem kw481 : Cond.fieldLink "RangedPoolModel" 160 "RangedPoolModel" "swapP" "J" ∈ gA := gA_t (i := 481) (by decide +kernel) (by decide +kernel)
theorem kw482 : Cond.fieldLink "RangedPoolModel" 154 "RangedPoolModel" "swapC" "I" ∈ gA := gA_t (i := 482) (by decide +kernel) (by decide +kernel)
theorem kw483 : Cond.fieldLink "RangedPoolModel" 157 "RangedPoolModel" "left" "J" ∈ gA := gA_t (i := 483) (by decide +kernel) (by decide +kernel)
theorem kw484 : Cond.fieldLink "RangedPoolModel" 180 "RangedPoolModel" "paid" "J" ∈ gA := gA_t (i := 484) (by decide +kernel) (by decide +kernel)
theorem kw485 : Cond.fieldLink "RangedPoolModel" 183 "RangedPoolModel" "out" "J" ∈ gA := gA_t (i := 485) (by decide +kernel) (by decide +kernel)
theorem kw486 : Cond.fieldLink "RangedPoolModel" 48 "RangedPoolModel" "rise" "[J" ∈ gA := gA_t (i := 486) (by decide +kernel) (by decide +kernel)
theorem kw487 : Cond.laysFinal "RangedPoolModel" "RangedPoolModel" "spacing" "I" ∈ gA := gA_t (i := 487) (by decide +kernel) (by decide +kernel)
theorem kw489 : Cond.laysFinal "RangedPoolModel" "RangedPoolModel" "fee" "I" ∈ gA := gA_t (i := 489) (by decide +kernel) (by decide +kernel)
theorem kw491 : Cond.laysFinal "RangedPoolModel" "RangedPoolModel" "steps" "[J" ∈ gA := gA_t (i := 491) (by decide +kernel) (by decide +kernel)
theorem kw493 : Cond.lays "RangedPoolModel" "RangedPoolModel" "open" "Z" ∈ gA := gA_t (i := 493) (by decide +kernel) (by decide +kernel)
theorem kw495 : Cond.lays "RangedPoolModel" "RangedPoolModel" "p" "J" ∈ gA := gA_t (i := 495) (by decide +kernel) (by decide +kernel)
theorem kw497 : Cond.lays "RangedPoolModel" "RangedPoolModel" "c" "I" ∈ gA := gA_t (i := 497) (by decide +kernel) (by decide +kernel)
theorem kw499 : Cond.laysFinal "RangedPoolModel" "RangedPoolModel" "wallets" "[J" ∈ gA := gA_t (i := 499) (by decide +kernel) (by decide +kernel)
theorem kw501 : Cond.laysFinal "RangedPoolModel" "RangedPoolModel" "reserves" "[J" ∈ gA := gA_t (i := 501) (by decide +kernel) (by decide +kernel)
theorem kw503 : Cond.laysFinal "RangedPoolModel" "RangedPoolModel" "there" "[Z" ∈ gA := gA_t (i := 503) (by decide +kernel) (by decide +kernel)
theorem kw505 : Cond.laysFinal "RangedPoolModel" "RangedPoolModel" "owners" "[I" ∈ gA := gA_t (i := 505) (by decide +kernel) (by decide +kernel)
theorem kw507 : Cond.laysFinal "RangedPoolModel" "RangedPoolModel" "lows" "[I" ∈ gA := gA_t (i := 507) (by decide +kernel) (by decide +kernel)
theorem kw509 : Cond.laysFinal "RangedPoolModel" "RangedPoolModel" "highs" "[I" ∈ gA := gA_t (i := 509) (by decide +kernel) (by decide +kernel)
theorem kw511 : Cond.laysFinal "RangedPoolModel" "RangedPoolModel" "liquidity" "[J" ∈ gA := gA_t (i := 511) (by decide +kernel) (by decide +kernel)
theorem kw513 : Cond.laysFinal "RangedPoolModel" "RangedPoolModel" "owed" "[J" ∈ gA := gA_t (i := 513) (by decide +kernel) (by decide +kernel)
theorem kw515 : Cond.laysFinal "RangedPoolModel" "RangedPoolModel" "growth" "[J" ∈ gA := gA_t (i := 515) (by decide +kernel) (by decide +kernel)
theorem kw517 : Cond.lays "RangedPoolModel" "RangedPoolModel" "clock" "J" ∈ gA := gA_t (i := 517) (by decide +kernel) (by decide +kernel)
theorem kw519 : Cond.lays "RangedPoolModel" "RangedPoolModel" "sum" "J" ∈ gA := gA_t (i := 519) (by decide +kernel) (by decide +kernel)
theorem kw521 : Cond.lays "RangedPoolModel" "RangedPoolModel" "marks" "I" ∈ gA := gA_t (i := 521) (by decide +kernel) (by decide +kernel)
theorem kw523 : Cond.laysFinal "RangedPoolModel" "RangedPoolModel" "markTime" "[J" ∈ gA := gA_t (i := 523) (by decide +kernel) (by decide +kernel)
theorem kw525 : Cond.laysFinal "RangedPoolModel" "RangedPoolModel" "markSum" "[J" ∈ gA := gA_t (i := 525) (by decide +kernel) (by decide +kernel)
theorem kw527 : Cond.lays "RangedPoolModel" "RangedPoolModel" "swapP" "J" ∈ gA := gA_t (i := 527) (by decide +kernel) (by decide +kernel)
theorem kw529 : Cond.lays "RangedPoolModel" "RangedPoolModel" "swapC" "I" ∈ gA := gA_t (i := 529) (by decide +kernel) (by decide +kernel)
theorem kw531 : Cond.lays "RangedPoolModel" "RangedPoolModel" "left" "J" ∈ gA := gA_t (i := 531) (by decide +kernel) (by decide +kernel)
theorem kw533 : Cond.lays "RangedPoolModel" "RangedPoolModel" "paid" "J" ∈ gA := gA_t (i := 533) (by decide +kernel) (by decide +kernel)
theorem kw535 : Cond.lays "RangedPoolModel" "RangedPoolModel" "out" "J" ∈ gA := gA_t (i := 535) (by decide +kernel) (by decide +kernel)
theorem kw537 : Cond.laysFinal "RangedPoolModel" "RangedPoolModel" "rise" "[J" ∈ gA := gA_t (i := 537) (by decide +kernel) (by decide +kernel)
theorem kw540 : Cond.arrayClass .boolean ∈ gA := gA_t (i := 540) (by decide +kernel) (by decide +kernel)
theorem kw541 : Cond.methodLink "RangedPoolLaw" 25 y_M_open ∈ gA := gA_t (i := 541) (by decide +kernel) (by decide +kernel)
theorem kw542 : Cond.instanceMethod y_M_open ∈ gA := gA_t (i := 542) (by decide +kernel) (by decide +kernel)
theorem kw543 : Cond.selects "RangedPoolModel" y_M_open y_M_open ∈ gA := gA_t (i := 543) (by decide +kernel) (by decide +kernel)
set_option maxRecDepth 20000 in
theorem kw544 : Cond.code y_M_open prog_7_method_8_code 2 (some .boolean) ∈ gA := gA_t (i := 544) rfl (by decide +kernel)
theorem kw545 : Cond.methodLink "RangedPoolModel" 82 y_M_isStep ∈ gA := gA_t (i := 545) (by decide +kernel) (by decide +kernel)
theorem kw546 : Cond.static y_M_isStep ∈ gA := gA_t (i := 546) (by decide +kernel) (by decide +kernel)
set_option maxRecDepth 20000 in
theorem kw547 : Cond.code y_M_isStep prog_7_method_2_code 1 (some .boolean) ∈ gA := gA_t (i := 547) rfl (by decide +kernel)
theorem kw548 : Cond.methodLink "RangedPoolModel" 89 y_M_price ∈ gA := gA_t (i := 548) (by decide +kernel) (by decide +kernel)
theorem kw550 : Cond.instanceMethod y_M_price ∈ gA := gA_t (i := 550) (by decide +kernel) (by decide +kernel)
set_option maxRecDepth 20000 in
theorem kw551 : Cond.code y_M_price prog_7_method_3_code 2 (some .long) ∈ gA := gA_t (i := 551) rfl (by decide +kernel)
theorem kw552 : Cond.methodLink "RangedPoolModel" 96 y_M_note ∈ gA := gA_t (i := 552) (by decide +kernel) (by decide +kernel)
theorem kw554 : Cond.instanceMethod y_M_note ∈ gA := gA_t (i := 554) (by decide +kernel) (by decide +kernel)
set_option maxRecDepth 20000 in
theorem kw555 : Cond.code y_M_note prog_7_method_7_code 2 none ∈ gA := gA_t (i := 555) rfl (by decide +kernel)
theorem kw556 : Cond.methodLink "RangedPoolLaw" 30 y_M_fund ∈ gA := gA_t (i := 556) (by decide +kernel) (by decide +kernel)
theorem kw557 : Cond.instanceMethod y_M_fund ∈ gA := gA_t (i := 557) (by decide +kernel) (by decide +kernel)
theorem kw558 : Cond.selects "RangedPoolModel" y_M_fund y_M_fund ∈ gA := gA_t (i := 558) (by decide +kernel) (by decide +kernel)
set_option maxRecDepth 20000 in
theorem kw559 : Cond.code y_M_fund prog_7_method_10_code 4 (some .boolean) ∈ gA := gA_t (i := 559) rfl (by decide +kernel)
theorem kw560 : Cond.methodLink "RangedPoolModel" 99 y_M_isOwner ∈ gA := gA_t (i := 560) (by decide +kernel) (by decide +kernel)
theorem kw561 : Cond.static y_M_isOwner ∈ gA := gA_t (i := 561) (by decide +kernel) (by decide +kernel)
set_option maxRecDepth 20000 in
theorem kw562 : Cond.code y_M_isOwner prog_7_method_9_code 1 (some .boolean) ∈ gA := gA_t (i := 562) rfl (by decide +kernel)
theorem kw563 : Cond.constant "RangedPoolModel" 102 1000000000 ∈ gA := gA_t (i := 563) (by decide +kernel) (by decide +kernel)
theorem kw564 : Cond.methodLink "RangedPoolLaw" 35 y_M_mint ∈ gA := gA_t (i := 564) (by decide +kernel) (by decide +kernel)
theorem kw565 : Cond.instanceMethod y_M_mint ∈ gA := gA_t (i := 565) (by decide +kernel) (by decide +kernel)
theorem kw566 : Cond.selects "RangedPoolModel" y_M_mint y_M_mint ∈ gA := gA_t (i := 566) (by decide +kernel) (by decide +kernel)
set_option maxRecDepth 20000 in
theorem kw567 : Cond.code y_M_mint prog_7_method_18_code 13 (some .long) ∈ gA := gA_t (i := 567) rfl (by decide +kernel)
theorem kw568 : Cond.constantLong "RangedPoolModel" 112 (-1) ∈ gA := gA_t (i := 568) (by decide +kernel) (by decide +kernel)
theorem kw569 : Cond.methodLink "RangedPoolModel" 114 y_M_isRange ∈ gA := gA_t (i := 569) (by decide +kernel) (by decide +kernel)
theorem kw571 : Cond.instanceMethod y_M_isRange ∈ gA := gA_t (i := 571) (by decide +kernel) (by decide +kernel)
set_option maxRecDepth 20000 in
theorem kw572 : Cond.code y_M_isRange prog_7_method_17_code 3 (some .boolean) ∈ gA := gA_t (i := 572) rfl (by decide +kernel)
theorem kw573 : Cond.constant "RangedPoolModel" 118 1000000 ∈ gA := gA_t (i := 573) (by decide +kernel) (by decide +kernel)
theorem kw574 : Cond.constantLong "RangedPoolModel" 119 (-2) ∈ gA := gA_t (i := 574) (by decide +kernel) (by decide +kernel)
theorem kw575 : Cond.methodLink "RangedPoolModel" 121 y_M_find ∈ gA := gA_t (i := 575) (by decide +kernel) (by decide +kernel)
theorem kw577 : Cond.instanceMethod y_M_find ∈ gA := gA_t (i := 577) (by decide +kernel) (by decide +kernel)
set_option maxRecDepth 20000 in
theorem kw578 : Cond.code y_M_find prog_7_method_11_code 5 (some .int) ∈ gA := gA_t (i := 578) rfl (by decide +kernel)
theorem kw579 : Cond.constantLong "RangedPoolModel" 125 1000000 ∈ gA := gA_t (i := 579) (by decide +kernel) (by decide +kernel)
theorem kw580 : Cond.constantLong "RangedPoolModel" 127 (-4) ∈ gA := gA_t (i := 580) (by decide +kernel) (by decide +kernel)
theorem kw581 : Cond.methodLink "RangedPoolModel" 129 y_M_worthZero ∈ gA := gA_t (i := 581) (by decide +kernel) (by decide +kernel)
theorem kw583 : Cond.instanceMethod y_M_worthZero ∈ gA := gA_t (i := 583) (by decide +kernel) (by decide +kernel)
set_option maxRecDepth 20000 in
theorem kw584 : Cond.code y_M_worthZero prog_7_method_15_code 6 (some .long) ∈ gA := gA_t (i := 584) rfl (by decide +kernel)
theorem kw585 : Cond.methodLink "RangedPoolModel" 105 y_M_zero ∈ gA := gA_t (i := 585) (by decide +kernel) (by decide +kernel)
theorem kw586 : Cond.static y_M_zero ∈ gA := gA_t (i := 586) (by decide +kernel) (by decide +kernel)
set_option maxRecDepth 20000 in
theorem kw587 : Cond.code y_M_zero prog_7_method_5_code 7 (some .long) ∈ gA := gA_t (i := 587) rfl (by decide +kernel)
theorem kw588 : Cond.methodLink "RangedPoolModel" 64 y_M_quotient ∈ gA := gA_t (i := 588) (by decide +kernel) (by decide +kernel)
theorem kw589 : Cond.static y_M_quotient ∈ gA := gA_t (i := 589) (by decide +kernel) (by decide +kernel)
set_option maxRecDepth 20000 in
theorem kw590 : Cond.code y_M_quotient prog_7_method_4_code 5 (some .long) ∈ gA := gA_t (i := 590) rfl (by decide +kernel)
theorem kw591 : Cond.methodLink "RangedPoolModel" 133 y_M_worthOne ∈ gA := gA_t (i := 591) (by decide +kernel) (by decide +kernel)
theorem kw593 : Cond.instanceMethod y_M_worthOne ∈ gA := gA_t (i := 593) (by decide +kernel) (by decide +kernel)
set_option maxRecDepth 20000 in
theorem kw594 : Cond.code y_M_worthOne prog_7_method_16_code 6 (some .long) ∈ gA := gA_t (i := 594) rfl (by decide +kernel)
theorem kw595 : Cond.methodLink "RangedPoolModel" 109 y_M_one ∈ gA := gA_t (i := 595) (by decide +kernel) (by decide +kernel)
theorem kw596 : Cond.static y_M_one ∈ gA := gA_t (i := 596) (by decide +kernel) (by decide +kernel)
set_option maxRecDepth 20000 in
theorem kw597 : Cond.code y_M_one prog_7_method_6_code 7 (some .long) ∈ gA := gA_t (i := 597) rfl (by decide +kernel)
theorem kw598 : Cond.constantLong "RangedPoolModel" 136 (-5) ∈ gA := gA_t (i := 598) (by decide +kernel) (by decide +kernel)
theorem kw599 : Cond.methodLink "RangedPoolModel" 138 y_M_settle ∈ gA := gA_t (i := 599) (by decide +kernel) (by decide +kernel)
theorem kw601 : Cond.instanceMethod y_M_settle ∈ gA := gA_t (i := 601) (by decide +kernel) (by decide +kernel)
set_option maxRecDepth 20000 in
theorem kw602 : Cond.code y_M_settle prog_7_method_13_code 3 none ∈ gA := gA_t (i := 602) rfl (by decide +kernel)
theorem kw603 : Cond.constantLong "RangedPoolModel" 103 4294967296 ∈ gA := gA_t (i := 603) (by decide +kernel) (by decide +kernel)
theorem kw604 : Cond.methodLink "RangedPoolModel" 142 y_M_pay ∈ gA := gA_t (i := 604) (by decide +kernel) (by decide +kernel)
theorem kw606 : Cond.instanceMethod y_M_pay ∈ gA := gA_t (i := 606) (by decide +kernel) (by decide +kernel)
set_option maxRecDepth 20000 in
theorem kw607 : Cond.code y_M_pay prog_7_method_19_code 6 none ∈ gA := gA_t (i := 607) rfl (by decide +kernel)
theorem kw608 : Cond.methodLink "RangedPoolLaw" 39 y_M_burn ∈ gA := gA_t (i := 608) (by decide +kernel) (by decide +kernel)
theorem kw609 : Cond.instanceMethod y_M_burn ∈ gA := gA_t (i := 609) (by decide +kernel) (by decide +kernel)
theorem kw610 : Cond.selects "RangedPoolModel" y_M_burn y_M_burn ∈ gA := gA_t (i := 610) (by decide +kernel) (by decide +kernel)
set_option maxRecDepth 20000 in
theorem kw611 : Cond.code y_M_burn prog_7_method_20_code 10 (some .long) ∈ gA := gA_t (i := 611) rfl (by decide +kernel)
theorem kw612 : Cond.constantLong "RangedPoolModel" 146 (-3) ∈ gA := gA_t (i := 612) (by decide +kernel) (by decide +kernel)
theorem kw613 : Cond.methodLink "RangedPoolModel" 148 y_M_sweep ∈ gA := gA_t (i := 613) (by decide +kernel) (by decide +kernel)
theorem kw615 : Cond.instanceMethod y_M_sweep ∈ gA := gA_t (i := 615) (by decide +kernel) (by decide +kernel)
set_option maxRecDepth 20000 in
theorem kw616 : Cond.code y_M_sweep prog_7_method_14_code 2 none ∈ gA := gA_t (i := 616) rfl (by decide +kernel)
theorem kw617 : Cond.methodLink "RangedPoolLaw" 44 y_M_collect ∈ gA := gA_t (i := 617) (by decide +kernel) (by decide +kernel)
theorem kw618 : Cond.instanceMethod y_M_collect ∈ gA := gA_t (i := 618) (by decide +kernel) (by decide +kernel)
theorem kw619 : Cond.selects "RangedPoolModel" y_M_collect y_M_collect ∈ gA := gA_t (i := 619) (by decide +kernel) (by decide +kernel)
set_option maxRecDepth 20000 in
theorem kw620 : Cond.code y_M_collect prog_7_method_21_code 9 (some .long) ∈ gA := gA_t (i := 620) rfl (by decide +kernel)
theorem kw621 : Cond.methodLink "RangedPoolLaw" 49 y_M_swap ∈ gA := gA_t (i := 621) (by decide +kernel) (by decide +kernel)
theorem kw622 : Cond.instanceMethod y_M_swap ∈ gA := gA_t (i := 622) (by decide +kernel) (by decide +kernel)
theorem kw623 : Cond.selects "RangedPoolModel" y_M_swap y_M_swap ∈ gA := gA_t (i := 623) (by decide +kernel) (by decide +kernel)
set_option maxRecDepth 20000 in
theorem kw624 : Cond.code y_M_swap prog_7_method_29_code 7 (some .long) ∈ gA := gA_t (i := 624) rfl (by decide +kernel)
theorem kw625 : Cond.methodLink "RangedPoolModel" 191 y_M_work ∈ gA := gA_t (i := 625) (by decide +kernel) (by decide +kernel)
theorem kw627 : Cond.instanceMethod y_M_work ∈ gA := gA_t (i := 627) (by decide +kernel) (by decide +kernel)
set_option maxRecDepth 20000 in
theorem kw628 : Cond.code y_M_work prog_7_method_28_code 5 (some .boolean) ∈ gA := gA_t (i := 628) rfl (by decide +kernel)
theorem kw629 : Cond.constant "RangedPoolModel" 186 (-1000000) ∈ gA := gA_t (i := 629) (by decide +kernel) (by decide +kernel)
theorem kw630 : Cond.methodLink "RangedPoolModel" 187 y_M_leg ∈ gA := gA_t (i := 630) (by decide +kernel) (by decide +kernel)
theorem kw632 : Cond.instanceMethod y_M_leg ∈ gA := gA_t (i := 632) (by decide +kernel) (by decide +kernel)
set_option maxRecDepth 20000 in
theorem kw633 : Cond.code y_M_leg prog_7_method_27_code 24 none ∈ gA := gA_t (i := 633) rfl (by decide +kernel)
theorem kw634 : Cond.methodLink "RangedPoolModel" 163 y_M_nextStep ∈ gA := gA_t (i := 634) (by decide +kernel) (by decide +kernel)
theorem kw636 : Cond.instanceMethod y_M_nextStep ∈ gA := gA_t (i := 636) (by decide +kernel) (by decide +kernel)
set_option maxRecDepth 20000 in
theorem kw637 : Cond.code y_M_nextStep prog_7_method_23_code 5 (some .int) ∈ gA := gA_t (i := 637) rfl (by decide +kernel)
theorem kw638 : Cond.methodLink "RangedPoolModel" 151 y_M_marked ∈ gA := gA_t (i := 638) (by decide +kernel) (by decide +kernel)
theorem kw640 : Cond.instanceMethod y_M_marked ∈ gA := gA_t (i := 640) (by decide +kernel) (by decide +kernel)
set_option maxRecDepth 20000 in
theorem kw641 : Cond.code y_M_marked prog_7_method_22_code 4 (some .boolean) ∈ gA := gA_t (i := 641) rfl (by decide +kernel)
theorem kw642 : Cond.methodLink "RangedPoolModel" 167 y_M_depthAt ∈ gA := gA_t (i := 642) (by decide +kernel) (by decide +kernel)
theorem kw644 : Cond.instanceMethod y_M_depthAt ∈ gA := gA_t (i := 644) (by decide +kernel) (by decide +kernel)
set_option maxRecDepth 20000 in
theorem kw645 : Cond.code y_M_depthAt prog_7_method_12_code 5 (some .long) ∈ gA := gA_t (i := 645) rfl (by decide +kernel)
theorem kw646 : Cond.methodLink "RangedPoolModel" 170 y_M_in ∈ gA := gA_t (i := 646) (by decide +kernel) (by decide +kernel)
theorem kw647 : Cond.static y_M_in ∈ gA := gA_t (i := 647) (by decide +kernel) (by decide +kernel)
set_option maxRecDepth 20000 in
theorem kw648 : Cond.code y_M_in prog_7_method_24_code 7 (some .long) ∈ gA := gA_t (i := 648) rfl (by decide +kernel)
theorem kw649 : Cond.methodLink "RangedPoolModel" 174 y_M_goesOut ∈ gA := gA_t (i := 649) (by decide +kernel) (by decide +kernel)
theorem kw650 : Cond.static y_M_goesOut ∈ gA := gA_t (i := 650) (by decide +kernel) (by decide +kernel)
set_option maxRecDepth 20000 in
theorem kw651 : Cond.code y_M_goesOut prog_7_method_25_code 7 (some .long) ∈ gA := gA_t (i := 651) rfl (by decide +kernel)
theorem kw652 : Cond.methodLink "RangedPoolModel" 177 y_M_onTheWay ∈ gA := gA_t (i := 652) (by decide +kernel) (by decide +kernel)
theorem kw654 : Cond.instanceMethod y_M_onTheWay ∈ gA := gA_t (i := 654) (by decide +kernel) (by decide +kernel)
set_option maxRecDepth 20000 in
theorem kw655 : Cond.code y_M_onTheWay prog_7_method_26_code 10 (some .long) ∈ gA := gA_t (i := 655) rfl (by decide +kernel)
theorem kw656 : Cond.methodLink "RangedPoolLaw" 54 y_M_quote ∈ gA := gA_t (i := 656) (by decide +kernel) (by decide +kernel)
theorem kw657 : Cond.instanceMethod y_M_quote ∈ gA := gA_t (i := 657) (by decide +kernel) (by decide +kernel)
theorem kw658 : Cond.selects "RangedPoolModel" y_M_quote y_M_quote ∈ gA := gA_t (i := 658) (by decide +kernel) (by decide +kernel)
set_option maxRecDepth 20000 in
theorem kw659 : Cond.code y_M_quote prog_7_method_30_code 4 (some .long) ∈ gA := gA_t (i := 659) rfl (by decide +kernel)
theorem kw660 : Cond.methodLink "RangedPoolLaw" 58 y_M_flash ∈ gA := gA_t (i := 660) (by decide +kernel) (by decide +kernel)
theorem kw661 : Cond.instanceMethod y_M_flash ∈ gA := gA_t (i := 661) (by decide +kernel) (by decide +kernel)
theorem kw662 : Cond.selects "RangedPoolModel" y_M_flash y_M_flash ∈ gA := gA_t (i := 662) (by decide +kernel) (by decide +kernel)
set_option maxRecDepth 20000 in
theorem kw663 : Cond.code y_M_flash prog_7_method_31_code 13 (some .long) ∈ gA := gA_t (i := 663) rfl (by decide +kernel)
theorem kw664 : Cond.methodLink "RangedPoolLaw" 62 y_M_advance ∈ gA := gA_t (i := 664) (by decide +kernel) (by decide +kernel)
theorem kw665 : Cond.instanceMethod y_M_advance ∈ gA := gA_t (i := 665) (by decide +kernel) (by decide +kernel)
theorem kw666 : Cond.selects "RangedPoolModel" y_M_advance y_M_advance ∈ gA := gA_t (i := 666) (by decide +kernel) (by decide +kernel)
set_option maxRecDepth 20000 in
theorem kw667 : Cond.code y_M_advance prog_7_method_32_code 2 (some .boolean) ∈ gA := gA_t (i := 667) rfl (by decide +kernel)
theorem kw668 : Cond.methodLink "RangedPoolLaw" 67 y_M_observe ∈ gA := gA_t (i := 668) (by decide +kernel) (by decide +kernel)
theorem kw669 : Cond.instanceMethod y_M_observe ∈ gA := gA_t (i := 669) (by decide +kernel) (by decide +kernel)
theorem kw670 : Cond.selects "RangedPoolModel" y_M_observe y_M_observe ∈ gA := gA_t (i := 670) (by decide +kernel) (by decide +kernel)
set_option maxRecDepth 20000 in
theorem kw671 : Cond.code y_M_observe prog_7_method_33_code 7 (some .long) ∈ gA := gA_t (i := 671) rfl (by decide +kernel)
theorem kw672 : Cond.constantLong "RangedPoolModel" 195 (-1000000000) ∈ gA := gA_t (i := 672) (by decide +kernel) (by decide +kernel)
theorem kw673 : Cond.methodLink "RangedPoolLaw" 72 y_M_price0 ∈ gA := gA_t (i := 673) (by decide +kernel) (by decide +kernel)
theorem kw674 : Cond.instanceMethod y_M_price0 ∈ gA := gA_t (i := 674) (by decide +kernel) (by decide +kernel)
theorem kw675 : Cond.selects "RangedPoolModel" y_M_price0 y_M_price0 ∈ gA := gA_t (i := 675) (by decide +kernel) (by decide +kernel)
set_option maxRecDepth 20000 in
theorem kw676 : Cond.code y_M_price0 prog_7_method_34_code 1 (some .int) ∈ gA := gA_t (i := 676) rfl (by decide +kernel)
theorem kw677 : Cond.methodLink "RangedPoolLaw" 76 y_M_step ∈ gA := gA_t (i := 677) (by decide +kernel) (by decide +kernel)
theorem kw678 : Cond.instanceMethod y_M_step ∈ gA := gA_t (i := 678) (by decide +kernel) (by decide +kernel)
theorem kw679 : Cond.selects "RangedPoolModel" y_M_step y_M_step ∈ gA := gA_t (i := 679) (by decide +kernel) (by decide +kernel)
set_option maxRecDepth 20000 in
theorem kw680 : Cond.code y_M_step prog_7_method_35_code 1 (some .int) ∈ gA := gA_t (i := 680) rfl (by decide +kernel)
theorem kw681 : Cond.methodLink "RangedPoolLaw" 80 y_M_depth ∈ gA := gA_t (i := 681) (by decide +kernel) (by decide +kernel)
theorem kw682 : Cond.instanceMethod y_M_depth ∈ gA := gA_t (i := 682) (by decide +kernel) (by decide +kernel)
theorem kw683 : Cond.selects "RangedPoolModel" y_M_depth y_M_depth ∈ gA := gA_t (i := 683) (by decide +kernel) (by decide +kernel)
set_option maxRecDepth 20000 in
theorem kw684 : Cond.code y_M_depth prog_7_method_36_code 1 (some .int) ∈ gA := gA_t (i := 684) rfl (by decide +kernel)
theorem kw685 : Cond.methodLink "RangedPoolLaw" 85 y_M_wallet ∈ gA := gA_t (i := 685) (by decide +kernel) (by decide +kernel)
theorem kw686 : Cond.instanceMethod y_M_wallet ∈ gA := gA_t (i := 686) (by decide +kernel) (by decide +kernel)
theorem kw687 : Cond.selects "RangedPoolModel" y_M_wallet y_M_wallet ∈ gA := gA_t (i := 687) (by decide +kernel) (by decide +kernel)
set_option maxRecDepth 20000 in
theorem kw688 : Cond.code y_M_wallet prog_7_method_37_code 3 (some .long) ∈ gA := gA_t (i := 688) rfl (by decide +kernel)
theorem kw689 : Cond.methodLink "RangedPoolLaw" 89 y_M_reserve ∈ gA := gA_t (i := 689) (by decide +kernel) (by decide +kernel)
theorem kw690 : Cond.instanceMethod y_M_reserve ∈ gA := gA_t (i := 690) (by decide +kernel) (by decide +kernel)
theorem kw691 : Cond.selects "RangedPoolModel" y_M_reserve y_M_reserve ∈ gA := gA_t (i := 691) (by decide +kernel) (by decide +kernel)
set_option maxRecDepth 20000 in
theorem kw692 : Cond.code y_M_reserve prog_7_method_38_code 2 (some .long) ∈ gA := gA_t (i := 692) rfl (by decide +kernel)
theorem kw693 : Cond.methodLink "RangedPoolLaw" 93 y_M_lot ∈ gA := gA_t (i := 693) (by decide +kernel) (by decide +kernel)
theorem kw694 : Cond.instanceMethod y_M_lot ∈ gA := gA_t (i := 694) (by decide +kernel) (by decide +kernel)
theorem kw695 : Cond.selects "RangedPoolModel" y_M_lot y_M_lot ∈ gA := gA_t (i := 695) (by decide +kernel) (by decide +kernel)
set_option maxRecDepth 20000 in
theorem kw696 : Cond.code y_M_lot prog_7_method_39_code 6 (some .long) ∈ gA := gA_t (i := 696) rfl (by decide +kernel)
theorem kw697 : Cond.methodLink "RangedPoolLaw" 98 y_M_net ∈ gA := gA_t (i := 697) (by decide +kernel) (by decide +kernel)
theorem kw698 : Cond.instanceMethod y_M_net ∈ gA := gA_t (i := 698) (by decide +kernel) (by decide +kernel)
theorem kw699 : Cond.selects "RangedPoolModel" y_M_net y_M_net ∈ gA := gA_t (i := 699) (by decide +kernel) (by decide +kernel)
set_option maxRecDepth 20000 in
theorem kw700 : Cond.code y_M_net prog_7_method_40_code 5 (some .int) ∈ gA := gA_t (i := 700) rfl (by decide +kernel)
theorem ks0 : Cond.selects "RangedPool$History" y_H_mark y_H_mark ∈ gA := gA_s (i := 0) (by decide +kernel) (by decide +kernel)
theorem ks1 : Cond.selects "RangedPool$History" y_H_dropOldest y_H_dropOldest ∈ gA := gA_s (i := 1) (by decide +kernel) (by decide +kernel)
theorem ks2 : Cond.selects "RangedPool" y_P_isRange y_P_isRange ∈ gA := gA_s (i := 2) (by decide +kernel) (by decide +kernel)
theorem ks3 : Cond.selects "RangedPool$LotBook" y_B_findOrFree y_B_findOrFree ∈ gA := gA_s (i := 3) (by decide +kernel) (by decide +kernel)
theorem ks4 : Cond.selects "RangedPool$LotBook" y_B_find y_B_find ∈ gA := gA_s (i := 4) (by decide +kernel) (by decide +kernel)
theorem ks5 : Cond.selects "RangedPool$Lot" y_T_isThere y_T_isThere ∈ gA := gA_s (i := 5) (by decide +kernel) (by decide +kernel)
theorem ks6 : Cond.selects "RangedPool$Lot" y_T_isFor y_T_isFor ∈ gA := gA_s (i := 6) (by decide +kernel) (by decide +kernel)
theorem ks7 : Cond.selects "RangedPool$LotBook" y_B_totalLiquidity y_B_totalLiquidity ∈ gA := gA_s (i := 7) (by decide +kernel) (by decide +kernel)
theorem ks8 : Cond.selects "RangedPool" y_P_zeroOfRange y_P_zeroOfRange ∈ gA := gA_s (i := 8) (by decide +kernel) (by decide +kernel)
theorem ks9 : Cond.selects "RangedPool" y_P_oneOfRange y_P_oneOfRange ∈ gA := gA_s (i := 9) (by decide +kernel) (by decide +kernel)
theorem ks10 : Cond.selects "RangedPool" y_P_canPay y_P_canPay ∈ gA := gA_s (i := 10) (by decide +kernel) (by decide +kernel)
theorem ks11 : Cond.selects "RangedPool" y_P_pay y_P_pay ∈ gA := gA_s (i := 11) (by decide +kernel) (by decide +kernel)
theorem ks12 : Cond.selects "RangedPool" y_P_transfer y_P_transfer ∈ gA := gA_s (i := 12) (by decide +kernel) (by decide +kernel)
theorem ks13 : Cond.selects "RangedPool$Lot" y_T_begin y_T_begin ∈ gA := gA_s (i := 13) (by decide +kernel) (by decide +kernel)
theorem ks14 : Cond.selects "RangedPool$Lot" y_T_settle y_T_settle ∈ gA := gA_s (i := 14) (by decide +kernel) (by decide +kernel)
theorem ks15 : Cond.selects "RangedPool" y_P_isTrade y_P_isTrade ∈ gA := gA_s (i := 15) (by decide +kernel) (by decide +kernel)
theorem ks16 : Cond.selects "RangedPool$Trade" y_D_startAt y_D_startAt ∈ gA := gA_s (i := 16) (by decide +kernel) (by decide +kernel)
theorem ks17 : Cond.selects "RangedPool$Trade" y_D_workOut y_D_workOut ∈ gA := gA_s (i := 17) (by decide +kernel) (by decide +kernel)
theorem ks18 : Cond.selects "RangedPool$LotBook" y_B_clearPendingGrowth y_B_clearPendingGrowth ∈ gA := gA_s (i := 18) (by decide +kernel) (by decide +kernel)
theorem ks19 : Cond.selects "RangedPool$Trade" y_D_goOneLeg y_D_goOneLeg ∈ gA := gA_s (i := 19) (by decide +kernel) (by decide +kernel)
theorem ks20 : Cond.selects "RangedPool$LotBook" y_B_markedAtOrBelow y_B_markedAtOrBelow ∈ gA := gA_s (i := 20) (by decide +kernel) (by decide +kernel)
theorem ks21 : Cond.selects "RangedPool$LotBook" y_B_markedAbove y_B_markedAbove ∈ gA := gA_s (i := 21) (by decide +kernel) (by decide +kernel)
theorem ks22 : Cond.selects "RangedPool$Trade" y_D_targetBefore y_D_targetBefore ∈ gA := gA_s (i := 22) (by decide +kernel) (by decide +kernel)
theorem ks23 : Cond.selects "RangedPool$LotBook" y_B_depthAt y_B_depthAt ∈ gA := gA_s (i := 23) (by decide +kernel) (by decide +kernel)
theorem ks24 : Cond.selects "RangedPool$Lot" y_T_isInRange y_T_isInRange ∈ gA := gA_s (i := 24) (by decide +kernel) (by decide +kernel)
theorem ks25 : Cond.selects "RangedPool$Trade" y_D_priceAfterPaying y_D_priceAfterPaying ∈ gA := gA_s (i := 25) (by decide +kernel) (by decide +kernel)
theorem ks26 : Cond.selects "RangedPool$Trade" y_D_amountIn y_D_amountIn ∈ gA := gA_s (i := 26) (by decide +kernel) (by decide +kernel)
theorem ks27 : Cond.selects "RangedPool$Trade" y_D_priceAfterTaking y_D_priceAfterTaking ∈ gA := gA_s (i := 27) (by decide +kernel) (by decide +kernel)
theorem ks28 : Cond.selects "RangedPool$Trade" y_D_amountOut y_D_amountOut ∈ gA := gA_s (i := 28) (by decide +kernel) (by decide +kernel)
theorem ks29 : Cond.selects "RangedPool$LotBook" y_B_growPending y_B_growPending ∈ gA := gA_s (i := 29) (by decide +kernel) (by decide +kernel)
theorem ks30 : Cond.selects "RangedPool$Trade" y_D_moveTo y_D_moveTo ∈ gA := gA_s (i := 30) (by decide +kernel) (by decide +kernel)
theorem ks31 : Cond.selects "RangedPool$Trade" y_D_tokenIn y_D_tokenIn ∈ gA := gA_s (i := 31) (by decide +kernel) (by decide +kernel)
theorem ks32 : Cond.selects "RangedPool$LotBook" y_B_keepPendingGrowth y_B_keepPendingGrowth ∈ gA := gA_s (i := 32) (by decide +kernel) (by decide +kernel)
theorem ks33 : Cond.selects "RangedPool" y_P_canLend y_P_canLend ∈ gA := gA_s (i := 33) (by decide +kernel) (by decide +kernel)
theorem ks34 : Cond.selects "RangedPool" y_P_takeFee y_P_takeFee ∈ gA := gA_s (i := 34) (by decide +kernel) (by decide +kernel)
theorem ks35 : Cond.selects "RangedPool$History" y_H_tick y_H_tick ∈ gA := gA_s (i := 35) (by decide +kernel) (by decide +kernel)
theorem ks36 : Cond.selects "RangedPool$History" y_H_reaches y_H_reaches ∈ gA := gA_s (i := 36) (by decide +kernel) (by decide +kernel)
theorem ks37 : Cond.selects "RangedPool$History" y_H_sumAt y_H_sumAt ∈ gA := gA_s (i := 37) (by decide +kernel) (by decide +kernel)
theorem ks38 : Cond.selects "RangedPool$LotBook" y_B_netAt y_B_netAt ∈ gA := gA_s (i := 38) (by decide +kernel) (by decide +kernel)
theorem ks39 : Cond.selects "RangedPoolModel" y_M_price y_M_price ∈ gA := gA_s (i := 39) (by decide +kernel) (by decide +kernel)
theorem ks40 : Cond.selects "RangedPoolModel" y_M_note y_M_note ∈ gA := gA_s (i := 40) (by decide +kernel) (by decide +kernel)
theorem ks41 : Cond.selects "RangedPoolModel" y_M_isRange y_M_isRange ∈ gA := gA_s (i := 41) (by decide +kernel) (by decide +kernel)
theorem ks42 : Cond.selects "RangedPoolModel" y_M_find y_M_find ∈ gA := gA_s (i := 42) (by decide +kernel) (by decide +kernel)
theorem ks43 : Cond.selects "RangedPoolModel" y_M_worthZero y_M_worthZero ∈ gA := gA_s (i := 43) (by decide +kernel) (by decide +kernel)
theorem ks44 : Cond.selects "RangedPoolModel" y_M_worthOne y_M_worthOne ∈ gA := gA_s (i := 44) (by decide +kernel) (by decide +kernel)
theorem ks45 : Cond.selects "RangedPoolModel" y_M_settle y_M_settle ∈ gA := gA_s (i := 45) (by decide +kernel) (by decide +kernel)
theorem ks46 : Cond.selects "RangedPoolModel" y_M_pay y_M_pay ∈ gA := gA_s (i := 46) (by decide +kernel) (by decide +kernel)
theorem ks47 : Cond.selects "RangedPoolModel" y_M_sweep y_M_sweep ∈ gA := gA_s (i := 47) (by decide +kernel) (by decide +kernel)
theorem ks48 : Cond.selects "RangedPoolModel" y_M_work y_M_work ∈ gA := gA_s (i := 48) (by decide +kernel) (by decide +kernel)
theorem ks49 : Cond.selects "RangedPoolModel" y_M_leg y_M_leg ∈ gA := gA_s (i := 49) (by decide +kernel) (by decide +kernel)
theorem ks50 : Cond.selects "RangedPoolModel" y_M_nextStep y_M_nextStep ∈ gA := gA_s (i := 50) (by decide +kernel) (by decide +kernel)
theorem ks51 : Cond.selects "RangedPoolModel" y_M_marked y_M_marked ∈ gA := gA_s (i := 51) (by decide +kernel) (by decide +kernel)
theorem ks52 : Cond.selects "RangedPoolModel" y_M_depthAt y_M_depthAt ∈ gA := gA_s (i := 52) (by decide +kernel) (by decide +kernel)
theorem ks53 : Cond.selects "RangedPoolModel" y_M_onTheWay y_M_onTheWay ∈ gA := gA_s (i := 53) (by decide +kernel) (by decide +kernel)
def w_P_init : List Cond := Cond.code y_P_init b_P_init 3 none :: gA
theorem kc_P_init : Cond.code y_P_init b_P_init 3 none ∈ gA := kw12
theorem gn_P_init : GoodIn gA w_P_init := gA_good (l := []) (fun _ h => absurd h List.not_mem_nil) kc_P_init
def w_B_init : List Cond := Cond.code y_B_init b_B_init 2 none :: gA
theorem kc_B_init : Cond.code y_B_init b_B_init 2 none ∈ gA := kw22
theorem gn_B_init : GoodIn gA w_B_init := gA_good (l := []) (fun _ h => absurd h List.not_mem_nil) kc_B_init
def w_T_init : List Cond := Cond.code y_T_init b_T_init 1 none :: gA
theorem kc_T_init : Cond.code y_T_init b_T_init 1 none ∈ gA := kw29
theorem gn_T_init : GoodIn gA w_T_init := gA_good (l := []) (fun _ h => absurd h List.not_mem_nil) kc_T_init
def w_H_init : List Cond := Cond.code y_H_init b_H_init 1 none :: gA
theorem kc_H_init : Cond.code y_H_init b_H_init 1 none ∈ gA := kw68
theorem gn_H_init : GoodIn gA w_H_init := gA_good (l := []) (fun _ h => absurd h List.not_mem_nil) kc_H_init
def w_P_isSpacing : List Cond := Cond.code y_P_isSpacing b_P_isSpacing 1 (some .boolean) :: gA
theorem kc_P_isSpacing : Cond.code y_P_isSpacing b_P_isSpacing 1 (some .boolean) ∈ gA := kw93
theorem gn_P_isSpacing : GoodIn gA w_P_isSpacing := gA_good (l := []) (fun _ h => absurd h List.not_mem_nil) kc_P_isSpacing
def w_D_init : List Cond := Cond.code y_D_init b_D_init 2 none :: gA
theorem kc_D_init : Cond.code y_D_init b_D_init 2 none ∈ gA := kw98
theorem gn_D_init : GoodIn gA w_D_init := gA_good (l := []) (fun _ h => absurd h List.not_mem_nil) kc_D_init
def w_P_open : List Cond := Cond.code y_P_open b_P_open 2 (some .boolean) :: gA
theorem kc_P_open : Cond.code y_P_open b_P_open 2 (some .boolean) ∈ gA := kw163
theorem gn_P_open : GoodIn gA w_P_open := gA_good (l := []) (fun _ h => absurd h List.not_mem_nil) kc_P_open
def w_P_isStep : List Cond := Cond.code y_P_isStep b_P_isStep 1 (some .boolean) :: gA
theorem kc_P_isStep : Cond.code y_P_isStep b_P_isStep 1 (some .boolean) ∈ gA := kw166
theorem gn_P_isStep : GoodIn gA w_P_isStep := gA_good (l := []) (fun _ h => absurd h List.not_mem_nil) kc_P_isStep
def w_P_priceOf : List Cond := Cond.code y_P_priceOf b_P_priceOf 1 (some .int) :: gA
theorem kc_P_priceOf : Cond.code y_P_priceOf b_P_priceOf 1 (some .int) ∈ gA := kw169
theorem gn_P_priceOf : GoodIn gA w_P_priceOf := gA_good (l := []) (fun _ h => absurd h List.not_mem_nil) kc_P_priceOf
def w_H_mark : List Cond := Cond.code y_H_mark b_H_mark 2 none :: gA
theorem kc_H_mark : Cond.code y_H_mark b_H_mark 2 none ∈ gA := kw175
theorem gn_H_mark : GoodIn gA w_H_mark := gA_good (l := []) (fun _ h => absurd h List.not_mem_nil) kc_H_mark
def w_H_dropOldest : List Cond := Cond.code y_H_dropOldest b_H_dropOldest 2 none :: gA
theorem kc_H_dropOldest : Cond.code y_H_dropOldest b_H_dropOldest 2 none ∈ gA := kw179
theorem gn_H_dropOldest : GoodIn gA w_H_dropOldest := gA_good (l := []) (fun _ h => absurd h List.not_mem_nil) kc_H_dropOldest
def w_P_fund : List Cond := Cond.code y_P_fund b_P_fund 4 (some .boolean) :: gA
theorem kc_P_fund : Cond.code y_P_fund b_P_fund 4 (some .boolean) ∈ gA := kw183
theorem gn_P_fund : GoodIn gA w_P_fund := gA_good (l := []) (fun _ h => absurd h List.not_mem_nil) kc_P_fund
def w_P_isOwner : List Cond := Cond.code y_P_isOwner b_P_isOwner 1 (some .boolean) :: gA
theorem kc_P_isOwner : Cond.code y_P_isOwner b_P_isOwner 1 (some .boolean) ∈ gA := kw186
theorem gn_P_isOwner : GoodIn gA w_P_isOwner := gA_good (l := []) (fun _ h => absurd h List.not_mem_nil) kc_P_isOwner
def w_P_isToken : List Cond := Cond.code y_P_isToken b_P_isToken 1 (some .boolean) :: gA
theorem kc_P_isToken : Cond.code y_P_isToken b_P_isToken 1 (some .boolean) ∈ gA := kw189
theorem gn_P_isToken : GoodIn gA w_P_isToken := gA_good (l := []) (fun _ h => absurd h List.not_mem_nil) kc_P_isToken
def w_P_mint : List Cond := Cond.code y_P_mint b_P_mint 10 (some .long) :: gA
theorem kc_P_mint : Cond.code y_P_mint b_P_mint 10 (some .long) ∈ gA := kw194
theorem gn_P_mint : GoodIn gA w_P_mint := gA_good (l := []) (fun _ h => absurd h List.not_mem_nil) kc_P_mint
def w_P_isRange : List Cond := Cond.code y_P_isRange b_P_isRange 3 (some .boolean) :: gA
theorem kc_P_isRange : Cond.code y_P_isRange b_P_isRange 3 (some .boolean) ∈ gA := kw199
theorem gn_P_isRange : GoodIn gA w_P_isRange := gA_good (l := []) (fun _ h => absurd h List.not_mem_nil) kc_P_isRange
def w_B_findOrFree : List Cond := Cond.code y_B_findOrFree b_B_findOrFree 6 (some (.object "RangedPool$Lot")) :: gA
theorem kc_B_findOrFree : Cond.code y_B_findOrFree b_B_findOrFree 6 (some (.object "RangedPool$Lot")) ∈ gA := kw205
theorem gn_B_findOrFree : GoodIn gA w_B_findOrFree := gA_good (l := []) (fun _ h => absurd h List.not_mem_nil) kc_B_findOrFree
def w_B_find : List Cond := Cond.code y_B_find b_B_find 8 (some (.object "RangedPool$Lot")) :: gA
theorem kc_B_find : Cond.code y_B_find b_B_find 8 (some (.object "RangedPool$Lot")) ∈ gA := kw209
theorem gn_B_find : GoodIn gA w_B_find := gA_good (l := []) (fun _ h => absurd h List.not_mem_nil) kc_B_find
def w_T_isThere : List Cond := Cond.code y_T_isThere b_T_isThere 1 (some .boolean) :: gA
theorem kc_T_isThere : Cond.code y_T_isThere b_T_isThere 1 (some .boolean) ∈ gA := kw213
theorem gn_T_isThere : GoodIn gA w_T_isThere := gA_good (l := []) (fun _ h => absurd h List.not_mem_nil) kc_T_isThere
def w_T_isFor : List Cond := Cond.code y_T_isFor b_T_isFor 4 (some .boolean) :: gA
theorem kc_T_isFor : Cond.code y_T_isFor b_T_isFor 4 (some .boolean) ∈ gA := kw217
theorem gn_T_isFor : GoodIn gA w_T_isFor := gA_good (l := []) (fun _ h => absurd h List.not_mem_nil) kc_T_isFor
def w_B_totalLiquidity : List Cond := Cond.code y_B_totalLiquidity b_B_totalLiquidity 7 (some .long) :: gA
theorem kc_B_totalLiquidity : Cond.code y_B_totalLiquidity b_B_totalLiquidity 7 (some .long) ∈ gA := kw221
theorem gn_B_totalLiquidity : GoodIn gA w_B_totalLiquidity := gA_good (l := []) (fun _ h => absurd h List.not_mem_nil) kc_B_totalLiquidity
def w_P_zeroOfRange : List Cond := Cond.code y_P_zeroOfRange b_P_zeroOfRange 7 (some .long) :: gA
theorem kc_P_zeroOfRange : Cond.code y_P_zeroOfRange b_P_zeroOfRange 7 (some .long) ∈ gA := kw227
theorem gn_P_zeroOfRange : GoodIn gA w_P_zeroOfRange := gA_good (l := []) (fun _ h => absurd h List.not_mem_nil) kc_P_zeroOfRange
def w_P_zeroBetween : List Cond := Cond.code y_P_zeroBetween b_P_zeroBetween 7 (some .long) :: gA
theorem kc_P_zeroBetween : Cond.code y_P_zeroBetween b_P_zeroBetween 7 (some .long) ∈ gA := kw230
theorem gn_P_zeroBetween : GoodIn gA w_P_zeroBetween := gA_good (l := []) (fun _ h => absurd h List.not_mem_nil) kc_P_zeroBetween
def w_P_quotient : List Cond := Cond.code y_P_quotient b_P_quotient 7 (some .long) :: gA
theorem kc_P_quotient : Cond.code y_P_quotient b_P_quotient 7 (some .long) ∈ gA := kw234
theorem gn_P_quotient : GoodIn gA w_P_quotient := gA_good (l := []) (fun _ h => absurd h List.not_mem_nil) kc_P_quotient
def w_P_oneOfRange : List Cond := Cond.code y_P_oneOfRange b_P_oneOfRange 7 (some .long) :: gA
theorem kc_P_oneOfRange : Cond.code y_P_oneOfRange b_P_oneOfRange 7 (some .long) ∈ gA := kw238
theorem gn_P_oneOfRange : GoodIn gA w_P_oneOfRange := gA_good (l := []) (fun _ h => absurd h List.not_mem_nil) kc_P_oneOfRange
def w_P_oneBetween : List Cond := Cond.code y_P_oneBetween b_P_oneBetween 7 (some .long) :: gA
theorem kc_P_oneBetween : Cond.code y_P_oneBetween b_P_oneBetween 7 (some .long) ∈ gA := kw241
theorem gn_P_oneBetween : GoodIn gA w_P_oneBetween := gA_good (l := []) (fun _ h => absurd h List.not_mem_nil) kc_P_oneBetween
def w_P_canPay : List Cond := Cond.code y_P_canPay b_P_canPay 6 (some .boolean) :: gA
theorem kc_P_canPay : Cond.code y_P_canPay b_P_canPay 6 (some .boolean) ∈ gA := kw245
theorem gn_P_canPay : GoodIn gA w_P_canPay := gA_good (l := []) (fun _ h => absurd h List.not_mem_nil) kc_P_canPay
def w_P_pay : List Cond := Cond.code y_P_pay b_P_pay 6 none :: gA
theorem kc_P_pay : Cond.code y_P_pay b_P_pay 6 none ∈ gA := kw250
theorem gn_P_pay : GoodIn gA w_P_pay := gA_good (l := []) (fun _ h => absurd h List.not_mem_nil) kc_P_pay
def w_P_transfer : List Cond := Cond.code y_P_transfer b_P_transfer 5 none :: gA
theorem kc_P_transfer : Cond.code y_P_transfer b_P_transfer 5 none ∈ gA := kw254
theorem gn_P_transfer : GoodIn gA w_P_transfer := gA_good (l := []) (fun _ h => absurd h List.not_mem_nil) kc_P_transfer
def w_T_begin : List Cond := Cond.code y_T_begin b_T_begin 4 none :: gA
theorem kc_T_begin : Cond.code y_T_begin b_T_begin 4 none ∈ gA := kw259
theorem gn_T_begin : GoodIn gA w_T_begin := gA_good (l := []) (fun _ h => absurd h List.not_mem_nil) kc_T_begin
def w_T_settle : List Cond := Cond.code y_T_settle b_T_settle 2 none :: gA
theorem kc_T_settle : Cond.code y_T_settle b_T_settle 2 none ∈ gA := kw263
theorem gn_T_settle : GoodIn gA w_T_settle := gA_good (l := []) (fun _ h => absurd h List.not_mem_nil) kc_T_settle
def w_P_pair : List Cond := Cond.code y_P_pair b_P_pair 4 (some .long) :: gA
theorem kc_P_pair : Cond.code y_P_pair b_P_pair 4 (some .long) ∈ gA := kw267
theorem gn_P_pair : GoodIn gA w_P_pair := gA_good (l := []) (fun _ h => absurd h List.not_mem_nil) kc_P_pair
def w_P_burn : List Cond := Cond.code y_P_burn b_P_burn 10 (some .long) :: gA
theorem kc_P_burn : Cond.code y_P_burn b_P_burn 10 (some .long) ∈ gA := kw272
theorem gn_P_burn : GoodIn gA w_P_burn := gA_good (l := []) (fun _ h => absurd h List.not_mem_nil) kc_P_burn
def w_P_collect : List Cond := Cond.code y_P_collect b_P_collect 9 (some .long) :: gA
theorem kc_P_collect : Cond.code y_P_collect b_P_collect 9 (some .long) ∈ gA := kw278
theorem gn_P_collect : GoodIn gA w_P_collect := gA_good (l := []) (fun _ h => absurd h List.not_mem_nil) kc_P_collect
def w_P_swap : List Cond := Cond.code y_P_swap b_P_swap 6 (some .long) :: gA
theorem kc_P_swap : Cond.code y_P_swap b_P_swap 6 (some .long) ∈ gA := kw282
theorem gn_P_swap : GoodIn gA w_P_swap := gA_good (l := []) (fun _ h => absurd h List.not_mem_nil) kc_P_swap
def w_P_isTrade : List Cond := Cond.code y_P_isTrade b_P_isTrade 4 (some .boolean) :: gA
theorem kc_P_isTrade : Cond.code y_P_isTrade b_P_isTrade 4 (some .boolean) ∈ gA := kw286
theorem gn_P_isTrade : GoodIn gA w_P_isTrade := gA_good (l := []) (fun _ h => absurd h List.not_mem_nil) kc_P_isTrade
def w_D_startAt : List Cond := Cond.code y_D_startAt b_D_startAt 4 none :: gA
theorem kc_D_startAt : Cond.code y_D_startAt b_D_startAt 4 none ∈ gA := kw291
theorem gn_D_startAt : GoodIn gA w_D_startAt := gA_good (l := []) (fun _ h => absurd h List.not_mem_nil) kc_D_startAt
def w_D_workOut : List Cond := Cond.code y_D_workOut b_D_workOut 5 none :: gA
theorem kc_D_workOut : Cond.code y_D_workOut b_D_workOut 5 none ∈ gA := kw295
theorem gn_D_workOut : GoodIn gA w_D_workOut := gA_good (l := []) (fun _ h => absurd h List.not_mem_nil) kc_D_workOut
def w_B_clearPendingGrowth : List Cond := Cond.code y_B_clearPendingGrowth b_B_clearPendingGrowth 5 none :: gA
theorem kc_B_clearPendingGrowth : Cond.code y_B_clearPendingGrowth b_B_clearPendingGrowth 5 none ∈ gA := kw299
theorem gn_B_clearPendingGrowth : GoodIn gA w_B_clearPendingGrowth := gA_good (l := []) (fun _ h => absurd h List.not_mem_nil) kc_B_clearPendingGrowth
def w_D_goOneLeg : List Cond := Cond.code y_D_goOneLeg b_D_goOneLeg 14 none :: gA
theorem kc_D_goOneLeg : Cond.code y_D_goOneLeg b_D_goOneLeg 14 none ∈ gA := kw303
theorem gn_D_goOneLeg : GoodIn gA w_D_goOneLeg := gA_good (l := []) (fun _ h => absurd h List.not_mem_nil) kc_D_goOneLeg
def w_B_markedAtOrBelow : List Cond := Cond.code y_B_markedAtOrBelow b_B_markedAtOrBelow 8 (some .int) :: gA
theorem kc_B_markedAtOrBelow : Cond.code y_B_markedAtOrBelow b_B_markedAtOrBelow 8 (some .int) ∈ gA := kw307
theorem gn_B_markedAtOrBelow : GoodIn gA w_B_markedAtOrBelow := gA_good (l := []) (fun _ h => absurd h List.not_mem_nil) kc_B_markedAtOrBelow
def w_B_markedAbove : List Cond := Cond.code y_B_markedAbove b_B_markedAbove 8 (some .int) :: gA
theorem kc_B_markedAbove : Cond.code y_B_markedAbove b_B_markedAbove 8 (some .int) ∈ gA := kw311
theorem gn_B_markedAbove : GoodIn gA w_B_markedAbove := gA_good (l := []) (fun _ h => absurd h List.not_mem_nil) kc_B_markedAbove
def w_D_targetBefore : List Cond := Cond.code y_D_targetBefore b_D_targetBefore 2 (some .int) :: gA
theorem kc_D_targetBefore : Cond.code y_D_targetBefore b_D_targetBefore 2 (some .int) ∈ gA := kw315
theorem gn_D_targetBefore : GoodIn gA w_D_targetBefore := gA_good (l := []) (fun _ h => absurd h List.not_mem_nil) kc_D_targetBefore
def w_B_depthAt : List Cond := Cond.code y_B_depthAt b_B_depthAt 8 (some .long) :: gA
theorem kc_B_depthAt : Cond.code y_B_depthAt b_B_depthAt 8 (some .long) ∈ gA := kw326
theorem gn_B_depthAt : GoodIn gA w_B_depthAt := gA_good (l := []) (fun _ h => absurd h List.not_mem_nil) kc_B_depthAt
def w_T_isInRange : List Cond := Cond.code y_T_isInRange b_T_isInRange 2 (some .boolean) :: gA
theorem kc_T_isInRange : Cond.code y_T_isInRange b_T_isInRange 2 (some .boolean) ∈ gA := kw330
theorem gn_T_isInRange : GoodIn gA w_T_isInRange := gA_good (l := []) (fun _ h => absurd h List.not_mem_nil) kc_T_isInRange
def w_D_priceAfterPaying : List Cond := Cond.code y_D_priceAfterPaying b_D_priceAfterPaying 6 (some .int) :: gA
theorem kc_D_priceAfterPaying : Cond.code y_D_priceAfterPaying b_D_priceAfterPaying 6 (some .int) ∈ gA := kw334
theorem gn_D_priceAfterPaying : GoodIn gA w_D_priceAfterPaying := gA_good (l := []) (fun _ h => absurd h List.not_mem_nil) kc_D_priceAfterPaying
def w_D_amountIn : List Cond := Cond.code y_D_amountIn b_D_amountIn 4 (some .long) :: gA
theorem kc_D_amountIn : Cond.code y_D_amountIn b_D_amountIn 4 (some .long) ∈ gA := kw339
theorem gn_D_amountIn : GoodIn gA w_D_amountIn := gA_good (l := []) (fun _ h => absurd h List.not_mem_nil) kc_D_amountIn
def w_D_priceAfterTaking : List Cond := Cond.code y_D_priceAfterTaking b_D_priceAfterTaking 6 (some .int) :: gA
theorem kc_D_priceAfterTaking : Cond.code y_D_priceAfterTaking b_D_priceAfterTaking 6 (some .int) ∈ gA := kw347
theorem gn_D_priceAfterTaking : GoodIn gA w_D_priceAfterTaking := gA_good (l := []) (fun _ h => absurd h List.not_mem_nil) kc_D_priceAfterTaking
def w_D_amountOut : List Cond := Cond.code y_D_amountOut b_D_amountOut 4 (some .long) :: gA
theorem kc_D_amountOut : Cond.code y_D_amountOut b_D_amountOut 4 (some .long) ∈ gA := kw351
theorem gn_D_amountOut : GoodIn gA w_D_amountOut := gA_good (l := []) (fun _ h => absurd h List.not_mem_nil) kc_D_amountOut
def w_B_growPending : List Cond := Cond.code y_B_growPending b_B_growPending 12 none :: gA
theorem kc_B_growPending : Cond.code y_B_growPending b_B_growPending 12 none ∈ gA := kw358
theorem gn_B_growPending : GoodIn gA w_B_growPending := gA_good (l := []) (fun _ h => absurd h List.not_mem_nil) kc_B_growPending
def w_D_moveTo : List Cond := Cond.code y_D_moveTo b_D_moveTo 4 none :: gA
theorem kc_D_moveTo : Cond.code y_D_moveTo b_D_moveTo 4 none ∈ gA := kw364
theorem gn_D_moveTo : GoodIn gA w_D_moveTo := gA_good (l := []) (fun _ h => absurd h List.not_mem_nil) kc_D_moveTo
def w_P_greatestStepAt : List Cond := Cond.code y_P_greatestStepAt b_P_greatestStepAt 2 (some .int) :: gA
theorem kc_P_greatestStepAt : Cond.code y_P_greatestStepAt b_P_greatestStepAt 2 (some .int) ∈ gA := kw367
theorem gn_P_greatestStepAt : GoodIn gA w_P_greatestStepAt := gA_good (l := []) (fun _ h => absurd h List.not_mem_nil) kc_P_greatestStepAt
def w_D_tokenIn : List Cond := Cond.code y_D_tokenIn b_D_tokenIn 1 (some .int) :: gA
theorem kc_D_tokenIn : Cond.code y_D_tokenIn b_D_tokenIn 1 (some .int) ∈ gA := kw371
theorem gn_D_tokenIn : GoodIn gA w_D_tokenIn := gA_good (l := []) (fun _ h => absurd h List.not_mem_nil) kc_D_tokenIn
def w_B_keepPendingGrowth : List Cond := Cond.code y_B_keepPendingGrowth b_B_keepPendingGrowth 6 none :: gA
theorem kc_B_keepPendingGrowth : Cond.code y_B_keepPendingGrowth b_B_keepPendingGrowth 6 none ∈ gA := kw375
theorem gn_B_keepPendingGrowth : GoodIn gA w_B_keepPendingGrowth := gA_good (l := []) (fun _ h => absurd h List.not_mem_nil) kc_B_keepPendingGrowth
def w_P_quote : List Cond := Cond.code y_P_quote b_P_quote 4 (some .long) :: gA
theorem kc_P_quote : Cond.code y_P_quote b_P_quote 4 (some .long) ∈ gA := kw379
theorem gn_P_quote : GoodIn gA w_P_quote := gA_good (l := []) (fun _ h => absurd h List.not_mem_nil) kc_P_quote
def w_P_flash : List Cond := Cond.code y_P_flash b_P_flash 10 (some .long) :: gA
theorem kc_P_flash : Cond.code y_P_flash b_P_flash 10 (some .long) ∈ gA := kw383
theorem gn_P_flash : GoodIn gA w_P_flash := gA_good (l := []) (fun _ h => absurd h List.not_mem_nil) kc_P_flash
def w_P_canLend : List Cond := Cond.code y_P_canLend b_P_canLend 3 (some .boolean) :: gA
theorem kc_P_canLend : Cond.code y_P_canLend b_P_canLend 3 (some .boolean) ∈ gA := kw388
theorem gn_P_canLend : GoodIn gA w_P_canLend := gA_good (l := []) (fun _ h => absurd h List.not_mem_nil) kc_P_canLend
def w_P_takeFee : List Cond := Cond.code y_P_takeFee b_P_takeFee 6 none :: gA
theorem kc_P_takeFee : Cond.code y_P_takeFee b_P_takeFee 6 none ∈ gA := kw393
theorem gn_P_takeFee : GoodIn gA w_P_takeFee := gA_good (l := []) (fun _ h => absurd h List.not_mem_nil) kc_P_takeFee
def w_P_advance : List Cond := Cond.code y_P_advance b_P_advance 2 (some .boolean) :: gA
theorem kc_P_advance : Cond.code y_P_advance b_P_advance 2 (some .boolean) ∈ gA := kw399
theorem gn_P_advance : GoodIn gA w_P_advance := gA_good (l := []) (fun _ h => absurd h List.not_mem_nil) kc_P_advance
def w_H_tick : List Cond := Cond.code y_H_tick b_H_tick 3 none :: gA
theorem kc_H_tick : Cond.code y_H_tick b_H_tick 3 none ∈ gA := kw403
theorem gn_H_tick : GoodIn gA w_H_tick := gA_good (l := []) (fun _ h => absurd h List.not_mem_nil) kc_H_tick
def w_P_observe : List Cond := Cond.code y_P_observe b_P_observe 4 (some .long) :: gA
theorem kc_P_observe : Cond.code y_P_observe b_P_observe 4 (some .long) ∈ gA := kw407
theorem gn_P_observe : GoodIn gA w_P_observe := gA_good (l := []) (fun _ h => absurd h List.not_mem_nil) kc_P_observe
def w_H_reaches : List Cond := Cond.code y_H_reaches b_H_reaches 3 (some .boolean) :: gA
theorem kc_H_reaches : Cond.code y_H_reaches b_H_reaches 3 (some .boolean) ∈ gA := kw411
theorem gn_H_reaches : GoodIn gA w_H_reaches := gA_good (l := []) (fun _ h => absurd h List.not_mem_nil) kc_H_reaches
def w_H_sumAt : List Cond := Cond.code y_H_sumAt b_H_sumAt 10 (some .long) :: gA
theorem kc_H_sumAt : Cond.code y_H_sumAt b_H_sumAt 10 (some .long) ∈ gA := kw415
theorem gn_H_sumAt : GoodIn gA w_H_sumAt := gA_good (l := []) (fun _ h => absurd h List.not_mem_nil) kc_H_sumAt
def w_P_price : List Cond := Cond.code y_P_price b_P_price 1 (some .int) :: gA
theorem kc_P_price : Cond.code y_P_price b_P_price 1 (some .int) ∈ gA := kw420
theorem gn_P_price : GoodIn gA w_P_price := gA_good (l := []) (fun _ h => absurd h List.not_mem_nil) kc_P_price
def w_P_step : List Cond := Cond.code y_P_step b_P_step 1 (some .int) :: gA
theorem kc_P_step : Cond.code y_P_step b_P_step 1 (some .int) ∈ gA := kw424
theorem gn_P_step : GoodIn gA w_P_step := gA_good (l := []) (fun _ h => absurd h List.not_mem_nil) kc_P_step
def w_P_depth : List Cond := Cond.code y_P_depth b_P_depth 1 (some .int) :: gA
theorem kc_P_depth : Cond.code y_P_depth b_P_depth 1 (some .int) ∈ gA := kw428
theorem gn_P_depth : GoodIn gA w_P_depth := gA_good (l := []) (fun _ h => absurd h List.not_mem_nil) kc_P_depth
def w_P_wallet : List Cond := Cond.code y_P_wallet b_P_wallet 3 (some .long) :: gA
theorem kc_P_wallet : Cond.code y_P_wallet b_P_wallet 3 (some .long) ∈ gA := kw432
theorem gn_P_wallet : GoodIn gA w_P_wallet := gA_good (l := []) (fun _ h => absurd h List.not_mem_nil) kc_P_wallet
def w_P_reserve : List Cond := Cond.code y_P_reserve b_P_reserve 2 (some .long) :: gA
theorem kc_P_reserve : Cond.code y_P_reserve b_P_reserve 2 (some .long) ∈ gA := kw436
theorem gn_P_reserve : GoodIn gA w_P_reserve := gA_good (l := []) (fun _ h => absurd h List.not_mem_nil) kc_P_reserve
def w_P_lot : List Cond := Cond.code y_P_lot b_P_lot 6 (some .long) :: gA
theorem kc_P_lot : Cond.code y_P_lot b_P_lot 6 (some .long) ∈ gA := kw440
theorem gn_P_lot : GoodIn gA w_P_lot := gA_good (l := []) (fun _ h => absurd h List.not_mem_nil) kc_P_lot
def w_P_net : List Cond := Cond.code y_P_net b_P_net 2 (some .int) :: gA
theorem kc_P_net : Cond.code y_P_net b_P_net 2 (some .int) ∈ gA := kw444
theorem gn_P_net : GoodIn gA w_P_net := gA_good (l := []) (fun _ h => absurd h List.not_mem_nil) kc_P_net
def w_B_netAt : List Cond := Cond.code y_B_netAt b_B_netAt 8 (some .long) :: gA
theorem kc_B_netAt : Cond.code y_B_netAt b_B_netAt 8 (some .long) ∈ gA := kw448
theorem gn_B_netAt : GoodIn gA w_B_netAt := gA_good (l := []) (fun _ h => absurd h List.not_mem_nil) kc_B_netAt
def w_L_cell : List Cond := Cond.code y_L_cell b_L_cell 2 (some .int) :: gA
theorem kc_L_cell : Cond.code y_L_cell b_L_cell 2 (some .int) ∈ gA := kw451
theorem gn_L_cell : GoodIn gA w_L_cell := gA_good (l := []) (fun _ h => absurd h List.not_mem_nil) kc_L_cell
def w_M_init : List Cond := Cond.code y_M_init b_M_init 5 none :: gA
theorem kc_M_init : Cond.code y_M_init b_M_init 5 none ∈ gA := kw456
theorem gn_M_init : GoodIn gA w_M_init := gA_good (l := []) (fun _ h => absurd h List.not_mem_nil) kc_M_init
def w_M_open : List Cond := Cond.code y_M_open b_M_open 2 (some .boolean) :: gA
theorem kc_M_open : Cond.code y_M_open b_M_open 2 (some .boolean) ∈ gA := kw544
theorem gn_M_open : GoodIn gA w_M_open := gA_good (l := []) (fun _ h => absurd h List.not_mem_nil) kc_M_open
def w_M_isStep : List Cond := Cond.code y_M_isStep b_M_isStep 1 (some .boolean) :: gA
theorem kc_M_isStep : Cond.code y_M_isStep b_M_isStep 1 (some .boolean) ∈ gA := kw547
theorem gn_M_isStep : GoodIn gA w_M_isStep := gA_good (l := []) (fun _ h => absurd h List.not_mem_nil) kc_M_isStep
def w_M_price : List Cond := Cond.code y_M_price b_M_price 2 (some .long) :: gA
theorem kc_M_price : Cond.code y_M_price b_M_price 2 (some .long) ∈ gA := kw551
theorem gn_M_price : GoodIn gA w_M_price := gA_good (l := []) (fun _ h => absurd h List.not_mem_nil) kc_M_price
def w_M_note : List Cond := Cond.code y_M_note b_M_note 2 none :: gA
theorem kc_M_note : Cond.code y_M_note b_M_note 2 none ∈ gA := kw555
theorem gn_M_note : GoodIn gA w_M_note := gA_good (l := []) (fun _ h => absurd h List.not_mem_nil) kc_M_note
def w_M_fund : List Cond := Cond.code y_M_fund b_M_fund 4 (some .boolean) :: gA
theorem kc_M_fund : Cond.code y_M_fund b_M_fund 4 (some .boolean) ∈ gA := kw559
theorem gn_M_fund : GoodIn gA w_M_fund := gA_good (l := []) (fun _ h => absurd h List.not_mem_nil) kc_M_fund
def w_M_isOwner : List Cond := Cond.code y_M_isOwner b_M_isOwner 1 (some .boolean) :: gA
theorem kc_M_isOwner : Cond.code y_M_isOwner b_M_isOwner 1 (some .boolean) ∈ gA := kw562
theorem gn_M_isOwner : GoodIn gA w_M_isOwner := gA_good (l := []) (fun _ h => absurd h List.not_mem_nil) kc_M_isOwner
def w_M_mint : List Cond := Cond.code y_M_mint b_M_mint 13 (some .long) :: gA
theorem kc_M_mint : Cond.code y_M_mint b_M_mint 13 (some .long) ∈ gA := kw567
theorem gn_M_mint : GoodIn gA w_M_mint := gA_good (l := []) (fun _ h => absurd h List.not_mem_nil) kc_M_mint
def w_M_isRange : List Cond := Cond.code y_M_isRange b_M_isRange 3 (some .boolean) :: gA
theorem kc_M_isRange : Cond.code y_M_isRange b_M_isRange 3 (some .boolean) ∈ gA := kw572
theorem gn_M_isRange : GoodIn gA w_M_isRange := gA_good (l := []) (fun _ h => absurd h List.not_mem_nil) kc_M_isRange
def w_M_find : List Cond := Cond.code y_M_find b_M_find 5 (some .int) :: gA
theorem kc_M_find : Cond.code y_M_find b_M_find 5 (some .int) ∈ gA := kw578
theorem gn_M_find : GoodIn gA w_M_find := gA_good (l := []) (fun _ h => absurd h List.not_mem_nil) kc_M_find
def w_M_worthZero : List Cond := Cond.code y_M_worthZero b_M_worthZero 6 (some .long) :: gA
theorem kc_M_worthZero : Cond.code y_M_worthZero b_M_worthZero 6 (some .long) ∈ gA := kw584
theorem gn_M_worthZero : GoodIn gA w_M_worthZero := gA_good (l := []) (fun _ h => absurd h List.not_mem_nil) kc_M_worthZero
def w_M_zero : List Cond := Cond.code y_M_zero b_M_zero 7 (some .long) :: gA
theorem kc_M_zero : Cond.code y_M_zero b_M_zero 7 (some .long) ∈ gA := kw587
theorem gn_M_zero : GoodIn gA w_M_zero := gA_good (l := []) (fun _ h => absurd h List.not_mem_nil) kc_M_zero
def w_M_quotient : List Cond := Cond.code y_M_quotient b_M_quotient 5 (some .long) :: gA
theorem kc_M_quotient : Cond.code y_M_quotient b_M_quotient 5 (some .long) ∈ gA := kw590
theorem gn_M_quotient : GoodIn gA w_M_quotient := gA_good (l := []) (fun _ h => absurd h List.not_mem_nil) kc_M_quotient
def w_M_worthOne : List Cond := Cond.code y_M_worthOne b_M_worthOne 6 (some .long) :: gA
theorem kc_M_worthOne : Cond.code y_M_worthOne b_M_worthOne 6 (some .long) ∈ gA := kw594
theorem gn_M_worthOne : GoodIn gA w_M_worthOne := gA_good (l := []) (fun _ h => absurd h List.not_mem_nil) kc_M_worthOne
def w_M_one : List Cond := Cond.code y_M_one b_M_one 7 (some .long) :: gA
theorem kc_M_one : Cond.code y_M_one b_M_one 7 (some .long) ∈ gA := kw597
theorem gn_M_one : GoodIn gA w_M_one := gA_good (l := []) (fun _ h => absurd h List.not_mem_nil) kc_M_one
def w_M_settle : List Cond := Cond.code y_M_settle b_M_settle 3 none :: gA
theorem kc_M_settle : Cond.code y_M_settle b_M_settle 3 none ∈ gA := kw602
theorem gn_M_settle : GoodIn gA w_M_settle := gA_good (l := []) (fun _ h => absurd h List.not_mem_nil) kc_M_settle
def w_M_pay : List Cond := Cond.code y_M_pay b_M_pay 6 none :: gA
theorem kc_M_pay : Cond.code y_M_pay b_M_pay 6 none ∈ gA := kw607
theorem gn_M_pay : GoodIn gA w_M_pay := gA_good (l := []) (fun _ h => absurd h List.not_mem_nil) kc_M_pay
def w_M_burn : List Cond := Cond.code y_M_burn b_M_burn 10 (some .long) :: gA
theorem kc_M_burn : Cond.code y_M_burn b_M_burn 10 (some .long) ∈ gA := kw611
theorem gn_M_burn : GoodIn gA w_M_burn := gA_good (l := []) (fun _ h => absurd h List.not_mem_nil) kc_M_burn
def w_M_sweep : List Cond := Cond.code y_M_sweep b_M_sweep 2 none :: gA
theorem kc_M_sweep : Cond.code y_M_sweep b_M_sweep 2 none ∈ gA := kw616
theorem gn_M_sweep : GoodIn gA w_M_sweep := gA_good (l := []) (fun _ h => absurd h List.not_mem_nil) kc_M_sweep
def w_M_collect : List Cond := Cond.code y_M_collect b_M_collect 9 (some .long) :: gA
theorem kc_M_collect : Cond.code y_M_collect b_M_collect 9 (some .long) ∈ gA := kw620
theorem gn_M_collect : GoodIn gA w_M_collect := gA_good (l := []) (fun _ h => absurd h List.not_mem_nil) kc_M_collect
def w_M_swap : List Cond := Cond.code y_M_swap b_M_swap 7 (some .long) :: gA
theorem kc_M_swap : Cond.code y_M_swap b_M_swap 7 (some .long) ∈ gA := kw624
theorem gn_M_swap : GoodIn gA w_M_swap := gA_good (l := []) (fun _ h => absurd h List.not_mem_nil) kc_M_swap
def w_M_work : List Cond := Cond.code y_M_work b_M_work 5 (some .boolean) :: gA
theorem kc_M_work : Cond.code y_M_work b_M_work 5 (some .boolean) ∈ gA := kw628
theorem gn_M_work : GoodIn gA w_M_work := gA_good (l := []) (fun _ h => absurd h List.not_mem_nil) kc_M_work
def w_M_leg : List Cond := Cond.code y_M_leg b_M_leg 24 none :: gA
theorem kc_M_leg : Cond.code y_M_leg b_M_leg 24 none ∈ gA := kw633
theorem gn_M_leg : GoodIn gA w_M_leg := gA_good (l := []) (fun _ h => absurd h List.not_mem_nil) kc_M_leg
def w_M_nextStep : List Cond := Cond.code y_M_nextStep b_M_nextStep 5 (some .int) :: gA
theorem kc_M_nextStep : Cond.code y_M_nextStep b_M_nextStep 5 (some .int) ∈ gA := kw637
theorem gn_M_nextStep : GoodIn gA w_M_nextStep := gA_good (l := []) (fun _ h => absurd h List.not_mem_nil) kc_M_nextStep
def w_M_marked : List Cond := Cond.code y_M_marked b_M_marked 4 (some .boolean) :: gA
theorem kc_M_marked : Cond.code y_M_marked b_M_marked 4 (some .boolean) ∈ gA := kw641
theorem gn_M_marked : GoodIn gA w_M_marked := gA_good (l := []) (fun _ h => absurd h List.not_mem_nil) kc_M_marked
def w_M_depthAt : List Cond := Cond.code y_M_depthAt b_M_depthAt 5 (some .long) :: gA
theorem kc_M_depthAt : Cond.code y_M_depthAt b_M_depthAt 5 (some .long) ∈ gA := kw645
theorem gn_M_depthAt : GoodIn gA w_M_depthAt := gA_good (l := []) (fun _ h => absurd h List.not_mem_nil) kc_M_depthAt
def w_M_in : List Cond := Cond.code y_M_in b_M_in 7 (some .long) :: gA
theorem kc_M_in : Cond.code y_M_in b_M_in 7 (some .long) ∈ gA := kw648
theorem gn_M_in : GoodIn gA w_M_in := gA_good (l := []) (fun _ h => absurd h List.not_mem_nil) kc_M_in
def w_M_goesOut : List Cond := Cond.code y_M_goesOut b_M_goesOut 7 (some .long) :: gA
theorem kc_M_goesOut : Cond.code y_M_goesOut b_M_goesOut 7 (some .long) ∈ gA := kw651
theorem gn_M_goesOut : GoodIn gA w_M_goesOut := gA_good (l := []) (fun _ h => absurd h List.not_mem_nil) kc_M_goesOut
def w_M_onTheWay : List Cond := Cond.code y_M_onTheWay b_M_onTheWay 10 (some .long) :: gA
theorem kc_M_onTheWay : Cond.code y_M_onTheWay b_M_onTheWay 10 (some .long) ∈ gA := kw655
theorem gn_M_onTheWay : GoodIn gA w_M_onTheWay := gA_good (l := []) (fun _ h => absurd h List.not_mem_nil) kc_M_onTheWay
def w_M_quote : List Cond := Cond.code y_M_quote b_M_quote 4 (some .long) :: gA
theorem kc_M_quote : Cond.code y_M_quote b_M_quote 4 (some .long) ∈ gA := kw659
theorem gn_M_quote : GoodIn gA w_M_quote := gA_good (l := []) (fun _ h => absurd h List.not_mem_nil) kc_M_quote
def w_M_flash : List Cond := Cond.code y_M_flash b_M_flash 13 (some .long) :: gA
theorem kc_M_flash : Cond.code y_M_flash b_M_flash 13 (some .long) ∈ gA := kw663
theorem gn_M_flash : GoodIn gA w_M_flash := gA_good (l := []) (fun _ h => absurd h List.not_mem_nil) kc_M_flash
def w_M_advance : List Cond := Cond.code y_M_advance b_M_advance 2 (some .boolean) :: gA
theorem kc_M_advance : Cond.code y_M_advance b_M_advance 2 (some .boolean) ∈ gA := kw667
theorem gn_M_advance : GoodIn gA w_M_advance := gA_good (l := []) (fun _ h => absurd h List.not_mem_nil) kc_M_advance
def w_M_observe : List Cond := Cond.code y_M_observe b_M_observe 7 (some .long) :: gA
theorem kc_M_observe : Cond.code y_M_observe b_M_observe 7 (some .long) ∈ gA := kw671
theorem gn_M_observe : GoodIn gA w_M_observe := gA_good (l := []) (fun _ h => absurd h List.not_mem_nil) kc_M_observe
def w_M_price0 : List Cond := Cond.code y_M_price0 b_M_price0 1 (some .int) :: gA
theorem kc_M_price0 : Cond.code y_M_price0 b_M_price0 1 (some .int) ∈ gA := kw676
theorem gn_M_price0 : GoodIn gA w_M_price0 := gA_good (l := []) (fun _ h => absurd h List.not_mem_nil) kc_M_price0
def w_M_step : List Cond := Cond.code y_M_step b_M_step 1 (some .int) :: gA
theorem kc_M_step : Cond.code y_M_step b_M_step 1 (some .int) ∈ gA := kw680
theorem gn_M_step : GoodIn gA w_M_step := gA_good (l := []) (fun _ h => absurd h List.not_mem_nil) kc_M_step
def w_M_depth : List Cond := Cond.code y_M_depth b_M_depth 1 (some .int) :: gA
theorem kc_M_depth : Cond.code y_M_depth b_M_depth 1 (some .int) ∈ gA := kw684
theorem gn_M_depth : GoodIn gA w_M_depth := gA_good (l := []) (fun _ h => absurd h List.not_mem_nil) kc_M_depth
def w_M_wallet : List Cond := Cond.code y_M_wallet b_M_wallet 3 (some .long) :: gA
theorem kc_M_wallet : Cond.code y_M_wallet b_M_wallet 3 (some .long) ∈ gA := kw688
theorem gn_M_wallet : GoodIn gA w_M_wallet := gA_good (l := []) (fun _ h => absurd h List.not_mem_nil) kc_M_wallet
def w_M_reserve : List Cond := Cond.code y_M_reserve b_M_reserve 2 (some .long) :: gA
theorem kc_M_reserve : Cond.code y_M_reserve b_M_reserve 2 (some .long) ∈ gA := kw692
theorem gn_M_reserve : GoodIn gA w_M_reserve := gA_good (l := []) (fun _ h => absurd h List.not_mem_nil) kc_M_reserve
def w_M_lot : List Cond := Cond.code y_M_lot b_M_lot 6 (some .long) :: gA
theorem kc_M_lot : Cond.code y_M_lot b_M_lot 6 (some .long) ∈ gA := kw696
theorem gn_M_lot : GoodIn gA w_M_lot := gA_good (l := []) (fun _ h => absurd h List.not_mem_nil) kc_M_lot
def w_M_net : List Cond := Cond.code y_M_net b_M_net 5 (some .int) :: gA
theorem kc_M_net : Cond.code y_M_net b_M_net 5 (some .int) ∈ gA := kw700
theorem gn_M_net : GoodIn gA w_M_net := gA_good (l := []) (fun _ h => absurd h List.not_mem_nil) kc_M_net
def F_H : u_T := fun k => match k with
  | 0 => ("RangedPool$History", "clock", "J", false)
  | 1 => ("RangedPool$History", "sum", "J", false)
  | 2 => ("RangedPool$History", "marks", "I", false)
  | 3 => ("RangedPool$History", "times", "[J", true)
  | 4 => ("RangedPool$History", "sums", "[J", true)
  | _ => ("RangedPool$History", "stepsBefore", "[I", true)
def yt_H : Nat → FieldType := fun k => match k with
  | 0 => .long
  | 1 => .long
  | 2 => .int
  | 3 => (.array .long)
  | 4 => (.array .long)
  | _ => (.array .int)
theorem n_H : ∀ a, a < 6 → ∀ b, b < 6 → a ≠ b → (F_H a).2.1 ≠ (F_H b).2.1 := by decide +kernel
theorem yt_H_ok : ∀ k, k < 6 → parseFieldDescriptor (F_H k).2.2.1 = some (yt_H k) := by decide +kernel
theorem in_H : ∀ w ∈ u_ws "RangedPool$History" F_H 6, w ∈ gA := by decide +kernel
def F_T : u_T := fun k => match k with
  | 0 => ("RangedPool$Lot", "owner", "I", false)
  | 1 => ("RangedPool$Lot", "lo", "I", false)
  | 2 => ("RangedPool$Lot", "hi", "I", false)
  | 3 => ("RangedPool$Lot", "liquidity", "J", false)
  | 4 => ("RangedPool$Lot", "owed", "[J", true)
  | 5 => ("RangedPool$Lot", "growth", "[J", true)
  | _ => ("RangedPool$Lot", "pending", "J", false)
def yt_T : Nat → FieldType := fun k => match k with
  | 0 => .int
  | 1 => .int
  | 2 => .int
  | 3 => .long
  | 4 => (.array .long)
  | 5 => (.array .long)
  | _ => .long
theorem n_T : ∀ a, a < 7 → ∀ b, b < 7 → a ≠ b → (F_T a).2.1 ≠ (F_T b).2.1 := by decide +kernel
theorem yt_T_ok : ∀ k, k < 7 → parseFieldDescriptor (F_T k).2.2.1 = some (yt_T k) := by decide +kernel
theorem in_T : ∀ w ∈ u_ws "RangedPool$Lot" F_T 7, w ∈ gA := by decide +kernel
def F_B : u_T := fun k => match k with
  | _ => ("RangedPool$LotBook", "lots", "[LRangedPool$Lot;", true)
def yt_B : Nat → FieldType := fun k => match k with
  | _ => (.array (.object "RangedPool$Lot"))
theorem n_B : ∀ a, a < 1 → ∀ b, b < 1 → a ≠ b → (F_B a).2.1 ≠ (F_B b).2.1 := by decide +kernel
theorem yt_B_ok : ∀ k, k < 1 → parseFieldDescriptor (F_B k).2.2.1 = some (yt_B k) := by decide +kernel
theorem in_B : ∀ w ∈ u_ws "RangedPool$LotBook" F_B 1, w ∈ gA := by decide +kernel
def F_D : u_T := fun k => match k with
  | 0 => ("RangedPool$Trade", "fee", "I", true)
  | 1 => ("RangedPool$Trade", "down", "Z", false)
  | 2 => ("RangedPool$Trade", "limit", "I", false)
  | 3 => ("RangedPool$Trade", "left", "J", false)
  | 4 => ("RangedPool$Trade", "price", "I", false)
  | 5 => ("RangedPool$Trade", "step", "I", false)
  | 6 => ("RangedPool$Trade", "paid", "J", false)
  | _ => ("RangedPool$Trade", "given", "J", false)
def yt_D : Nat → FieldType := fun k => match k with
  | 0 => .int
  | 1 => .boolean
  | 2 => .int
  | 3 => .long
  | 4 => .int
  | 5 => .int
  | 6 => .long
  | _ => .long
theorem n_D : ∀ a, a < 8 → ∀ b, b < 8 → a ≠ b → (F_D a).2.1 ≠ (F_D b).2.1 := by decide +kernel
theorem yt_D_ok : ∀ k, k < 8 → parseFieldDescriptor (F_D k).2.2.1 = some (yt_D k) := by decide +kernel
theorem in_D : ∀ w ∈ u_ws "RangedPool$Trade" F_D 8, w ∈ gA := by decide +kernel
def F_P : u_T := fun k => match k with
  | 0 => ("RangedPool", "spacing", "I", true)
  | 1 => ("RangedPool", "fee", "I", true)
  | 2 => ("RangedPool", "wallets", "[[J", true)
  | 3 => ("RangedPool", "reserves", "[J", true)
  | 4 => ("RangedPool", "book", "LRangedPool$LotBook;", true)
  | 5 => ("RangedPool", "history", "LRangedPool$History;", true)
  | 6 => ("RangedPool", "trade", "LRangedPool$Trade;", true)
  | 7 => ("RangedPool", "opened", "Z", false)
  | 8 => ("RangedPool", "currentPrice", "I", false)
  | _ => ("RangedPool", "currentStep", "I", false)
def yt_P : Nat → FieldType := fun k => match k with
  | 0 => .int
  | 1 => .int
  | 2 => (.array (.array .long))
  | 3 => (.array .long)
  | 4 => (.object "RangedPool$LotBook")
  | 5 => (.object "RangedPool$History")
  | 6 => (.object "RangedPool$Trade")
  | 7 => .boolean
  | 8 => .int
  | _ => .int
theorem n_P : ∀ a, a < 10 → ∀ b, b < 10 → a ≠ b → (F_P a).2.1 ≠ (F_P b).2.1 := by decide +kernel
theorem yt_P_ok : ∀ k, k < 10 → parseFieldDescriptor (F_P k).2.2.1 = some (yt_P k) := by decide +kernel
theorem in_P : ∀ w ∈ u_ws "RangedPool" F_P 10, w ∈ gA := by decide +kernel
def F_M : u_T := fun k => match k with
  | 0 => ("RangedPoolModel", "spacing", "I", true)
  | 1 => ("RangedPoolModel", "fee", "I", true)
  | 2 => ("RangedPoolModel", "steps", "[J", true)
  | 3 => ("RangedPoolModel", "open", "Z", false)
  | 4 => ("RangedPoolModel", "p", "J", false)
  | 5 => ("RangedPoolModel", "c", "I", false)
  | 6 => ("RangedPoolModel", "wallets", "[J", true)
  | 7 => ("RangedPoolModel", "reserves", "[J", true)
  | 8 => ("RangedPoolModel", "there", "[Z", true)
  | 9 => ("RangedPoolModel", "owners", "[I", true)
  | 10 => ("RangedPoolModel", "lows", "[I", true)
  | 11 => ("RangedPoolModel", "highs", "[I", true)
  | 12 => ("RangedPoolModel", "liquidity", "[J", true)
  | 13 => ("RangedPoolModel", "owed", "[J", true)
  | 14 => ("RangedPoolModel", "growth", "[J", true)
  | 15 => ("RangedPoolModel", "clock", "J", false)
  | 16 => ("RangedPoolModel", "sum", "J", false)
  | 17 => ("RangedPoolModel", "marks", "I", false)
  | 18 => ("RangedPoolModel", "markTime", "[J", true)
  | 19 => ("RangedPoolModel", "markSum", "[J", true)
  | 20 => ("RangedPoolModel", "swapP", "J", false)
  | 21 => ("RangedPoolModel", "swapC", "I", false)
  | 22 => ("RangedPoolModel", "left", "J", false)
  | 23 => ("RangedPoolModel", "paid", "J", false)
  | 24 => ("RangedPoolModel", "out", "J", false)
  | _ => ("RangedPoolModel", "rise", "[J", true)
def yt_M : Nat → FieldType := fun k => match k with
  | 0 => .int
  | 1 => .int
  | 2 => (.array .long)
  | 3 => .boolean
  | 4 => .long
  | 5 => .int
  | 6 => (.array .long)
  | 7 => (.array .long)
  | 8 => (.array .boolean)
  | 9 => (.array .int)
  | 10 => (.array .int)
  | 11 => (.array .int)
  | 12 => (.array .long)
  | 13 => (.array .long)
  | 14 => (.array .long)
  | 15 => .long
  | 16 => .long
  | 17 => .int
  | 18 => (.array .long)
  | 19 => (.array .long)
  | 20 => .long
  | 21 => .int
  | 22 => .long
  | 23 => .long
  | 24 => .long
  | _ => (.array .long)
theorem n_M : ∀ a, a < 26 → ∀ b, b < 26 → a ≠ b → (F_M a).2.1 ≠ (F_M b).2.1 := by decide +kernel
theorem yt_M_ok : ∀ k, k < 26 → parseFieldDescriptor (F_M k).2.2.1 = some (yt_M k) := by decide +kernel
theorem in_M : ∀ w ∈ u_ws "RangedPoolModel" F_M 26, w ∈ gA := by decide +kernel
abbrev cls : List vw_C := [("RangedPool$History", F_H, 6), ("RangedPool$Lot", F_T, 7), ("RangedPool$LotBook", F_B, 1), ("RangedPool$Trade", F_D, 8), ("RangedPool", F_P, 10), ("RangedPoolModel", F_M, 26)]
def x_nest : List Cond := [Cond.methodLinkNest "RangedPool" 20 y_B_init "RangedPool", Cond.methodLinkNest "RangedPool$LotBook" 17 y_T_init "RangedPool", Cond.fieldLinkNest "RangedPool$LotBook" 38 "RangedPool$Lot" "lo" "I" "RangedPool", Cond.fieldLinkNest "RangedPool$LotBook" 42 "RangedPool$Lot" "hi" "I" "RangedPool", Cond.fieldLinkNest "RangedPool$LotBook" 30 "RangedPool$Lot" "liquidity" "J" "RangedPool", Cond.fieldLinkNest "RangedPool" 130 "RangedPool$Lot" "liquidity" "J" "RangedPool", Cond.fieldLinkNest "RangedPool" 143 "RangedPool$Lot" "owed" "[J" "RangedPool", Cond.fieldLinkNest "RangedPool$LotBook" 54 "RangedPool$Lot" "growth" "[J" "RangedPool", Cond.fieldLinkNest "RangedPool$LotBook" 45 "RangedPool$Lot" "pending" "J" "RangedPool", Cond.methodLinkNest "RangedPool" 27 y_H_init "RangedPool", Cond.fieldLinkNest "RangedPool" 201 "RangedPool$History" "clock" "J" "RangedPool", Cond.methodLinkNest "RangedPool" 45 y_D_init "RangedPool", Cond.fieldLinkNest "RangedPool" 175 "RangedPool$Trade" "price" "I" "RangedPool", Cond.fieldLinkNest "RangedPool" 178 "RangedPool$Trade" "step" "I" "RangedPool", Cond.fieldLinkNest "RangedPool" 162 "RangedPool$Trade" "paid" "J" "RangedPool", Cond.fieldLinkNest "RangedPool" 169 "RangedPool$Trade" "given" "J" "RangedPool", Cond.methodLinkNest "RangedPool" 69 y_H_mark "RangedPool", Cond.methodLinkNest "RangedPool" 88 y_B_findOrFree "RangedPool", Cond.methodLinkNest "RangedPool$LotBook" 18 y_T_isThere "RangedPool", Cond.methodLinkNest "RangedPool$LotBook" 22 y_T_isFor "RangedPool", Cond.methodLinkNest "RangedPool" 92 y_B_totalLiquidity "RangedPool", Cond.methodLinkNest "RangedPool" 117 y_T_isThere "RangedPool", Cond.methodLinkNest "RangedPool" 123 y_T_begin "RangedPool", Cond.methodLinkNest "RangedPool" 127 y_T_settle "RangedPool", Cond.methodLinkNest "RangedPool" 138 y_B_find "RangedPool", Cond.methodLinkNest "RangedPool" 150 y_D_startAt "RangedPool", Cond.methodLinkNest "RangedPool" 154 y_D_workOut "RangedPool", Cond.methodLinkNest "RangedPool$Trade" 38 y_B_clearPendingGrowth "RangedPool", Cond.methodLinkNest "RangedPool$Trade" 47 y_B_markedAtOrBelow "RangedPool", Cond.methodLinkNest "RangedPool$Trade" 51 y_B_markedAbove "RangedPool", Cond.methodLinkNest "RangedPool$Trade" 95 y_P_priceOf "RangedPool", Cond.methodLinkNest "RangedPool$Trade" 57 y_B_depthAt "RangedPool", Cond.methodLinkNest "RangedPool$LotBook" 34 y_T_isInRange "RangedPool", Cond.methodLinkNest "RangedPool$Trade" 106 y_P_zeroBetween "RangedPool", Cond.methodLinkNest "RangedPool$Trade" 110 y_P_oneBetween "RangedPool", Cond.methodLinkNest "RangedPool$Trade" 83 y_P_quotient "RangedPool", Cond.methodLinkNest "RangedPool$Trade" 87 y_B_growPending "RangedPool", Cond.methodLinkNest "RangedPool$LotBook" 50 y_P_quotient "RangedPool", Cond.methodLinkNest "RangedPool$Trade" 113 y_P_greatestStepAt "RangedPool", Cond.methodLinkNest "RangedPool" 158 y_D_tokenIn "RangedPool", Cond.methodLinkNest "RangedPool" 172 y_B_keepPendingGrowth "RangedPool", Cond.methodLinkNest "RangedPool" 181 y_B_depthAt "RangedPool", Cond.methodLinkNest "RangedPool" 218 y_B_clearPendingGrowth "RangedPool", Cond.methodLinkNest "RangedPool" 221 y_B_growPending "RangedPool", Cond.methodLinkNest "RangedPool" 197 y_H_tick "RangedPool", Cond.methodLinkNest "RangedPool" 204 y_H_reaches "RangedPool", Cond.methodLinkNest "RangedPool" 208 y_H_sumAt "RangedPool", Cond.methodLinkNest "RangedPool" 214 y_B_netAt "RangedPool"]
theorem nk20 : Cond.methodLinkNest "RangedPool" 20 y_B_init "RangedPool" ∈ x_nest := List.mem_of_getElem? (i := 0) rfl
theorem nk27 : Cond.methodLinkNest "RangedPool$LotBook" 17 y_T_init "RangedPool" ∈ x_nest := List.mem_of_getElem? (i := 1) rfl
theorem nk33 : Cond.fieldLinkNest "RangedPool$LotBook" 38 "RangedPool$Lot" "lo" "I" "RangedPool" ∈ x_nest := List.mem_of_getElem? (i := 2) rfl
theorem nk35 : Cond.fieldLinkNest "RangedPool$LotBook" 42 "RangedPool$Lot" "hi" "I" "RangedPool" ∈ x_nest := List.mem_of_getElem? (i := 3) rfl
theorem nk37 : Cond.fieldLinkNest "RangedPool$LotBook" 30 "RangedPool$Lot" "liquidity" "J" "RangedPool" ∈ x_nest := List.mem_of_getElem? (i := 4) rfl
theorem nk38 : Cond.fieldLinkNest "RangedPool" 130 "RangedPool$Lot" "liquidity" "J" "RangedPool" ∈ x_nest := List.mem_of_getElem? (i := 5) rfl
theorem nk40 : Cond.fieldLinkNest "RangedPool" 143 "RangedPool$Lot" "owed" "[J" "RangedPool" ∈ x_nest := List.mem_of_getElem? (i := 6) rfl
theorem nk42 : Cond.fieldLinkNest "RangedPool$LotBook" 54 "RangedPool$Lot" "growth" "[J" "RangedPool" ∈ x_nest := List.mem_of_getElem? (i := 7) rfl
theorem nk43 : Cond.fieldLinkNest "RangedPool$LotBook" 45 "RangedPool$Lot" "pending" "J" "RangedPool" ∈ x_nest := List.mem_of_getElem? (i := 8) rfl
theorem nk66 : Cond.methodLinkNest "RangedPool" 27 y_H_init "RangedPool" ∈ x_nest := List.mem_of_getElem? (i := 9) rfl
theorem nk71 : Cond.fieldLinkNest "RangedPool" 201 "RangedPool$History" "clock" "J" "RangedPool" ∈ x_nest := List.mem_of_getElem? (i := 10) rfl
theorem nk96 : Cond.methodLinkNest "RangedPool" 45 y_D_init "RangedPool" ∈ x_nest := List.mem_of_getElem? (i := 11) rfl
theorem nk105 : Cond.fieldLinkNest "RangedPool" 175 "RangedPool$Trade" "price" "I" "RangedPool" ∈ x_nest := List.mem_of_getElem? (i := 12) rfl
theorem nk107 : Cond.fieldLinkNest "RangedPool" 178 "RangedPool$Trade" "step" "I" "RangedPool" ∈ x_nest := List.mem_of_getElem? (i := 13) rfl
theorem nk109 : Cond.fieldLinkNest "RangedPool" 162 "RangedPool$Trade" "paid" "J" "RangedPool" ∈ x_nest := List.mem_of_getElem? (i := 14) rfl
theorem nk111 : Cond.fieldLinkNest "RangedPool" 169 "RangedPool$Trade" "given" "J" "RangedPool" ∈ x_nest := List.mem_of_getElem? (i := 15) rfl
theorem nk172 : Cond.methodLinkNest "RangedPool" 69 y_H_mark "RangedPool" ∈ x_nest := List.mem_of_getElem? (i := 16) rfl
theorem nk202 : Cond.methodLinkNest "RangedPool" 88 y_B_findOrFree "RangedPool" ∈ x_nest := List.mem_of_getElem? (i := 17) rfl
theorem nk210 : Cond.methodLinkNest "RangedPool$LotBook" 18 y_T_isThere "RangedPool" ∈ x_nest := List.mem_of_getElem? (i := 18) rfl
theorem nk214 : Cond.methodLinkNest "RangedPool$LotBook" 22 y_T_isFor "RangedPool" ∈ x_nest := List.mem_of_getElem? (i := 19) rfl
theorem nk218 : Cond.methodLinkNest "RangedPool" 92 y_B_totalLiquidity "RangedPool" ∈ x_nest := List.mem_of_getElem? (i := 20) rfl
theorem nk255 : Cond.methodLinkNest "RangedPool" 117 y_T_isThere "RangedPool" ∈ x_nest := List.mem_of_getElem? (i := 21) rfl
theorem nk256 : Cond.methodLinkNest "RangedPool" 123 y_T_begin "RangedPool" ∈ x_nest := List.mem_of_getElem? (i := 22) rfl
theorem nk260 : Cond.methodLinkNest "RangedPool" 127 y_T_settle "RangedPool" ∈ x_nest := List.mem_of_getElem? (i := 23) rfl
theorem nk273 : Cond.methodLinkNest "RangedPool" 138 y_B_find "RangedPool" ∈ x_nest := List.mem_of_getElem? (i := 24) rfl
theorem nk288 : Cond.methodLinkNest "RangedPool" 150 y_D_startAt "RangedPool" ∈ x_nest := List.mem_of_getElem? (i := 25) rfl
theorem nk292 : Cond.methodLinkNest "RangedPool" 154 y_D_workOut "RangedPool" ∈ x_nest := List.mem_of_getElem? (i := 26) rfl
theorem nk296 : Cond.methodLinkNest "RangedPool$Trade" 38 y_B_clearPendingGrowth "RangedPool" ∈ x_nest := List.mem_of_getElem? (i := 27) rfl
theorem nk304 : Cond.methodLinkNest "RangedPool$Trade" 47 y_B_markedAtOrBelow "RangedPool" ∈ x_nest := List.mem_of_getElem? (i := 28) rfl
theorem nk308 : Cond.methodLinkNest "RangedPool$Trade" 51 y_B_markedAbove "RangedPool" ∈ x_nest := List.mem_of_getElem? (i := 29) rfl
theorem nk316 : Cond.methodLinkNest "RangedPool$Trade" 95 y_P_priceOf "RangedPool" ∈ x_nest := List.mem_of_getElem? (i := 30) rfl
theorem nk323 : Cond.methodLinkNest "RangedPool$Trade" 57 y_B_depthAt "RangedPool" ∈ x_nest := List.mem_of_getElem? (i := 31) rfl
theorem nk327 : Cond.methodLinkNest "RangedPool$LotBook" 34 y_T_isInRange "RangedPool" ∈ x_nest := List.mem_of_getElem? (i := 32) rfl
theorem nk340 : Cond.methodLinkNest "RangedPool$Trade" 106 y_P_zeroBetween "RangedPool" ∈ x_nest := List.mem_of_getElem? (i := 33) rfl
theorem nk341 : Cond.methodLinkNest "RangedPool$Trade" 110 y_P_oneBetween "RangedPool" ∈ x_nest := List.mem_of_getElem? (i := 34) rfl
theorem nk343 : Cond.methodLinkNest "RangedPool$Trade" 83 y_P_quotient "RangedPool" ∈ x_nest := List.mem_of_getElem? (i := 35) rfl
theorem nk355 : Cond.methodLinkNest "RangedPool$Trade" 87 y_B_growPending "RangedPool" ∈ x_nest := List.mem_of_getElem? (i := 36) rfl
theorem nk360 : Cond.methodLinkNest "RangedPool$LotBook" 50 y_P_quotient "RangedPool" ∈ x_nest := List.mem_of_getElem? (i := 37) rfl
theorem nk365 : Cond.methodLinkNest "RangedPool$Trade" 113 y_P_greatestStepAt "RangedPool" ∈ x_nest := List.mem_of_getElem? (i := 38) rfl
theorem nk368 : Cond.methodLinkNest "RangedPool" 158 y_D_tokenIn "RangedPool" ∈ x_nest := List.mem_of_getElem? (i := 39) rfl
theorem nk372 : Cond.methodLinkNest "RangedPool" 172 y_B_keepPendingGrowth "RangedPool" ∈ x_nest := List.mem_of_getElem? (i := 40) rfl
theorem nk384 : Cond.methodLinkNest "RangedPool" 181 y_B_depthAt "RangedPool" ∈ x_nest := List.mem_of_getElem? (i := 41) rfl
theorem nk394 : Cond.methodLinkNest "RangedPool" 218 y_B_clearPendingGrowth "RangedPool" ∈ x_nest := List.mem_of_getElem? (i := 42) rfl
theorem nk395 : Cond.methodLinkNest "RangedPool" 221 y_B_growPending "RangedPool" ∈ x_nest := List.mem_of_getElem? (i := 43) rfl
theorem nk400 : Cond.methodLinkNest "RangedPool" 197 y_H_tick "RangedPool" ∈ x_nest := List.mem_of_getElem? (i := 44) rfl
theorem nk408 : Cond.methodLinkNest "RangedPool" 204 y_H_reaches "RangedPool" ∈ x_nest := List.mem_of_getElem? (i := 45) rfl
theorem nk412 : Cond.methodLinkNest "RangedPool" 208 y_H_sumAt "RangedPool" ∈ x_nest := List.mem_of_getElem? (i := 46) rfl
theorem nk445 : Cond.methodLinkNest "RangedPool" 214 y_B_netAt "RangedPool" ∈ x_nest := List.mem_of_getElem? (i := 47) rfl
theorem x_nest_in : ∀ w ∈ x_nest, w ∈ lw_tbl := by decide +kernel
theorem gc_P_32 : GoodIn gA (va_wsS "RangedPool" 32 y_P_isSpacing w_P_isSpacing) := gA_good (List.forall_mem_cons.mpr ⟨kw91, List.forall_mem_cons.mpr ⟨kw92, List.forall_mem_cons.mpr ⟨kw1, fun _ h => absurd h List.not_mem_nil⟩⟩⟩) kc_P_isSpacing
theorem gc_P_56 : GoodIn gA (va_wsS "RangedPool" 56 y_P_isStep w_P_isStep) := gA_good (List.forall_mem_cons.mpr ⟨kw164, List.forall_mem_cons.mpr ⟨kw165, List.forall_mem_cons.mpr ⟨kw1, fun _ h => absurd h List.not_mem_nil⟩⟩⟩) kc_P_isStep
theorem gc_P_59 : GoodIn gA (va_wsS "RangedPool" 59 y_P_priceOf w_P_priceOf) := gA_good (List.forall_mem_cons.mpr ⟨kw167, List.forall_mem_cons.mpr ⟨kw168, List.forall_mem_cons.mpr ⟨kw1, fun _ h => absurd h List.not_mem_nil⟩⟩⟩) kc_P_priceOf
theorem gc_P_72 : GoodIn gA (va_wsS "RangedPool" 72 y_P_isOwner w_P_isOwner) := gA_good (List.forall_mem_cons.mpr ⟨kw184, List.forall_mem_cons.mpr ⟨kw185, List.forall_mem_cons.mpr ⟨kw1, fun _ h => absurd h List.not_mem_nil⟩⟩⟩) kc_P_isOwner
theorem gc_P_75 : GoodIn gA (va_wsS "RangedPool" 75 y_P_isToken w_P_isToken) := gA_good (List.forall_mem_cons.mpr ⟨kw187, List.forall_mem_cons.mpr ⟨kw188, List.forall_mem_cons.mpr ⟨kw1, fun _ h => absurd h List.not_mem_nil⟩⟩⟩) kc_P_isToken
theorem gc_P_81 : GoodIn gA (wsV "RangedPool" 81 "RangedPool" y_P_isRange w_P_isRange) := gA_good (List.forall_mem_cons.mpr ⟨kw196, List.forall_mem_cons.mpr ⟨kw198, List.forall_mem_cons.mpr ⟨ks2, List.forall_mem_cons.mpr ⟨kw1, fun _ h => absurd h List.not_mem_nil⟩⟩⟩⟩) kc_P_isRange
theorem gc_P_100 : GoodIn gA (wsV "RangedPool" 100 "RangedPool" y_P_zeroOfRange w_P_zeroOfRange) := gA_good (List.forall_mem_cons.mpr ⟨kw224, List.forall_mem_cons.mpr ⟨kw226, List.forall_mem_cons.mpr ⟨ks8, List.forall_mem_cons.mpr ⟨kw1, fun _ h => absurd h List.not_mem_nil⟩⟩⟩⟩) kc_P_zeroOfRange
theorem gc_P_104 : GoodIn gA (wsV "RangedPool" 104 "RangedPool" y_P_oneOfRange w_P_oneOfRange) := gA_good (List.forall_mem_cons.mpr ⟨kw235, List.forall_mem_cons.mpr ⟨kw237, List.forall_mem_cons.mpr ⟨ks9, List.forall_mem_cons.mpr ⟨kw1, fun _ h => absurd h List.not_mem_nil⟩⟩⟩⟩) kc_P_oneOfRange
theorem gc_P_107 : GoodIn gA (wsV "RangedPool" 107 "RangedPool" y_P_canPay w_P_canPay) := gA_good (List.forall_mem_cons.mpr ⟨kw242, List.forall_mem_cons.mpr ⟨kw244, List.forall_mem_cons.mpr ⟨ks10, List.forall_mem_cons.mpr ⟨kw1, fun _ h => absurd h List.not_mem_nil⟩⟩⟩⟩) kc_P_canPay
theorem gc_P_113 : GoodIn gA (wsV "RangedPool" 113 "RangedPool" y_P_pay w_P_pay) := gA_good (List.forall_mem_cons.mpr ⟨kw247, List.forall_mem_cons.mpr ⟨kw249, List.forall_mem_cons.mpr ⟨ks11, List.forall_mem_cons.mpr ⟨kw1, fun _ h => absurd h List.not_mem_nil⟩⟩⟩⟩) kc_P_pay
theorem gc_P_134 : GoodIn gA (va_wsS "RangedPool" 134 y_P_pair w_P_pair) := gA_good (List.forall_mem_cons.mpr ⟨kw265, List.forall_mem_cons.mpr ⟨kw266, List.forall_mem_cons.mpr ⟨kw1, fun _ h => absurd h List.not_mem_nil⟩⟩⟩) kc_P_pair
theorem gc_P_146 : GoodIn gA (wsV "RangedPool" 146 "RangedPool" y_P_isTrade w_P_isTrade) := gA_good (List.forall_mem_cons.mpr ⟨kw283, List.forall_mem_cons.mpr ⟨kw285, List.forall_mem_cons.mpr ⟨ks15, List.forall_mem_cons.mpr ⟨kw1, fun _ h => absurd h List.not_mem_nil⟩⟩⟩⟩) kc_P_isTrade
theorem gc_P_165 : GoodIn gA (wsV "RangedPool" 165 "RangedPool" y_P_transfer w_P_transfer) := gA_good (List.forall_mem_cons.mpr ⟨kw251, List.forall_mem_cons.mpr ⟨kw253, List.forall_mem_cons.mpr ⟨ks12, List.forall_mem_cons.mpr ⟨kw1, fun _ h => absurd h List.not_mem_nil⟩⟩⟩⟩) kc_P_transfer
theorem gc_P_185 : GoodIn gA (wsV "RangedPool" 185 "RangedPool" y_P_canLend w_P_canLend) := gA_good (List.forall_mem_cons.mpr ⟨kw385, List.forall_mem_cons.mpr ⟨kw387, List.forall_mem_cons.mpr ⟨ks33, List.forall_mem_cons.mpr ⟨kw1, fun _ h => absurd h List.not_mem_nil⟩⟩⟩⟩) kc_P_canLend
theorem gc_P_190 : GoodIn gA (va_wsS "RangedPool" 190 y_P_quotient w_P_quotient) := gA_good (List.forall_mem_cons.mpr ⟨kw232, List.forall_mem_cons.mpr ⟨kw233, List.forall_mem_cons.mpr ⟨kw1, fun _ h => absurd h List.not_mem_nil⟩⟩⟩) kc_P_quotient
theorem gc_P_194 : GoodIn gA (wsV "RangedPool" 194 "RangedPool" y_P_takeFee w_P_takeFee) := gA_good (List.forall_mem_cons.mpr ⟨kw390, List.forall_mem_cons.mpr ⟨kw392, List.forall_mem_cons.mpr ⟨ks34, List.forall_mem_cons.mpr ⟨kw1, fun _ h => absurd h List.not_mem_nil⟩⟩⟩⟩) kc_P_takeFee
theorem gc_P_224 : GoodIn gA (va_wsS "RangedPool" 224 y_P_zeroBetween w_P_zeroBetween) := gA_good (List.forall_mem_cons.mpr ⟨kw228, List.forall_mem_cons.mpr ⟨kw229, List.forall_mem_cons.mpr ⟨kw1, fun _ h => absurd h List.not_mem_nil⟩⟩⟩) kc_P_zeroBetween
theorem gc_P_228 : GoodIn gA (va_wsS "RangedPool" 228 y_P_oneBetween w_P_oneBetween) := gA_good (List.forall_mem_cons.mpr ⟨kw239, List.forall_mem_cons.mpr ⟨kw240, List.forall_mem_cons.mpr ⟨kw1, fun _ h => absurd h List.not_mem_nil⟩⟩⟩) kc_P_oneBetween
theorem gc_B_26 : GoodIn gA (wsV "RangedPool$LotBook" 26 "RangedPool$LotBook" y_B_find w_B_find) := gA_good (List.forall_mem_cons.mpr ⟨kw206, List.forall_mem_cons.mpr ⟨kw208, List.forall_mem_cons.mpr ⟨ks4, List.forall_mem_cons.mpr ⟨kw2, fun _ h => absurd h List.not_mem_nil⟩⟩⟩⟩) kc_B_find
theorem gc_D_43 : GoodIn gA (wsV "RangedPool$Trade" 43 "RangedPool$Trade" y_D_goOneLeg w_D_goOneLeg) := gA_good (List.forall_mem_cons.mpr ⟨kw300, List.forall_mem_cons.mpr ⟨kw302, List.forall_mem_cons.mpr ⟨ks19, List.forall_mem_cons.mpr ⟨kw5, fun _ h => absurd h List.not_mem_nil⟩⟩⟩⟩) kc_D_goOneLeg
theorem gc_D_54 : GoodIn gA (wsV "RangedPool$Trade" 54 "RangedPool$Trade" y_D_targetBefore w_D_targetBefore) := gA_good (List.forall_mem_cons.mpr ⟨kw312, List.forall_mem_cons.mpr ⟨kw314, List.forall_mem_cons.mpr ⟨ks22, List.forall_mem_cons.mpr ⟨kw5, fun _ h => absurd h List.not_mem_nil⟩⟩⟩⟩) kc_D_targetBefore
theorem gc_D_61 : GoodIn gA (wsV "RangedPool$Trade" 61 "RangedPool$Trade" y_D_priceAfterPaying w_D_priceAfterPaying) := gA_good (List.forall_mem_cons.mpr ⟨kw331, List.forall_mem_cons.mpr ⟨kw333, List.forall_mem_cons.mpr ⟨ks25, List.forall_mem_cons.mpr ⟨kw5, fun _ h => absurd h List.not_mem_nil⟩⟩⟩⟩) kc_D_priceAfterPaying
theorem gc_D_65 : GoodIn gA (wsV "RangedPool$Trade" 65 "RangedPool$Trade" y_D_priceAfterTaking w_D_priceAfterTaking) := gA_good (List.forall_mem_cons.mpr ⟨kw344, List.forall_mem_cons.mpr ⟨kw346, List.forall_mem_cons.mpr ⟨ks27, List.forall_mem_cons.mpr ⟨kw5, fun _ h => absurd h List.not_mem_nil⟩⟩⟩⟩) kc_D_priceAfterTaking
theorem gc_D_68 : GoodIn gA (wsV "RangedPool$Trade" 68 "RangedPool$Trade" y_D_amountIn w_D_amountIn) := gA_good (List.forall_mem_cons.mpr ⟨kw336, List.forall_mem_cons.mpr ⟨kw338, List.forall_mem_cons.mpr ⟨ks26, List.forall_mem_cons.mpr ⟨kw5, fun _ h => absurd h List.not_mem_nil⟩⟩⟩⟩) kc_D_amountIn
theorem gc_D_72 : GoodIn gA (wsV "RangedPool$Trade" 72 "RangedPool$Trade" y_D_amountOut w_D_amountOut) := gA_good (List.forall_mem_cons.mpr ⟨kw348, List.forall_mem_cons.mpr ⟨kw350, List.forall_mem_cons.mpr ⟨ks28, List.forall_mem_cons.mpr ⟨kw5, fun _ h => absurd h List.not_mem_nil⟩⟩⟩⟩) kc_D_amountOut
theorem gc_D_91 : GoodIn gA (wsV "RangedPool$Trade" 91 "RangedPool$Trade" y_D_moveTo w_D_moveTo) := gA_good (List.forall_mem_cons.mpr ⟨kw361, List.forall_mem_cons.mpr ⟨kw363, List.forall_mem_cons.mpr ⟨ks30, List.forall_mem_cons.mpr ⟨kw5, fun _ h => absurd h List.not_mem_nil⟩⟩⟩⟩) kc_D_moveTo
theorem gc_H_33 : GoodIn gA (wsV "RangedPool$History" 33 "RangedPool$History" y_H_dropOldest w_H_dropOldest) := gA_good (List.forall_mem_cons.mpr ⟨kw176, List.forall_mem_cons.mpr ⟨kw178, List.forall_mem_cons.mpr ⟨ks1, List.forall_mem_cons.mpr ⟨kw4, fun _ h => absurd h List.not_mem_nil⟩⟩⟩⟩) kc_H_dropOldest
theorem gc_M_64 : GoodIn gA (va_wsS "RangedPoolModel" 64 y_M_quotient w_M_quotient) := gA_good (List.forall_mem_cons.mpr ⟨kw588, List.forall_mem_cons.mpr ⟨kw589, List.forall_mem_cons.mpr ⟨kw6, fun _ h => absurd h List.not_mem_nil⟩⟩⟩) kc_M_quotient
theorem gc_M_82 : GoodIn gA (va_wsS "RangedPoolModel" 82 y_M_isStep w_M_isStep) := gA_good (List.forall_mem_cons.mpr ⟨kw545, List.forall_mem_cons.mpr ⟨kw546, List.forall_mem_cons.mpr ⟨kw6, fun _ h => absurd h List.not_mem_nil⟩⟩⟩) kc_M_isStep
theorem gc_M_89 : GoodIn gA (wsV "RangedPoolModel" 89 "RangedPoolModel" y_M_price w_M_price) := gA_good (List.forall_mem_cons.mpr ⟨kw548, List.forall_mem_cons.mpr ⟨kw550, List.forall_mem_cons.mpr ⟨ks39, List.forall_mem_cons.mpr ⟨kw6, fun _ h => absurd h List.not_mem_nil⟩⟩⟩⟩) kc_M_price
theorem gc_M_96 : GoodIn gA (wsV "RangedPoolModel" 96 "RangedPoolModel" y_M_note w_M_note) := gA_good (List.forall_mem_cons.mpr ⟨kw552, List.forall_mem_cons.mpr ⟨kw554, List.forall_mem_cons.mpr ⟨ks40, List.forall_mem_cons.mpr ⟨kw6, fun _ h => absurd h List.not_mem_nil⟩⟩⟩⟩) kc_M_note
theorem gc_M_99 : GoodIn gA (va_wsS "RangedPoolModel" 99 y_M_isOwner w_M_isOwner) := gA_good (List.forall_mem_cons.mpr ⟨kw560, List.forall_mem_cons.mpr ⟨kw561, List.forall_mem_cons.mpr ⟨kw6, fun _ h => absurd h List.not_mem_nil⟩⟩⟩) kc_M_isOwner
theorem gc_M_105 : GoodIn gA (va_wsS "RangedPoolModel" 105 y_M_zero w_M_zero) := gA_good (List.forall_mem_cons.mpr ⟨kw585, List.forall_mem_cons.mpr ⟨kw586, List.forall_mem_cons.mpr ⟨kw6, fun _ h => absurd h List.not_mem_nil⟩⟩⟩) kc_M_zero
theorem gc_M_109 : GoodIn gA (va_wsS "RangedPoolModel" 109 y_M_one w_M_one) := gA_good (List.forall_mem_cons.mpr ⟨kw595, List.forall_mem_cons.mpr ⟨kw596, List.forall_mem_cons.mpr ⟨kw6, fun _ h => absurd h List.not_mem_nil⟩⟩⟩) kc_M_one
theorem gc_M_114 : GoodIn gA (wsV "RangedPoolModel" 114 "RangedPoolModel" y_M_isRange w_M_isRange) := gA_good (List.forall_mem_cons.mpr ⟨kw569, List.forall_mem_cons.mpr ⟨kw571, List.forall_mem_cons.mpr ⟨ks41, List.forall_mem_cons.mpr ⟨kw6, fun _ h => absurd h List.not_mem_nil⟩⟩⟩⟩) kc_M_isRange
theorem gc_M_121 : GoodIn gA (wsV "RangedPoolModel" 121 "RangedPoolModel" y_M_find w_M_find) := gA_good (List.forall_mem_cons.mpr ⟨kw575, List.forall_mem_cons.mpr ⟨kw577, List.forall_mem_cons.mpr ⟨ks42, List.forall_mem_cons.mpr ⟨kw6, fun _ h => absurd h List.not_mem_nil⟩⟩⟩⟩) kc_M_find
theorem gc_M_129 : GoodIn gA (wsV "RangedPoolModel" 129 "RangedPoolModel" y_M_worthZero w_M_worthZero) := gA_good (List.forall_mem_cons.mpr ⟨kw581, List.forall_mem_cons.mpr ⟨kw583, List.forall_mem_cons.mpr ⟨ks43, List.forall_mem_cons.mpr ⟨kw6, fun _ h => absurd h List.not_mem_nil⟩⟩⟩⟩) kc_M_worthZero
theorem gc_M_133 : GoodIn gA (wsV "RangedPoolModel" 133 "RangedPoolModel" y_M_worthOne w_M_worthOne) := gA_good (List.forall_mem_cons.mpr ⟨kw591, List.forall_mem_cons.mpr ⟨kw593, List.forall_mem_cons.mpr ⟨ks44, List.forall_mem_cons.mpr ⟨kw6, fun _ h => absurd h List.not_mem_nil⟩⟩⟩⟩) kc_M_worthOne
theorem gc_M_138 : GoodIn gA (wsV "RangedPoolModel" 138 "RangedPoolModel" y_M_settle w_M_settle) := gA_good (List.forall_mem_cons.mpr ⟨kw599, List.forall_mem_cons.mpr ⟨kw601, List.forall_mem_cons.mpr ⟨ks45, List.forall_mem_cons.mpr ⟨kw6, fun _ h => absurd h List.not_mem_nil⟩⟩⟩⟩) kc_M_settle
theorem gc_M_142 : GoodIn gA (wsV "RangedPoolModel" 142 "RangedPoolModel" y_M_pay w_M_pay) := gA_good (List.forall_mem_cons.mpr ⟨kw604, List.forall_mem_cons.mpr ⟨kw606, List.forall_mem_cons.mpr ⟨ks46, List.forall_mem_cons.mpr ⟨kw6, fun _ h => absurd h List.not_mem_nil⟩⟩⟩⟩) kc_M_pay
theorem gc_M_148 : GoodIn gA (wsV "RangedPoolModel" 148 "RangedPoolModel" y_M_sweep w_M_sweep) := gA_good (List.forall_mem_cons.mpr ⟨kw613, List.forall_mem_cons.mpr ⟨kw615, List.forall_mem_cons.mpr ⟨ks47, List.forall_mem_cons.mpr ⟨kw6, fun _ h => absurd h List.not_mem_nil⟩⟩⟩⟩) kc_M_sweep
theorem gc_M_151 : GoodIn gA (wsV "RangedPoolModel" 151 "RangedPoolModel" y_M_marked w_M_marked) := gA_good (List.forall_mem_cons.mpr ⟨kw638, List.forall_mem_cons.mpr ⟨kw640, List.forall_mem_cons.mpr ⟨ks51, List.forall_mem_cons.mpr ⟨kw6, fun _ h => absurd h List.not_mem_nil⟩⟩⟩⟩) kc_M_marked
theorem gc_M_163 : GoodIn gA (wsV "RangedPoolModel" 163 "RangedPoolModel" y_M_nextStep w_M_nextStep) := gA_good (List.forall_mem_cons.mpr ⟨kw634, List.forall_mem_cons.mpr ⟨kw636, List.forall_mem_cons.mpr ⟨ks50, List.forall_mem_cons.mpr ⟨kw6, fun _ h => absurd h List.not_mem_nil⟩⟩⟩⟩) kc_M_nextStep
theorem gc_M_167 : GoodIn gA (wsV "RangedPoolModel" 167 "RangedPoolModel" y_M_depthAt w_M_depthAt) := gA_good (List.forall_mem_cons.mpr ⟨kw642, List.forall_mem_cons.mpr ⟨kw644, List.forall_mem_cons.mpr ⟨ks52, List.forall_mem_cons.mpr ⟨kw6, fun _ h => absurd h List.not_mem_nil⟩⟩⟩⟩) kc_M_depthAt
theorem gc_M_170 : GoodIn gA (va_wsS "RangedPoolModel" 170 y_M_in w_M_in) := gA_good (List.forall_mem_cons.mpr ⟨kw646, List.forall_mem_cons.mpr ⟨kw647, List.forall_mem_cons.mpr ⟨kw6, fun _ h => absurd h List.not_mem_nil⟩⟩⟩) kc_M_in
theorem gc_M_174 : GoodIn gA (va_wsS "RangedPoolModel" 174 y_M_goesOut w_M_goesOut) := gA_good (List.forall_mem_cons.mpr ⟨kw649, List.forall_mem_cons.mpr ⟨kw650, List.forall_mem_cons.mpr ⟨kw6, fun _ h => absurd h List.not_mem_nil⟩⟩⟩) kc_M_goesOut
theorem gc_M_177 : GoodIn gA (wsV "RangedPoolModel" 177 "RangedPoolModel" y_M_onTheWay w_M_onTheWay) := gA_good (List.forall_mem_cons.mpr ⟨kw652, List.forall_mem_cons.mpr ⟨kw654, List.forall_mem_cons.mpr ⟨ks53, List.forall_mem_cons.mpr ⟨kw6, fun _ h => absurd h List.not_mem_nil⟩⟩⟩⟩) kc_M_onTheWay
theorem gc_M_187 : GoodIn gA (wsV "RangedPoolModel" 187 "RangedPoolModel" y_M_leg w_M_leg) := gA_good (List.forall_mem_cons.mpr ⟨kw630, List.forall_mem_cons.mpr ⟨kw632, List.forall_mem_cons.mpr ⟨ks49, List.forall_mem_cons.mpr ⟨kw6, fun _ h => absurd h List.not_mem_nil⟩⟩⟩⟩) kc_M_leg
theorem gc_M_191 : GoodIn gA (wsV "RangedPoolModel" 191 "RangedPoolModel" y_M_work w_M_work) := gA_good (List.forall_mem_cons.mpr ⟨kw625, List.forall_mem_cons.mpr ⟨kw627, List.forall_mem_cons.mpr ⟨ks48, List.forall_mem_cons.mpr ⟨kw6, fun _ h => absurd h List.not_mem_nil⟩⟩⟩⟩) kc_M_work
theorem gc_L_9 : GoodIn gA (va_wsS "RangedPoolLaw" 9 y_L_cell w_L_cell) := gA_good (List.forall_mem_cons.mpr ⟨kw449, List.forall_mem_cons.mpr ⟨kw450, List.forall_mem_cons.mpr ⟨kw0, fun _ h => absurd h List.not_mem_nil⟩⟩⟩) kc_L_cell
theorem gc_L_21 : GoodIn gA (wsV "RangedPoolLaw" 21 "RangedPool" y_P_open w_P_open) := gA_good (List.forall_mem_cons.mpr ⟨kw160, List.forall_mem_cons.mpr ⟨kw161, List.forall_mem_cons.mpr ⟨kw162, List.forall_mem_cons.mpr ⟨kw1, fun _ h => absurd h List.not_mem_nil⟩⟩⟩⟩) kc_P_open
theorem gc_L_25 : GoodIn gA (wsV "RangedPoolLaw" 25 "RangedPoolModel" y_M_open w_M_open) := gA_good (List.forall_mem_cons.mpr ⟨kw541, List.forall_mem_cons.mpr ⟨kw542, List.forall_mem_cons.mpr ⟨kw543, List.forall_mem_cons.mpr ⟨kw6, fun _ h => absurd h List.not_mem_nil⟩⟩⟩⟩) kc_M_open
theorem gc_L_26 : GoodIn gA (wsV "RangedPoolLaw" 26 "RangedPool" y_P_fund w_P_fund) := gA_good (List.forall_mem_cons.mpr ⟨kw180, List.forall_mem_cons.mpr ⟨kw181, List.forall_mem_cons.mpr ⟨kw182, List.forall_mem_cons.mpr ⟨kw1, fun _ h => absurd h List.not_mem_nil⟩⟩⟩⟩) kc_P_fund
theorem gc_L_30 : GoodIn gA (wsV "RangedPoolLaw" 30 "RangedPoolModel" y_M_fund w_M_fund) := gA_good (List.forall_mem_cons.mpr ⟨kw556, List.forall_mem_cons.mpr ⟨kw557, List.forall_mem_cons.mpr ⟨kw558, List.forall_mem_cons.mpr ⟨kw6, fun _ h => absurd h List.not_mem_nil⟩⟩⟩⟩) kc_M_fund
theorem gc_L_31 : GoodIn gA (wsV "RangedPoolLaw" 31 "RangedPool" y_P_mint w_P_mint) := gA_good (List.forall_mem_cons.mpr ⟨kw191, List.forall_mem_cons.mpr ⟨kw192, List.forall_mem_cons.mpr ⟨kw193, List.forall_mem_cons.mpr ⟨kw1, fun _ h => absurd h List.not_mem_nil⟩⟩⟩⟩) kc_P_mint
theorem gc_L_35 : GoodIn gA (wsV "RangedPoolLaw" 35 "RangedPoolModel" y_M_mint w_M_mint) := gA_good (List.forall_mem_cons.mpr ⟨kw564, List.forall_mem_cons.mpr ⟨kw565, List.forall_mem_cons.mpr ⟨kw566, List.forall_mem_cons.mpr ⟨kw6, fun _ h => absurd h List.not_mem_nil⟩⟩⟩⟩) kc_M_mint
theorem gc_L_36 : GoodIn gA (wsV "RangedPoolLaw" 36 "RangedPool" y_P_burn w_P_burn) := gA_good (List.forall_mem_cons.mpr ⟨kw269, List.forall_mem_cons.mpr ⟨kw270, List.forall_mem_cons.mpr ⟨kw271, List.forall_mem_cons.mpr ⟨kw1, fun _ h => absurd h List.not_mem_nil⟩⟩⟩⟩) kc_P_burn
theorem gc_L_39 : GoodIn gA (wsV "RangedPoolLaw" 39 "RangedPoolModel" y_M_burn w_M_burn) := gA_good (List.forall_mem_cons.mpr ⟨kw608, List.forall_mem_cons.mpr ⟨kw609, List.forall_mem_cons.mpr ⟨kw610, List.forall_mem_cons.mpr ⟨kw6, fun _ h => absurd h List.not_mem_nil⟩⟩⟩⟩) kc_M_burn
theorem gc_L_40 : GoodIn gA (wsV "RangedPoolLaw" 40 "RangedPool" y_P_collect w_P_collect) := gA_good (List.forall_mem_cons.mpr ⟨kw275, List.forall_mem_cons.mpr ⟨kw276, List.forall_mem_cons.mpr ⟨kw277, List.forall_mem_cons.mpr ⟨kw1, fun _ h => absurd h List.not_mem_nil⟩⟩⟩⟩) kc_P_collect
theorem gc_L_44 : GoodIn gA (wsV "RangedPoolLaw" 44 "RangedPoolModel" y_M_collect w_M_collect) := gA_good (List.forall_mem_cons.mpr ⟨kw617, List.forall_mem_cons.mpr ⟨kw618, List.forall_mem_cons.mpr ⟨kw619, List.forall_mem_cons.mpr ⟨kw6, fun _ h => absurd h List.not_mem_nil⟩⟩⟩⟩) kc_M_collect
theorem gc_L_45 : GoodIn gA (wsV "RangedPoolLaw" 45 "RangedPool" y_P_swap w_P_swap) := gA_good (List.forall_mem_cons.mpr ⟨kw279, List.forall_mem_cons.mpr ⟨kw280, List.forall_mem_cons.mpr ⟨kw281, List.forall_mem_cons.mpr ⟨kw1, fun _ h => absurd h List.not_mem_nil⟩⟩⟩⟩) kc_P_swap
theorem gc_L_49 : GoodIn gA (wsV "RangedPoolLaw" 49 "RangedPoolModel" y_M_swap w_M_swap) := gA_good (List.forall_mem_cons.mpr ⟨kw621, List.forall_mem_cons.mpr ⟨kw622, List.forall_mem_cons.mpr ⟨kw623, List.forall_mem_cons.mpr ⟨kw6, fun _ h => absurd h List.not_mem_nil⟩⟩⟩⟩) kc_M_swap
theorem gc_L_50 : GoodIn gA (wsV "RangedPoolLaw" 50 "RangedPool" y_P_quote w_P_quote) := gA_good (List.forall_mem_cons.mpr ⟨kw376, List.forall_mem_cons.mpr ⟨kw377, List.forall_mem_cons.mpr ⟨kw378, List.forall_mem_cons.mpr ⟨kw1, fun _ h => absurd h List.not_mem_nil⟩⟩⟩⟩) kc_P_quote
theorem gc_L_54 : GoodIn gA (wsV "RangedPoolLaw" 54 "RangedPoolModel" y_M_quote w_M_quote) := gA_good (List.forall_mem_cons.mpr ⟨kw656, List.forall_mem_cons.mpr ⟨kw657, List.forall_mem_cons.mpr ⟨kw658, List.forall_mem_cons.mpr ⟨kw6, fun _ h => absurd h List.not_mem_nil⟩⟩⟩⟩) kc_M_quote
theorem gc_L_55 : GoodIn gA (wsV "RangedPoolLaw" 55 "RangedPool" y_P_flash w_P_flash) := gA_good (List.forall_mem_cons.mpr ⟨kw380, List.forall_mem_cons.mpr ⟨kw381, List.forall_mem_cons.mpr ⟨kw382, List.forall_mem_cons.mpr ⟨kw1, fun _ h => absurd h List.not_mem_nil⟩⟩⟩⟩) kc_P_flash
theorem gc_L_58 : GoodIn gA (wsV "RangedPoolLaw" 58 "RangedPoolModel" y_M_flash w_M_flash) := gA_good (List.forall_mem_cons.mpr ⟨kw660, List.forall_mem_cons.mpr ⟨kw661, List.forall_mem_cons.mpr ⟨kw662, List.forall_mem_cons.mpr ⟨kw6, fun _ h => absurd h List.not_mem_nil⟩⟩⟩⟩) kc_M_flash
theorem gc_L_59 : GoodIn gA (wsV "RangedPoolLaw" 59 "RangedPool" y_P_advance w_P_advance) := gA_good (List.forall_mem_cons.mpr ⟨kw396, List.forall_mem_cons.mpr ⟨kw397, List.forall_mem_cons.mpr ⟨kw398, List.forall_mem_cons.mpr ⟨kw1, fun _ h => absurd h List.not_mem_nil⟩⟩⟩⟩) kc_P_advance
theorem gc_L_62 : GoodIn gA (wsV "RangedPoolLaw" 62 "RangedPoolModel" y_M_advance w_M_advance) := gA_good (List.forall_mem_cons.mpr ⟨kw664, List.forall_mem_cons.mpr ⟨kw665, List.forall_mem_cons.mpr ⟨kw666, List.forall_mem_cons.mpr ⟨kw6, fun _ h => absurd h List.not_mem_nil⟩⟩⟩⟩) kc_M_advance
theorem gc_L_63 : GoodIn gA (wsV "RangedPoolLaw" 63 "RangedPool" y_P_observe w_P_observe) := gA_good (List.forall_mem_cons.mpr ⟨kw404, List.forall_mem_cons.mpr ⟨kw405, List.forall_mem_cons.mpr ⟨kw406, List.forall_mem_cons.mpr ⟨kw1, fun _ h => absurd h List.not_mem_nil⟩⟩⟩⟩) kc_P_observe
theorem gc_L_67 : GoodIn gA (wsV "RangedPoolLaw" 67 "RangedPoolModel" y_M_observe w_M_observe) := gA_good (List.forall_mem_cons.mpr ⟨kw668, List.forall_mem_cons.mpr ⟨kw669, List.forall_mem_cons.mpr ⟨kw670, List.forall_mem_cons.mpr ⟨kw6, fun _ h => absurd h List.not_mem_nil⟩⟩⟩⟩) kc_M_observe
theorem gc_L_68 : GoodIn gA (wsV "RangedPoolLaw" 68 "RangedPool" y_P_price w_P_price) := gA_good (List.forall_mem_cons.mpr ⟨kw417, List.forall_mem_cons.mpr ⟨kw418, List.forall_mem_cons.mpr ⟨kw419, List.forall_mem_cons.mpr ⟨kw1, fun _ h => absurd h List.not_mem_nil⟩⟩⟩⟩) kc_P_price
theorem gc_L_72 : GoodIn gA (wsV "RangedPoolLaw" 72 "RangedPoolModel" y_M_price0 w_M_price0) := gA_good (List.forall_mem_cons.mpr ⟨kw673, List.forall_mem_cons.mpr ⟨kw674, List.forall_mem_cons.mpr ⟨kw675, List.forall_mem_cons.mpr ⟨kw6, fun _ h => absurd h List.not_mem_nil⟩⟩⟩⟩) kc_M_price0
theorem gc_L_73 : GoodIn gA (wsV "RangedPoolLaw" 73 "RangedPool" y_P_step w_P_step) := gA_good (List.forall_mem_cons.mpr ⟨kw421, List.forall_mem_cons.mpr ⟨kw422, List.forall_mem_cons.mpr ⟨kw423, List.forall_mem_cons.mpr ⟨kw1, fun _ h => absurd h List.not_mem_nil⟩⟩⟩⟩) kc_P_step
theorem gc_L_76 : GoodIn gA (wsV "RangedPoolLaw" 76 "RangedPoolModel" y_M_step w_M_step) := gA_good (List.forall_mem_cons.mpr ⟨kw677, List.forall_mem_cons.mpr ⟨kw678, List.forall_mem_cons.mpr ⟨kw679, List.forall_mem_cons.mpr ⟨kw6, fun _ h => absurd h List.not_mem_nil⟩⟩⟩⟩) kc_M_step
theorem gc_L_77 : GoodIn gA (wsV "RangedPoolLaw" 77 "RangedPool" y_P_depth w_P_depth) := gA_good (List.forall_mem_cons.mpr ⟨kw425, List.forall_mem_cons.mpr ⟨kw426, List.forall_mem_cons.mpr ⟨kw427, List.forall_mem_cons.mpr ⟨kw1, fun _ h => absurd h List.not_mem_nil⟩⟩⟩⟩) kc_P_depth
theorem gc_L_80 : GoodIn gA (wsV "RangedPoolLaw" 80 "RangedPoolModel" y_M_depth w_M_depth) := gA_good (List.forall_mem_cons.mpr ⟨kw681, List.forall_mem_cons.mpr ⟨kw682, List.forall_mem_cons.mpr ⟨kw683, List.forall_mem_cons.mpr ⟨kw6, fun _ h => absurd h List.not_mem_nil⟩⟩⟩⟩) kc_M_depth
theorem gc_L_81 : GoodIn gA (wsV "RangedPoolLaw" 81 "RangedPool" y_P_wallet w_P_wallet) := gA_good (List.forall_mem_cons.mpr ⟨kw429, List.forall_mem_cons.mpr ⟨kw430, List.forall_mem_cons.mpr ⟨kw431, List.forall_mem_cons.mpr ⟨kw1, fun _ h => absurd h List.not_mem_nil⟩⟩⟩⟩) kc_P_wallet
theorem gc_L_85 : GoodIn gA (wsV "RangedPoolLaw" 85 "RangedPoolModel" y_M_wallet w_M_wallet) := gA_good (List.forall_mem_cons.mpr ⟨kw685, List.forall_mem_cons.mpr ⟨kw686, List.forall_mem_cons.mpr ⟨kw687, List.forall_mem_cons.mpr ⟨kw6, fun _ h => absurd h List.not_mem_nil⟩⟩⟩⟩) kc_M_wallet
theorem gc_L_86 : GoodIn gA (wsV "RangedPoolLaw" 86 "RangedPool" y_P_reserve w_P_reserve) := gA_good (List.forall_mem_cons.mpr ⟨kw433, List.forall_mem_cons.mpr ⟨kw434, List.forall_mem_cons.mpr ⟨kw435, List.forall_mem_cons.mpr ⟨kw1, fun _ h => absurd h List.not_mem_nil⟩⟩⟩⟩) kc_P_reserve
theorem gc_L_89 : GoodIn gA (wsV "RangedPoolLaw" 89 "RangedPoolModel" y_M_reserve w_M_reserve) := gA_good (List.forall_mem_cons.mpr ⟨kw689, List.forall_mem_cons.mpr ⟨kw690, List.forall_mem_cons.mpr ⟨kw691, List.forall_mem_cons.mpr ⟨kw6, fun _ h => absurd h List.not_mem_nil⟩⟩⟩⟩) kc_M_reserve
theorem gc_L_90 : GoodIn gA (wsV "RangedPoolLaw" 90 "RangedPool" y_P_lot w_P_lot) := gA_good (List.forall_mem_cons.mpr ⟨kw437, List.forall_mem_cons.mpr ⟨kw438, List.forall_mem_cons.mpr ⟨kw439, List.forall_mem_cons.mpr ⟨kw1, fun _ h => absurd h List.not_mem_nil⟩⟩⟩⟩) kc_P_lot
theorem gc_L_93 : GoodIn gA (wsV "RangedPoolLaw" 93 "RangedPoolModel" y_M_lot w_M_lot) := gA_good (List.forall_mem_cons.mpr ⟨kw693, List.forall_mem_cons.mpr ⟨kw694, List.forall_mem_cons.mpr ⟨kw695, List.forall_mem_cons.mpr ⟨kw6, fun _ h => absurd h List.not_mem_nil⟩⟩⟩⟩) kc_M_lot
theorem gc_L_94 : GoodIn gA (wsV "RangedPoolLaw" 94 "RangedPool" y_P_net w_P_net) := gA_good (List.forall_mem_cons.mpr ⟨kw441, List.forall_mem_cons.mpr ⟨kw442, List.forall_mem_cons.mpr ⟨kw443, List.forall_mem_cons.mpr ⟨kw1, fun _ h => absurd h List.not_mem_nil⟩⟩⟩⟩) kc_P_net
theorem gc_L_98 : GoodIn gA (wsV "RangedPoolLaw" 98 "RangedPoolModel" y_M_net w_M_net) := gA_good (List.forall_mem_cons.mpr ⟨kw697, List.forall_mem_cons.mpr ⟨kw698, List.forall_mem_cons.mpr ⟨kw699, List.forall_mem_cons.mpr ⟨kw6, fun _ h => absurd h List.not_mem_nil⟩⟩⟩⟩) kc_M_net
