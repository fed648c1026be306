section
-- ===== PART A: goes FIRST, ahead of the names: the tables' words, and 'selects' of the private methods out of them =====
/-- a private method of a class that the tables say can be made, by its rows of tables_1 -/
def lw_okq (q : MethodName × Nat) : Prop := (q.1.cls ≠ "java/lang/invoke/MethodHandle" ∧ q.1.cls ≠ "java/lang/invoke/VarHandle") ∧ Cond.instantiable q.1.cls q.2 ∈ tables_1 ∧ Cond.privateMethod q.1 ∈ tables_1 ∧ Cond.instanceMethod q.1 ∈ tables_1
theorem lw_p0 : lw_okq (⟨"RangedPool$History", "mark", "(I)V"⟩, 6) := ⟨⟨by decide +kernel, by decide +kernel⟩, List.mem_of_getElem? (i := 65) (by decide +kernel), List.mem_of_getElem? (i := 173) (by decide +kernel), List.mem_of_getElem? (i := 174) (by decide +kernel)⟩
theorem lw_p1 : lw_okq (⟨"RangedPool$History", "dropOldest", "()V"⟩, 6) := ⟨⟨by decide +kernel, by decide +kernel⟩, List.mem_of_getElem? (i := 65) (by decide +kernel), List.mem_of_getElem? (i := 177) (by decide +kernel), List.mem_of_getElem? (i := 178) (by decide +kernel)⟩
theorem lw_p2 : lw_okq (⟨"RangedPool", "isRange", "(II)Z"⟩, 10) := ⟨⟨by decide +kernel, by decide +kernel⟩, List.mem_of_getElem? (i := 9) (by decide +kernel), List.mem_of_getElem? (i := 197) (by decide +kernel), List.mem_of_getElem? (i := 198) (by decide +kernel)⟩
theorem lw_p3 : lw_okq (⟨"RangedPool$LotBook", "findOrFree", "(III)LRangedPool$Lot;"⟩, 1) := ⟨⟨by decide +kernel, by decide +kernel⟩, List.mem_of_getElem? (i := 19) (by decide +kernel), List.mem_of_getElem? (i := 203) (by decide +kernel), List.mem_of_getElem? (i := 204) (by decide +kernel)⟩
theorem lw_p4 : lw_okq (⟨"RangedPool$LotBook", "find", "(III)LRangedPool$Lot;"⟩, 1) := ⟨⟨by decide +kernel, by decide +kernel⟩, List.mem_of_getElem? (i := 19) (by decide +kernel), List.mem_of_getElem? (i := 207) (by decide +kernel), List.mem_of_getElem? (i := 208) (by decide +kernel)⟩
theorem lw_p5 : lw_okq (⟨"RangedPool$Lot", "isThere", "()Z"⟩, 7) := ⟨⟨by decide +kernel, by decide +kernel⟩, List.mem_of_getElem? (i := 26) (by decide +kernel), List.mem_of_getElem? (i := 211) (by decide +kernel), List.mem_of_getElem? (i := 212) (by decide +kernel)⟩
theorem lw_p6 : lw_okq (⟨"RangedPool$Lot", "isFor", "(III)Z"⟩, 7) := ⟨⟨by decide +kernel, by decide +kernel⟩, List.mem_of_getElem? (i := 26) (by decide +kernel), List.mem_of_getElem? (i := 215) (by decide +kernel), List.mem_of_getElem? (i := 216) (by decide +kernel)⟩
theorem lw_p7 : lw_okq (⟨"RangedPool$LotBook", "totalLiquidity", "()J"⟩, 1) := ⟨⟨by decide +kernel, by decide +kernel⟩, List.mem_of_getElem? (i := 19) (by decide +kernel), List.mem_of_getElem? (i := 219) (by decide +kernel), List.mem_of_getElem? (i := 220) (by decide +kernel)⟩
theorem lw_p8 : lw_okq (⟨"RangedPool", "zeroOfRange", "(IIJZ)J"⟩, 10) := ⟨⟨by decide +kernel, by decide +kernel⟩, List.mem_of_getElem? (i := 9) (by decide +kernel), List.mem_of_getElem? (i := 225) (by decide +kernel), List.mem_of_getElem? (i := 226) (by decide +kernel)⟩
theorem lw_p9 : lw_okq (⟨"RangedPool", "oneOfRange", "(IIJZ)J"⟩, 10) := ⟨⟨by decide +kernel, by decide +kernel⟩, List.mem_of_getElem? (i := 9) (by decide +kernel), List.mem_of_getElem? (i := 236) (by decide +kernel), List.mem_of_getElem? (i := 237) (by decide +kernel)⟩
theorem lw_p10 : lw_okq (⟨"RangedPool", "canPay", "(IJJ)Z"⟩, 10) := ⟨⟨by decide +kernel, by decide +kernel⟩, List.mem_of_getElem? (i := 9) (by decide +kernel), List.mem_of_getElem? (i := 243) (by decide +kernel), List.mem_of_getElem? (i := 244) (by decide +kernel)⟩
theorem lw_p11 : lw_okq (⟨"RangedPool", "pay", "(IJJ)V"⟩, 10) := ⟨⟨by decide +kernel, by decide +kernel⟩, List.mem_of_getElem? (i := 9) (by decide +kernel), List.mem_of_getElem? (i := 248) (by decide +kernel), List.mem_of_getElem? (i := 249) (by decide +kernel)⟩
theorem lw_p12 : lw_okq (⟨"RangedPool", "transfer", "(IIJ)V"⟩, 10) := ⟨⟨by decide +kernel, by decide +kernel⟩, List.mem_of_getElem? (i := 9) (by decide +kernel), List.mem_of_getElem? (i := 252) (by decide +kernel), List.mem_of_getElem? (i := 253) (by decide +kernel)⟩
theorem lw_p13 : lw_okq (⟨"RangedPool$Lot", "begin", "(III)V"⟩, 7) := ⟨⟨by decide +kernel, by decide +kernel⟩, List.mem_of_getElem? (i := 26) (by decide +kernel), List.mem_of_getElem? (i := 257) (by decide +kernel), List.mem_of_getElem? (i := 258) (by decide +kernel)⟩
theorem lw_p14 : lw_okq (⟨"RangedPool$Lot", "settle", "()V"⟩, 7) := ⟨⟨by decide +kernel, by decide +kernel⟩, List.mem_of_getElem? (i := 26) (by decide +kernel), List.mem_of_getElem? (i := 261) (by decide +kernel), List.mem_of_getElem? (i := 262) (by decide +kernel)⟩
theorem lw_p15 : lw_okq (⟨"RangedPool", "isTrade", "(ZII)Z"⟩, 10) := ⟨⟨by decide +kernel, by decide +kernel⟩, List.mem_of_getElem? (i := 9) (by decide +kernel), List.mem_of_getElem? (i := 284) (by decide +kernel), List.mem_of_getElem? (i := 285) (by decide +kernel)⟩
def lw_privs_1 : List (MethodName × Nat) := [(⟨"RangedPool$History", "mark", "(I)V"⟩, 6), (⟨"RangedPool$History", "dropOldest", "()V"⟩, 6), (⟨"RangedPool", "isRange", "(II)Z"⟩, 10), (⟨"RangedPool$LotBook", "findOrFree", "(III)LRangedPool$Lot;"⟩, 1), (⟨"RangedPool$LotBook", "find", "(III)LRangedPool$Lot;"⟩, 1), (⟨"RangedPool$Lot", "isThere", "()Z"⟩, 7), (⟨"RangedPool$Lot", "isFor", "(III)Z"⟩, 7), (⟨"RangedPool$LotBook", "totalLiquidity", "()J"⟩, 1), (⟨"RangedPool", "zeroOfRange", "(IIJZ)J"⟩, 10), (⟨"RangedPool", "oneOfRange", "(IIJZ)J"⟩, 10), (⟨"RangedPool", "canPay", "(IJJ)Z"⟩, 10), (⟨"RangedPool", "pay", "(IJJ)V"⟩, 10), (⟨"RangedPool", "transfer", "(IIJ)V"⟩, 10), (⟨"RangedPool$Lot", "begin", "(III)V"⟩, 7), (⟨"RangedPool$Lot", "settle", "()V"⟩, 7), (⟨"RangedPool", "isTrade", "(ZII)Z"⟩, 10)]
theorem lw_r1 : ∀ q ∈ lw_privs_1, lw_okq q := List.forall_mem_cons.mpr ⟨lw_p0, List.forall_mem_cons.mpr ⟨lw_p1, List.forall_mem_cons.mpr ⟨lw_p2, List.forall_mem_cons.mpr ⟨lw_p3, List.forall_mem_cons.mpr ⟨lw_p4, List.forall_mem_cons.mpr ⟨lw_p5, List.forall_mem_cons.mpr ⟨lw_p6, List.forall_mem_cons.mpr ⟨lw_p7, List.forall_mem_cons.mpr ⟨lw_p8, List.forall_mem_cons.mpr ⟨lw_p9, List.forall_mem_cons.mpr ⟨lw_p10, List.forall_mem_cons.mpr ⟨lw_p11, List.forall_mem_cons.mpr ⟨lw_p12, List.forall_mem_cons.mpr ⟨lw_p13, List.forall_mem_cons.mpr ⟨lw_p14, List.forall_mem_cons.mpr ⟨lw_p15, fun _ h => absurd h List.not_mem_nil⟩⟩⟩⟩⟩⟩⟩⟩⟩⟩⟩⟩⟩⟩⟩⟩
theorem lw_p16 : lw_okq (⟨"RangedPool$Trade", "startAt", "(IIZ)V"⟩, 8) := ⟨⟨by decide +kernel, by decide +kernel⟩, List.mem_of_getElem? (i := 95) (by decide +kernel), List.mem_of_getElem? (i := 289) (by decide +kernel), List.mem_of_getElem? (i := 290) (by decide +kernel)⟩
theorem lw_p17 : lw_okq (⟨"RangedPool$Trade", "workOut", "(LRangedPool$LotBook;II)V"⟩, 8) := ⟨⟨by decide +kernel, by decide +kernel⟩, List.mem_of_getElem? (i := 95) (by decide +kernel), List.mem_of_getElem? (i := 293) (by decide +kernel), List.mem_of_getElem? (i := 294) (by decide +kernel)⟩
theorem lw_p18 : lw_okq (⟨"RangedPool$LotBook", "clearPendingGrowth", "()V"⟩, 1) := ⟨⟨by decide +kernel, by decide +kernel⟩, List.mem_of_getElem? (i := 19) (by decide +kernel), List.mem_of_getElem? (i := 297) (by decide +kernel), List.mem_of_getElem? (i := 298) (by decide +kernel)⟩
theorem lw_p19 : lw_okq (⟨"RangedPool$Trade", "goOneLeg", "(LRangedPool$LotBook;)V"⟩, 8) := ⟨⟨by decide +kernel, by decide +kernel⟩, List.mem_of_getElem? (i := 95) (by decide +kernel), List.mem_of_getElem? (i := 301) (by decide +kernel), List.mem_of_getElem? (i := 302) (by decide +kernel)⟩
theorem lw_p20 : lw_okq (⟨"RangedPool$LotBook", "markedAtOrBelow", "(I)I"⟩, 1) := ⟨⟨by decide +kernel, by decide +kernel⟩, List.mem_of_getElem? (i := 19) (by decide +kernel), List.mem_of_getElem? (i := 305) (by decide +kernel), List.mem_of_getElem? (i := 306) (by decide +kernel)⟩
theorem lw_p21 : lw_okq (⟨"RangedPool$LotBook", "markedAbove", "(I)I"⟩, 1) := ⟨⟨by decide +kernel, by decide +kernel⟩, List.mem_of_getElem? (i := 19) (by decide +kernel), List.mem_of_getElem? (i := 309) (by decide +kernel), List.mem_of_getElem? (i := 310) (by decide +kernel)⟩
theorem lw_p22 : lw_okq (⟨"RangedPool$Trade", "targetBefore", "(I)I"⟩, 8) := ⟨⟨by decide +kernel, by decide +kernel⟩, List.mem_of_getElem? (i := 95) (by decide +kernel), List.mem_of_getElem? (i := 313) (by decide +kernel), List.mem_of_getElem? (i := 314) (by decide +kernel)⟩
theorem lw_p23 : lw_okq (⟨"RangedPool$LotBook", "depthAt", "(I)J"⟩, 1) := ⟨⟨by decide +kernel, by decide +kernel⟩, List.mem_of_getElem? (i := 19) (by decide +kernel), List.mem_of_getElem? (i := 324) (by decide +kernel), List.mem_of_getElem? (i := 325) (by decide +kernel)⟩
theorem lw_p24 : lw_okq (⟨"RangedPool$Lot", "isInRange", "(I)Z"⟩, 7) := ⟨⟨by decide +kernel, by decide +kernel⟩, List.mem_of_getElem? (i := 26) (by decide +kernel), List.mem_of_getElem? (i := 328) (by decide +kernel), List.mem_of_getElem? (i := 329) (by decide +kernel)⟩
theorem lw_p25 : lw_okq (⟨"RangedPool$Trade", "priceAfterPaying", "(JI)I"⟩, 8) := ⟨⟨by decide +kernel, by decide +kernel⟩, List.mem_of_getElem? (i := 95) (by decide +kernel), List.mem_of_getElem? (i := 332) (by decide +kernel), List.mem_of_getElem? (i := 333) (by decide +kernel)⟩
theorem lw_p26 : lw_okq (⟨"RangedPool$Trade", "amountIn", "(JI)J"⟩, 8) := ⟨⟨by decide +kernel, by decide +kernel⟩, List.mem_of_getElem? (i := 95) (by decide +kernel), List.mem_of_getElem? (i := 337) (by decide +kernel), List.mem_of_getElem? (i := 338) (by decide +kernel)⟩
theorem lw_p27 : lw_okq (⟨"RangedPool$Trade", "priceAfterTaking", "(JI)I"⟩, 8) := ⟨⟨by decide +kernel, by decide +kernel⟩, List.mem_of_getElem? (i := 95) (by decide +kernel), List.mem_of_getElem? (i := 345) (by decide +kernel), List.mem_of_getElem? (i := 346) (by decide +kernel)⟩
theorem lw_p28 : lw_okq (⟨"RangedPool$Trade", "amountOut", "(JI)J"⟩, 8) := ⟨⟨by decide +kernel, by decide +kernel⟩, List.mem_of_getElem? (i := 95) (by decide +kernel), List.mem_of_getElem? (i := 349) (by decide +kernel), List.mem_of_getElem? (i := 350) (by decide +kernel)⟩
theorem lw_p29 : lw_okq (⟨"RangedPool$LotBook", "growPending", "(IJJ)V"⟩, 1) := ⟨⟨by decide +kernel, by decide +kernel⟩, List.mem_of_getElem? (i := 19) (by decide +kernel), List.mem_of_getElem? (i := 356) (by decide +kernel), List.mem_of_getElem? (i := 357) (by decide +kernel)⟩
theorem lw_p30 : lw_okq (⟨"RangedPool$Trade", "moveTo", "(II)V"⟩, 8) := ⟨⟨by decide +kernel, by decide +kernel⟩, List.mem_of_getElem? (i := 95) (by decide +kernel), List.mem_of_getElem? (i := 362) (by decide +kernel), List.mem_of_getElem? (i := 363) (by decide +kernel)⟩
theorem lw_p31 : lw_okq (⟨"RangedPool$Trade", "tokenIn", "()I"⟩, 8) := ⟨⟨by decide +kernel, by decide +kernel⟩, List.mem_of_getElem? (i := 95) (by decide +kernel), List.mem_of_getElem? (i := 369) (by decide +kernel), List.mem_of_getElem? (i := 370) (by decide +kernel)⟩
def lw_privs_2 : List (MethodName × Nat) := [(⟨"RangedPool$Trade", "startAt", "(IIZ)V"⟩, 8), (⟨"RangedPool$Trade", "workOut", "(LRangedPool$LotBook;II)V"⟩, 8), (⟨"RangedPool$LotBook", "clearPendingGrowth", "()V"⟩, 1), (⟨"RangedPool$Trade", "goOneLeg", "(LRangedPool$LotBook;)V"⟩, 8), (⟨"RangedPool$LotBook", "markedAtOrBelow", "(I)I"⟩, 1), (⟨"RangedPool$LotBook", "markedAbove", "(I)I"⟩, 1), (⟨"RangedPool$Trade", "targetBefore", "(I)I"⟩, 8), (⟨"RangedPool$LotBook", "depthAt", "(I)J"⟩, 1), (⟨"RangedPool$Lot", "isInRange", "(I)Z"⟩, 7), (⟨"RangedPool$Trade", "priceAfterPaying", "(JI)I"⟩, 8), (⟨"RangedPool$Trade", "amountIn", "(JI)J"⟩, 8), (⟨"RangedPool$Trade", "priceAfterTaking", "(JI)I"⟩, 8), (⟨"RangedPool$Trade", "amountOut", "(JI)J"⟩, 8), (⟨"RangedPool$LotBook", "growPending", "(IJJ)V"⟩, 1), (⟨"RangedPool$Trade", "moveTo", "(II)V"⟩, 8), (⟨"RangedPool$Trade", "tokenIn", "()I"⟩, 8)]
theorem lw_r2 : ∀ q ∈ lw_privs_2, lw_okq q := List.forall_mem_cons.mpr ⟨lw_p16, List.forall_mem_cons.mpr ⟨lw_p17, List.forall_mem_cons.mpr ⟨lw_p18, List.forall_mem_cons.mpr ⟨lw_p19, List.forall_mem_cons.mpr ⟨lw_p20, List.forall_mem_cons.mpr ⟨lw_p21, List.forall_mem_cons.mpr ⟨lw_p22, List.forall_mem_cons.mpr ⟨lw_p23, List.forall_mem_cons.mpr ⟨lw_p24, List.forall_mem_cons.mpr ⟨lw_p25, List.forall_mem_cons.mpr ⟨lw_p26, List.forall_mem_cons.mpr ⟨lw_p27, List.forall_mem_cons.mpr ⟨lw_p28, List.forall_mem_cons.mpr ⟨lw_p29, List.forall_mem_cons.mpr ⟨lw_p30, List.forall_mem_cons.mpr ⟨lw_p31, fun _ h => absurd h List.not_mem_nil⟩⟩⟩⟩⟩⟩⟩⟩⟩⟩⟩⟩⟩⟩⟩⟩
theorem lw_p32 : lw_okq (⟨"RangedPool$LotBook", "keepPendingGrowth", "(I)V"⟩, 1) := ⟨⟨by decide +kernel, by decide +kernel⟩, List.mem_of_getElem? (i := 19) (by decide +kernel), List.mem_of_getElem? (i := 373) (by decide +kernel), List.mem_of_getElem? (i := 374) (by decide +kernel)⟩
theorem lw_p33 : lw_okq (⟨"RangedPool", "canLend", "(II)Z"⟩, 10) := ⟨⟨by decide +kernel, by decide +kernel⟩, List.mem_of_getElem? (i := 9) (by decide +kernel), List.mem_of_getElem? (i := 386) (by decide +kernel), List.mem_of_getElem? (i := 387) (by decide +kernel)⟩
theorem lw_p34 : lw_okq (⟨"RangedPool", "takeFee", "(IJJ)V"⟩, 10) := ⟨⟨by decide +kernel, by decide +kernel⟩, List.mem_of_getElem? (i := 9) (by decide +kernel), List.mem_of_getElem? (i := 391) (by decide +kernel), List.mem_of_getElem? (i := 392) (by decide +kernel)⟩
theorem lw_p35 : lw_okq (⟨"RangedPool$History", "tick", "(II)V"⟩, 6) := ⟨⟨by decide +kernel, by decide +kernel⟩, List.mem_of_getElem? (i := 65) (by decide +kernel), List.mem_of_getElem? (i := 401) (by decide +kernel), List.mem_of_getElem? (i := 402) (by decide +kernel)⟩
theorem lw_p36 : lw_okq (⟨"RangedPool$History", "reaches", "(J)Z"⟩, 6) := ⟨⟨by decide +kernel, by decide +kernel⟩, List.mem_of_getElem? (i := 65) (by decide +kernel), List.mem_of_getElem? (i := 409) (by decide +kernel), List.mem_of_getElem? (i := 410) (by decide +kernel)⟩
theorem lw_p37 : lw_okq (⟨"RangedPool$History", "sumAt", "(JI)J"⟩, 6) := ⟨⟨by decide +kernel, by decide +kernel⟩, List.mem_of_getElem? (i := 65) (by decide +kernel), List.mem_of_getElem? (i := 413) (by decide +kernel), List.mem_of_getElem? (i := 414) (by decide +kernel)⟩
theorem lw_p38 : lw_okq (⟨"RangedPool$LotBook", "netAt", "(I)J"⟩, 1) := ⟨⟨by decide +kernel, by decide +kernel⟩, List.mem_of_getElem? (i := 19) (by decide +kernel), List.mem_of_getElem? (i := 446) (by decide +kernel), List.mem_of_getElem? (i := 447) (by decide +kernel)⟩
theorem lw_p39 : lw_okq (⟨"RangedPoolModel", "price", "(I)J"⟩, 26) := ⟨⟨by decide +kernel, by decide +kernel⟩, List.mem_of_getElem? (i := 453) (by decide +kernel), List.mem_of_getElem? (i := 549) (by decide +kernel), List.mem_of_getElem? (i := 550) (by decide +kernel)⟩
theorem lw_p40 : lw_okq (⟨"RangedPoolModel", "note", "()V"⟩, 26) := ⟨⟨by decide +kernel, by decide +kernel⟩, List.mem_of_getElem? (i := 453) (by decide +kernel), List.mem_of_getElem? (i := 553) (by decide +kernel), List.mem_of_getElem? (i := 554) (by decide +kernel)⟩
theorem lw_p41 : lw_okq (⟨"RangedPoolModel", "isRange", "(II)Z"⟩, 26) := ⟨⟨by decide +kernel, by decide +kernel⟩, List.mem_of_getElem? (i := 453) (by decide +kernel), List.mem_of_getElem? (i := 570) (by decide +kernel), List.mem_of_getElem? (i := 571) (by decide +kernel)⟩
theorem lw_p42 : lw_okq (⟨"RangedPoolModel", "find", "(III)I"⟩, 26) := ⟨⟨by decide +kernel, by decide +kernel⟩, List.mem_of_getElem? (i := 453) (by decide +kernel), List.mem_of_getElem? (i := 576) (by decide +kernel), List.mem_of_getElem? (i := 577) (by decide +kernel)⟩
theorem lw_p43 : lw_okq (⟨"RangedPoolModel", "worthZero", "(IIJZ)J"⟩, 26) := ⟨⟨by decide +kernel, by decide +kernel⟩, List.mem_of_getElem? (i := 453) (by decide +kernel), List.mem_of_getElem? (i := 582) (by decide +kernel), List.mem_of_getElem? (i := 583) (by decide +kernel)⟩
theorem lw_p44 : lw_okq (⟨"RangedPoolModel", "worthOne", "(IIJZ)J"⟩, 26) := ⟨⟨by decide +kernel, by decide +kernel⟩, List.mem_of_getElem? (i := 453) (by decide +kernel), List.mem_of_getElem? (i := 592) (by decide +kernel), List.mem_of_getElem? (i := 593) (by decide +kernel)⟩
theorem lw_p45 : lw_okq (⟨"RangedPoolModel", "settle", "(I)V"⟩, 26) := ⟨⟨by decide +kernel, by decide +kernel⟩, List.mem_of_getElem? (i := 453) (by decide +kernel), List.mem_of_getElem? (i := 600) (by decide +kernel), List.mem_of_getElem? (i := 601) (by decide +kernel)⟩
theorem lw_p46 : lw_okq (⟨"RangedPoolModel", "pay", "(IJJ)V"⟩, 26) := ⟨⟨by decide +kernel, by decide +kernel⟩, List.mem_of_getElem? (i := 453) (by decide +kernel), List.mem_of_getElem? (i := 605) (by decide +kernel), List.mem_of_getElem? (i := 606) (by decide +kernel)⟩
theorem lw_p47 : lw_okq (⟨"RangedPoolModel", "sweep", "(I)V"⟩, 26) := ⟨⟨by decide +kernel, by decide +kernel⟩, List.mem_of_getElem? (i := 453) (by decide +kernel), List.mem_of_getElem? (i := 614) (by decide +kernel), List.mem_of_getElem? (i := 615) (by decide +kernel)⟩
def lw_privs_3 : List (MethodName × Nat) := [(⟨"RangedPool$LotBook", "keepPendingGrowth", "(I)V"⟩, 1), (⟨"RangedPool", "canLend", "(II)Z"⟩, 10), (⟨"RangedPool", "takeFee", "(IJJ)V"⟩, 10), (⟨"RangedPool$History", "tick", "(II)V"⟩, 6), (⟨"RangedPool$History", "reaches", "(J)Z"⟩, 6), (⟨"RangedPool$History", "sumAt", "(JI)J"⟩, 6), (⟨"RangedPool$LotBook", "netAt", "(I)J"⟩, 1), (⟨"RangedPoolModel", "price", "(I)J"⟩, 26), (⟨"RangedPoolModel", "note", "()V"⟩, 26), (⟨"RangedPoolModel", "isRange", "(II)Z"⟩, 26), (⟨"RangedPoolModel", "find", "(III)I"⟩, 26), (⟨"RangedPoolModel", "worthZero", "(IIJZ)J"⟩, 26), (⟨"RangedPoolModel", "worthOne", "(IIJZ)J"⟩, 26), (⟨"RangedPoolModel", "settle", "(I)V"⟩, 26), (⟨"RangedPoolModel", "pay", "(IJJ)V"⟩, 26), (⟨"RangedPoolModel", "sweep", "(I)V"⟩, 26)]
theorem lw_r3 : ∀ q ∈ lw_privs_3, lw_okq q := List.forall_mem_cons.mpr ⟨lw_p32, List.forall_mem_cons.mpr ⟨lw_p33, List.forall_mem_cons.mpr ⟨lw_p34, List.forall_mem_cons.mpr ⟨lw_p35, List.forall_mem_cons.mpr ⟨lw_p36, List.forall_mem_cons.mpr ⟨lw_p37, List.forall_mem_cons.mpr ⟨lw_p38, List.forall_mem_cons.mpr ⟨lw_p39, List.forall_mem_cons.mpr ⟨lw_p40, List.forall_mem_cons.mpr ⟨lw_p41, List.forall_mem_cons.mpr ⟨lw_p42, List.forall_mem_cons.mpr ⟨lw_p43, List.forall_mem_cons.mpr ⟨lw_p44, List.forall_mem_cons.mpr ⟨lw_p45, List.forall_mem_cons.mpr ⟨lw_p46, List.forall_mem_cons.mpr ⟨lw_p47, fun _ h => absurd h List.not_mem_nil⟩⟩⟩⟩⟩⟩⟩⟩⟩⟩⟩⟩⟩⟩⟩⟩
theorem lw_p48 : lw_okq (⟨"RangedPoolModel", "work", "(ZII)Z"⟩, 26) := ⟨⟨by decide +kernel, by decide +kernel⟩, List.mem_of_getElem? (i := 453) (by decide +kernel), List.mem_of_getElem? (i := 626) (by decide +kernel), List.mem_of_getElem? (i := 627) (by decide +kernel)⟩
theorem lw_p49 : lw_okq (⟨"RangedPoolModel", "leg", "(ZJ)V"⟩, 26) := ⟨⟨by decide +kernel, by decide +kernel⟩, List.mem_of_getElem? (i := 453) (by decide +kernel), List.mem_of_getElem? (i := 631) (by decide +kernel), List.mem_of_getElem? (i := 632) (by decide +kernel)⟩
theorem lw_p50 : lw_okq (⟨"RangedPoolModel", "nextStep", "(Z)I"⟩, 26) := ⟨⟨by decide +kernel, by decide +kernel⟩, List.mem_of_getElem? (i := 453) (by decide +kernel), List.mem_of_getElem? (i := 635) (by decide +kernel), List.mem_of_getElem? (i := 636) (by decide +kernel)⟩
theorem lw_p51 : lw_okq (⟨"RangedPoolModel", "marked", "(I)Z"⟩, 26) := ⟨⟨by decide +kernel, by decide +kernel⟩, List.mem_of_getElem? (i := 453) (by decide +kernel), List.mem_of_getElem? (i := 639) (by decide +kernel), List.mem_of_getElem? (i := 640) (by decide +kernel)⟩
theorem lw_p52 : lw_okq (⟨"RangedPoolModel", "depthAt", "(I)J"⟩, 26) := ⟨⟨by decide +kernel, by decide +kernel⟩, List.mem_of_getElem? (i := 453) (by decide +kernel), List.mem_of_getElem? (i := 643) (by decide +kernel), List.mem_of_getElem? (i := 644) (by decide +kernel)⟩
theorem lw_p53 : lw_okq (⟨"RangedPoolModel", "onTheWay", "(ZJJJ)J"⟩, 26) := ⟨⟨by decide +kernel, by decide +kernel⟩, List.mem_of_getElem? (i := 453) (by decide +kernel), List.mem_of_getElem? (i := 653) (by decide +kernel), List.mem_of_getElem? (i := 654) (by decide +kernel)⟩
def lw_privs_4 : List (MethodName × Nat) := [(⟨"RangedPoolModel", "work", "(ZII)Z"⟩, 26), (⟨"RangedPoolModel", "leg", "(ZJ)V"⟩, 26), (⟨"RangedPoolModel", "nextStep", "(Z)I"⟩, 26), (⟨"RangedPoolModel", "marked", "(I)Z"⟩, 26), (⟨"RangedPoolModel", "depthAt", "(I)J"⟩, 26), (⟨"RangedPoolModel", "onTheWay", "(ZJJJ)J"⟩, 26)]
theorem lw_r4 : ∀ q ∈ lw_privs_4, lw_okq q := List.forall_mem_cons.mpr ⟨lw_p48, List.forall_mem_cons.mpr ⟨lw_p49, List.forall_mem_cons.mpr ⟨lw_p50, List.forall_mem_cons.mpr ⟨lw_p51, List.forall_mem_cons.mpr ⟨lw_p52, List.forall_mem_cons.mpr ⟨lw_p53, fun _ h => absurd h List.not_mem_nil⟩⟩⟩⟩⟩⟩
def lw_privs : List (MethodName × Nat) := lw_privs_1 ++ (lw_privs_2 ++ (lw_privs_3 ++ (lw_privs_4)))
def lw_tbl : List Cond := k2_sels lw_privs ++ tables_1
theorem lw_privs_ok : ∀ q ∈ lw_privs, lw_okq q := by
  show ∀ q ∈ lw_privs_1 ++ (lw_privs_2 ++ (lw_privs_3 ++ (lw_privs_4))), lw_okq q
  exact List.forall_mem_append.mpr ⟨lw_r1, List.forall_mem_append.mpr ⟨lw_r2, List.forall_mem_append.mpr ⟨lw_r3, lw_r4⟩⟩⟩
-- ===== end of PART A (out of the skeleton); what follows is by wip/whole/names.py =====
def y_P_init : MethodName := ⟨"RangedPool", "<init>", "(II)V"⟩
abbrev b_P_init : ByteArray := prog_1_method_1_code
def y_B_init : MethodName := ⟨"RangedPool$LotBook", "<init>", "()V"⟩
abbrev b_B_init : ByteArray := prog_4_method_1_code
def y_T_init : MethodName := ⟨"RangedPool$Lot", "<init>", "()V"⟩
abbrev b_T_init : ByteArray := prog_3_method_1_code
def y_H_init : MethodName := ⟨"RangedPool$History", "<init>", "()V"⟩
abbrev b_H_init : ByteArray := prog_2_method_1_code
def y_P_isSpacing : MethodName := ⟨"RangedPool", "isSpacing", "(I)Z"⟩
abbrev b_P_isSpacing : ByteArray := prog_1_method_19_code
def y_D_init : MethodName := ⟨"RangedPool$Trade", "<init>", "(I)V"⟩
abbrev b_D_init : ByteArray := prog_5_method_1_code
def y_P_open : MethodName := ⟨"RangedPool", "open", "(I)Z"⟩
abbrev b_P_open : ByteArray := prog_1_method_2_code
def y_P_isStep : MethodName := ⟨"RangedPool", "isStep", "(I)Z"⟩
abbrev b_P_isStep : ByteArray := prog_1_method_20_code
def y_P_priceOf : MethodName := ⟨"RangedPool", "priceOf", "(I)I"⟩
abbrev b_P_priceOf : ByteArray := prog_1_method_36_code
def y_H_mark : MethodName := ⟨"RangedPool$History", "mark", "(I)V"⟩
abbrev b_H_mark : ByteArray := prog_2_method_3_code
def y_H_dropOldest : MethodName := ⟨"RangedPool$History", "dropOldest", "()V"⟩
abbrev b_H_dropOldest : ByteArray := prog_2_method_4_code
def y_P_fund : MethodName := ⟨"RangedPool", "fund", "(III)Z"⟩
abbrev b_P_fund : ByteArray := prog_1_method_3_code
def y_P_isOwner : MethodName := ⟨"RangedPool", "isOwner", "(I)Z"⟩
abbrev b_P_isOwner : ByteArray := prog_1_method_21_code
def y_P_isToken : MethodName := ⟨"RangedPool", "isToken", "(I)Z"⟩
abbrev b_P_isToken : ByteArray := prog_1_method_22_code
def y_P_mint : MethodName := ⟨"RangedPool", "mint", "(IIII)J"⟩
abbrev b_P_mint : ByteArray := prog_1_method_4_code
def y_P_isRange : MethodName := ⟨"RangedPool", "isRange", "(II)Z"⟩
abbrev b_P_isRange : ByteArray := prog_1_method_23_code
def y_B_findOrFree : MethodName := ⟨"RangedPool$LotBook", "findOrFree", "(III)LRangedPool$Lot;"⟩
abbrev b_B_findOrFree : ByteArray := prog_4_method_3_code
def y_B_find : MethodName := ⟨"RangedPool$LotBook", "find", "(III)LRangedPool$Lot;"⟩
abbrev b_B_find : ByteArray := prog_4_method_2_code
def y_T_isThere : MethodName := ⟨"RangedPool$Lot", "isThere", "()Z"⟩
abbrev b_T_isThere : ByteArray := prog_3_method_2_code
def y_T_isFor : MethodName := ⟨"RangedPool$Lot", "isFor", "(III)Z"⟩
abbrev b_T_isFor : ByteArray := prog_3_method_3_code
def y_B_totalLiquidity : MethodName := ⟨"RangedPool$LotBook", "totalLiquidity", "()J"⟩
abbrev b_B_totalLiquidity : ByteArray := prog_4_method_4_code
def y_P_zeroOfRange : MethodName := ⟨"RangedPool", "zeroOfRange", "(IIJZ)J"⟩
abbrev b_P_zeroOfRange : ByteArray := prog_1_method_30_code
def y_P_zeroBetween : MethodName := ⟨"RangedPool", "zeroBetween", "(JJJZ)J"⟩
abbrev b_P_zeroBetween : ByteArray := prog_1_method_32_code
def y_P_quotient : MethodName := ⟨"RangedPool", "quotient", "(JJZ)J"⟩
abbrev b_P_quotient : ByteArray := prog_1_method_34_code
def y_P_oneOfRange : MethodName := ⟨"RangedPool", "oneOfRange", "(IIJZ)J"⟩
abbrev b_P_oneOfRange : ByteArray := prog_1_method_31_code
def y_P_oneBetween : MethodName := ⟨"RangedPool", "oneBetween", "(JJJZ)J"⟩
abbrev b_P_oneBetween : ByteArray := prog_1_method_33_code
def y_P_canPay : MethodName := ⟨"RangedPool", "canPay", "(IJJ)Z"⟩
abbrev b_P_canPay : ByteArray := prog_1_method_26_code
def y_P_pay : MethodName := ⟨"RangedPool", "pay", "(IJJ)V"⟩
abbrev b_P_pay : ByteArray := prog_1_method_27_code
def y_P_transfer : MethodName := ⟨"RangedPool", "transfer", "(IIJ)V"⟩
abbrev b_P_transfer : ByteArray := prog_1_method_28_code
def y_T_begin : MethodName := ⟨"RangedPool$Lot", "begin", "(III)V"⟩
abbrev b_T_begin : ByteArray := prog_3_method_5_code
def y_T_settle : MethodName := ⟨"RangedPool$Lot", "settle", "()V"⟩
abbrev b_T_settle : ByteArray := prog_3_method_6_code
def y_P_pair : MethodName := ⟨"RangedPool", "pair", "(JJ)J"⟩
abbrev b_P_pair : ByteArray := prog_1_method_35_code
def y_P_burn : MethodName := ⟨"RangedPool", "burn", "(IIII)J"⟩
abbrev b_P_burn : ByteArray := prog_1_method_5_code
def y_P_collect : MethodName := ⟨"RangedPool", "collect", "(III)J"⟩
abbrev b_P_collect : ByteArray := prog_1_method_6_code
def y_P_swap : MethodName := ⟨"RangedPool", "swap", "(IZII)J"⟩
abbrev b_P_swap : ByteArray := prog_1_method_7_code
def y_P_isTrade : MethodName := ⟨"RangedPool", "isTrade", "(ZII)Z"⟩
abbrev b_P_isTrade : ByteArray := prog_1_method_24_code
def y_D_startAt : MethodName := ⟨"RangedPool$Trade", "startAt", "(IIZ)V"⟩
abbrev b_D_startAt : ByteArray := prog_5_method_3_code
def y_D_workOut : MethodName := ⟨"RangedPool$Trade", "workOut", "(LRangedPool$LotBook;II)V"⟩
abbrev b_D_workOut : ByteArray := prog_5_method_4_code
def y_B_clearPendingGrowth : MethodName := ⟨"RangedPool$LotBook", "clearPendingGrowth", "()V"⟩
abbrev b_B_clearPendingGrowth : ByteArray := prog_4_method_9_code
def y_D_goOneLeg : MethodName := ⟨"RangedPool$Trade", "goOneLeg", "(LRangedPool$LotBook;)V"⟩
abbrev b_D_goOneLeg : ByteArray := prog_5_method_5_code
def y_B_markedAtOrBelow : MethodName := ⟨"RangedPool$LotBook", "markedAtOrBelow", "(I)I"⟩
abbrev b_B_markedAtOrBelow : ByteArray := prog_4_method_7_code
def y_B_markedAbove : MethodName := ⟨"RangedPool$LotBook", "markedAbove", "(I)I"⟩
abbrev b_B_markedAbove : ByteArray := prog_4_method_8_code
def y_D_targetBefore : MethodName := ⟨"RangedPool$Trade", "targetBefore", "(I)I"⟩
abbrev b_D_targetBefore : ByteArray := prog_5_method_6_code
def y_B_depthAt : MethodName := ⟨"RangedPool$LotBook", "depthAt", "(I)J"⟩
abbrev b_B_depthAt : ByteArray := prog_4_method_5_code
def y_T_isInRange : MethodName := ⟨"RangedPool$Lot", "isInRange", "(I)Z"⟩
abbrev b_T_isInRange : ByteArray := prog_3_method_4_code
def y_D_priceAfterPaying : MethodName := ⟨"RangedPool$Trade", "priceAfterPaying", "(JI)I"⟩
abbrev b_D_priceAfterPaying : ByteArray := prog_5_method_7_code
def y_D_amountIn : MethodName := ⟨"RangedPool$Trade", "amountIn", "(JI)J"⟩
abbrev b_D_amountIn : ByteArray := prog_5_method_9_code
def y_D_priceAfterTaking : MethodName := ⟨"RangedPool$Trade", "priceAfterTaking", "(JI)I"⟩
abbrev b_D_priceAfterTaking : ByteArray := prog_5_method_8_code
def y_D_amountOut : MethodName := ⟨"RangedPool$Trade", "amountOut", "(JI)J"⟩
abbrev b_D_amountOut : ByteArray := prog_5_method_10_code
def y_B_growPending : MethodName := ⟨"RangedPool$LotBook", "growPending", "(IJJ)V"⟩
abbrev b_B_growPending : ByteArray := prog_4_method_10_code
def y_D_moveTo : MethodName := ⟨"RangedPool$Trade", "moveTo", "(II)V"⟩
abbrev b_D_moveTo : ByteArray := prog_5_method_11_code
def y_P_greatestStepAt : MethodName := ⟨"RangedPool", "greatestStepAt", "(I)I"⟩
abbrev b_P_greatestStepAt : ByteArray := prog_1_method_37_code
def y_D_tokenIn : MethodName := ⟨"RangedPool$Trade", "tokenIn", "()I"⟩
abbrev b_D_tokenIn : ByteArray := prog_5_method_2_code
def y_B_keepPendingGrowth : MethodName := ⟨"RangedPool$LotBook", "keepPendingGrowth", "(I)V"⟩
abbrev b_B_keepPendingGrowth : ByteArray := prog_4_method_11_code
def y_P_quote : MethodName := ⟨"RangedPool", "quote", "(ZII)J"⟩
abbrev b_P_quote : ByteArray := prog_1_method_8_code
def y_P_flash : MethodName := ⟨"RangedPool", "flash", "(III)J"⟩
abbrev b_P_flash : ByteArray := prog_1_method_9_code
def y_P_canLend : MethodName := ⟨"RangedPool", "canLend", "(II)Z"⟩
abbrev b_P_canLend : ByteArray := prog_1_method_25_code
def y_P_takeFee : MethodName := ⟨"RangedPool", "takeFee", "(IJJ)V"⟩
abbrev b_P_takeFee : ByteArray := prog_1_method_29_code
def y_P_advance : MethodName := ⟨"RangedPool", "advance", "(I)Z"⟩
abbrev b_P_advance : ByteArray := prog_1_method_10_code
def y_H_tick : MethodName := ⟨"RangedPool$History", "tick", "(II)V"⟩
abbrev b_H_tick : ByteArray := prog_2_method_2_code
def y_P_observe : MethodName := ⟨"RangedPool", "observe", "(I)J"⟩
abbrev b_P_observe : ByteArray := prog_1_method_11_code
def y_H_reaches : MethodName := ⟨"RangedPool$History", "reaches", "(J)Z"⟩
abbrev b_H_reaches : ByteArray := prog_2_method_5_code
def y_H_sumAt : MethodName := ⟨"RangedPool$History", "sumAt", "(JI)J"⟩
abbrev b_H_sumAt : ByteArray := prog_2_method_6_code
def y_P_price : MethodName := ⟨"RangedPool", "price", "()I"⟩
abbrev b_P_price : ByteArray := prog_1_method_12_code
def y_P_step : MethodName := ⟨"RangedPool", "step", "()I"⟩
abbrev b_P_step : ByteArray := prog_1_method_13_code
def y_P_depth : MethodName := ⟨"RangedPool", "depth", "()I"⟩
abbrev b_P_depth : ByteArray := prog_1_method_14_code
def y_P_wallet : MethodName := ⟨"RangedPool", "wallet", "(II)J"⟩
abbrev b_P_wallet : ByteArray := prog_1_method_15_code
def y_P_reserve : MethodName := ⟨"RangedPool", "reserve", "(I)J"⟩
abbrev b_P_reserve : ByteArray := prog_1_method_16_code
def y_P_lot : MethodName := ⟨"RangedPool", "lot", "(IIII)J"⟩
abbrev b_P_lot : ByteArray := prog_1_method_17_code
def y_P_net : MethodName := ⟨"RangedPool", "net", "(I)I"⟩
abbrev b_P_net : ByteArray := prog_1_method_18_code
def y_B_netAt : MethodName := ⟨"RangedPool$LotBook", "netAt", "(I)J"⟩
abbrev b_B_netAt : ByteArray := prog_4_method_6_code
def y_L_cell : MethodName := ⟨"RangedPoolLaw", "cell", "([II)I"⟩
abbrev b_L_cell : ByteArray := method_2_code
def y_M_init : MethodName := ⟨"RangedPoolModel", "<init>", "(II)V"⟩
abbrev b_M_init : ByteArray := prog_7_method_1_code
def y_M_open : MethodName := ⟨"RangedPoolModel", "open", "(I)Z"⟩
abbrev b_M_open : ByteArray := prog_7_method_8_code
def y_M_isStep : MethodName := ⟨"RangedPoolModel", "isStep", "(I)Z"⟩
abbrev b_M_isStep : ByteArray := prog_7_method_2_code
def y_M_price : MethodName := ⟨"RangedPoolModel", "price", "(I)J"⟩
abbrev b_M_price : ByteArray := prog_7_method_3_code
def y_M_note : MethodName := ⟨"RangedPoolModel", "note", "()V"⟩
abbrev b_M_note : ByteArray := prog_7_method_7_code
def y_M_fund : MethodName := ⟨"RangedPoolModel", "fund", "(III)Z"⟩
abbrev b_M_fund : ByteArray := prog_7_method_10_code
def y_M_isOwner : MethodName := ⟨"RangedPoolModel", "isOwner", "(I)Z"⟩
abbrev b_M_isOwner : ByteArray := prog_7_method_9_code
def y_M_mint : MethodName := ⟨"RangedPoolModel", "mint", "(IIII)J"⟩
abbrev b_M_mint : ByteArray := prog_7_method_18_code
def y_M_isRange : MethodName := ⟨"RangedPoolModel", "isRange", "(II)Z"⟩
abbrev b_M_isRange : ByteArray := prog_7_method_17_code
def y_M_find : MethodName := ⟨"RangedPoolModel", "find", "(III)I"⟩
abbrev b_M_find : ByteArray := prog_7_method_11_code
def y_M_worthZero : MethodName := ⟨"RangedPoolModel", "worthZero", "(IIJZ)J"⟩
abbrev b_M_worthZero : ByteArray := prog_7_method_15_code
def y_M_zero : MethodName := ⟨"RangedPoolModel", "zero", "(JJJZ)J"⟩
abbrev b_M_zero : ByteArray := prog_7_method_5_code
def y_M_quotient : MethodName := ⟨"RangedPoolModel", "quotient", "(JJZ)J"⟩
abbrev b_M_quotient : ByteArray := prog_7_method_4_code
def y_M_worthOne : MethodName := ⟨"RangedPoolModel", "worthOne", "(IIJZ)J"⟩
abbrev b_M_worthOne : ByteArray := prog_7_method_16_code
def y_M_one : MethodName := ⟨"RangedPoolModel", "one", "(JJJZ)J"⟩
abbrev b_M_one : ByteArray := prog_7_method_6_code
def y_M_settle : MethodName := ⟨"RangedPoolModel", "settle", "(I)V"⟩
abbrev b_M_settle : ByteArray := prog_7_method_13_code
def y_M_pay : MethodName := ⟨"RangedPoolModel", "pay", "(IJJ)V"⟩
abbrev b_M_pay : ByteArray := prog_7_method_19_code
def y_M_burn : MethodName := ⟨"RangedPoolModel", "burn", "(IIII)J"⟩
abbrev b_M_burn : ByteArray := prog_7_method_20_code
def y_M_sweep : MethodName := ⟨"RangedPoolModel", "sweep", "(I)V"⟩
abbrev b_M_sweep : ByteArray := prog_7_method_14_code
def y_M_collect : MethodName := ⟨"RangedPoolModel", "collect", "(III)J"⟩
abbrev b_M_collect : ByteArray := prog_7_method_21_code
def y_M_swap : MethodName := ⟨"RangedPoolModel", "swap", "(IZII)J"⟩
abbrev b_M_swap : ByteArray := prog_7_method_29_code
def y_M_work : MethodName := ⟨"RangedPoolModel", "work", "(ZII)Z"⟩
abbrev b_M_work : ByteArray := prog_7_method_28_code
def y_M_leg : MethodName := ⟨"RangedPoolModel", "leg", "(ZJ)V"⟩
abbrev b_M_leg : ByteArray := prog_7_method_27_code
def y_M_nextStep : MethodName := ⟨"RangedPoolModel", "nextStep", "(Z)I"⟩
abbrev b_M_nextStep : ByteArray := prog_7_method_23_code
def y_M_marked : MethodName := ⟨"RangedPoolModel", "marked", "(I)Z"⟩
abbrev b_M_marked : ByteArray := prog_7_method_22_code
def y_M_depthAt : MethodName := ⟨"RangedPoolModel", "depthAt", "(I)J"⟩
abbrev b_M_depthAt : ByteArray := prog_7_method_12_code
def y_M_in : MethodName := ⟨"RangedPoolModel", "in", "(ZJJJ)J"⟩
abbrev b_M_in : ByteArray := prog_7_method_24_code
def y_M_goesOut : MethodName := ⟨"RangedPoolModel", "goesOut", "(ZJJJ)J"⟩
abbrev b_M_goesOut : ByteArray := prog_7_method_25_code
def y_M_onTheWay : MethodName := ⟨"RangedPoolModel", "onTheWay", "(ZJJJ)J"⟩
abbrev b_M_onTheWay : ByteArray := prog_7_method_26_code
def y_M_quote : MethodName := ⟨"RangedPoolModel", "quote", "(ZII)J"⟩
abbrev b_M_quote : ByteArray := prog_7_method_30_code
def y_M_flash : MethodName := ⟨"RangedPoolModel", "flash", "(III)J"⟩
abbrev b_M_flash : ByteArray := prog_7_method_31_code
def y_M_advance : MethodName := ⟨"RangedPoolModel", "advance", "(I)Z"⟩
abbrev b_M_advance : ByteArray := prog_7_method_32_code
def y_M_observe : MethodName := ⟨"RangedPoolModel", "observe", "(I)J"⟩
abbrev b_M_observe : ByteArray := prog_7_method_33_code
def y_M_price0 : MethodName := ⟨"RangedPoolModel", "price", "()I"⟩
abbrev b_M_price0 : ByteArray := prog_7_method_34_code
def y_M_step : MethodName := ⟨"RangedPoolModel", "step", "()I"⟩
abbrev b_M_step : ByteArray := prog_7_method_35_code
def y_M_depth : MethodName := ⟨"RangedPoolModel", "depth", "()I"⟩
abbrev b_M_depth : ByteArray := prog_7_method_36_code
def y_M_wallet : MethodName := ⟨"RangedPoolModel", "wallet", "(II)J"⟩
abbrev b_M_wallet : ByteArray := prog_7_method_37_code
def y_M_reserve : MethodName := ⟨"RangedPoolModel", "reserve", "(I)J"⟩
abbrev b_M_reserve : ByteArray := prog_7_method_38_code
def y_M_lot : MethodName := ⟨"RangedPoolModel", "lot", "(IIII)J"⟩
abbrev b_M_lot : ByteArray := prog_7_method_39_code
def y_M_net : MethodName := ⟨"RangedPoolModel", "net", "(I)I"⟩
abbrev b_M_net : ByteArray := prog_7_method_40_code
/-- all words that a warm machine keeps: every method's own are among them -/
def gA : List Cond := lw_tbl.filter goodWord
theorem gA_ok {w : Cond} (h : w ∈ gA) : (w.onTables && w.keeps) = true ∨ ∃ ty, w = .arrayClass ty := good_of_word (List.mem_filter.mp h).2
theorem gA_in : ∀ w ∈ gA, w ∈ lw_tbl := fun w h => (List.mem_filter.mp h).1
theorem gA_good {l : List Cond} {cy : Cond} (h : ∀ w ∈ l, w ∈ gA) (hc : cy ∈ gA) : GoodIn gA (l ++ (cy :: gA)) := fun w hw => by
  rcases List.mem_append.mp hw with h1 | h1
  · exact ⟨h w h1, gA_ok (h w h1)⟩
  · rcases List.mem_cons.mp h1 with rfl | h1
    · exact ⟨hc, gA_ok hc⟩
    · exact ⟨h1, gA_ok h1⟩
theorem gA_t {w : Cond} {i : Nat} (h : tables_1[i]? = some w) (hg : goodWord w = true) : w ∈ gA := List.mem_filter.mpr ⟨List.mem_append_right _ (List.mem_of_getElem? h), hg⟩
theorem gA_s {w : Cond} {i : Nat} (h : (k2_sels lw_privs)[i]? = some w) (hg : goodWord w = true) : w ∈ gA := List.mem_filter.mpr ⟨List.mem_append_left _ (List.mem_of_getElem? h), hg⟩
theorem kw0 : Cond.initialized "RangedPoolLaw" ∈ gA := gA_t (i := 0) (by decide +kernel) (by decide +kernel)
theorem kw1 : Cond.initialized "RangedPool" ∈ gA := gA_t (i := 1) (by decide +kernel) (by decide +kernel)
theorem kw2 : Cond.initialized "RangedPool$LotBook" ∈ gA := gA_t (i := 2) (by decide +kernel) (by decide +kernel)
theorem kw3 : Cond.initialized "RangedPool$Lot" ∈ gA := gA_t (i := 3) (by decide +kernel) (by decide +kernel)
theorem kw4 : Cond.initialized "RangedPool$History" ∈ gA := gA_t (i := 4) (by decide +kernel) (by decide +kernel)
theorem kw5 : Cond.initialized "RangedPool$Trade" ∈ gA := gA_t (i := 5) (by decide +kernel) (by decide +kernel)
theorem kw6 : Cond.initialized "RangedPoolModel" ∈ gA := gA_t (i := 6) (by decide +kernel) (by decide +kernel)
theorem kw7 : Cond.initialized "java/lang/Math" ∈ gA := gA_t (i := 7) (by decide +kernel) (by decide +kernel)
theorem kw8 : Cond.classLink "RangedPoolLaw" 7 "RangedPool" ∈ gA := gA_t (i := 8) (by decide +kernel) (by decide +kernel)
theorem kw9 : Cond.instantiable "RangedPool" 10 ∈ gA := gA_t (i := 9) (by decide +kernel) (by decide +kernel)
theorem kw10 : Cond.methodLink "RangedPoolLaw" 15 y_P_init ∈ gA := gA_t (i := 10) (by decide +kernel) (by decide +kernel)
theorem kw11 : Cond.instanceMethod y_P_init ∈ gA := gA_t (i := 11) (by decide +kernel) (by decide +kernel)
set_option maxRecDepth 20000 in
theorem kw12 : Cond.code y_P_init prog_1_method_1_code 3 none ∈ gA := gA_t (i := 12) rfl (by decide +kernel)
theorem kw13 : Cond.methodLink "RangedPool" 1 ⟨"java/lang/Object", "<init>", "()V"⟩ ∈ gA := gA_t (i := 13) (by decide +kernel) (by decide +kernel)
theorem kw14 : Cond.instanceMethod ⟨"java/lang/Object", "<init>", "()V"⟩ ∈ gA := gA_t (i := 14) (by decide +kernel) (by decide +kernel)
set_option maxRecDepth 20000 in
theorem kw15 : Cond.code ⟨"java/lang/Object", "<init>", "()V"⟩ object_method_1_code 1 none ∈ gA := gA_t (i := 15) rfl (by decide +kernel)
theorem kw16 : Cond.classLink "RangedPool" 9 "[[J" ∈ gA := gA_t (i := 16) (by decide +kernel) (by decide +kernel)
theorem kw18 : Cond.classLink "RangedPool" 18 "RangedPool$LotBook" ∈ gA := gA_t (i := 18) (by decide +kernel) (by decide +kernel)
theorem kw19 : Cond.instantiable "RangedPool$LotBook" 1 ∈ gA := gA_t (i := 19) (by decide +kernel) (by decide +kernel)
theorem kw21 : Cond.instanceMethod y_B_init ∈ gA := gA_t (i := 21) (by decide +kernel) (by decide +kernel)
set_option maxRecDepth 20000 in
theorem kw22 : Cond.code y_B_init prog_4_method_1_code 2 none ∈ gA := gA_t (i := 22) rfl (by decide +kernel)
theorem kw23 : Cond.methodLink "RangedPool$LotBook" 3 ⟨"java/lang/Object", "<init>", "()V"⟩ ∈ gA := gA_t (i := 23) (by decide +kernel) (by decide +kernel)
theorem kw24 : Cond.classLink "RangedPool$LotBook" 9 "RangedPool$Lot" ∈ gA := gA_t (i := 24) (by decide +kernel) (by decide +kernel)
theorem kw26 : Cond.instantiable "RangedPool$Lot" 7 ∈ gA := gA_t (i := 26) (by decide +kernel) (by decide +kernel)
theorem kw28 : Cond.instanceMethod y_T_init ∈ gA := gA_t (i := 28) (by decide +kernel) (by decide +kernel)
set_option maxRecDepth 20000 in
theorem kw29 : Cond.code y_T_init prog_3_method_1_code 1 none ∈ gA := gA_t (i := 29) rfl (by decide +kernel)
theorem kw30 : Cond.methodLink "RangedPool$Lot" 3 ⟨"java/lang/Object", "<init>", "()V"⟩ ∈ gA := gA_t (i := 30) (by decide +kernel) (by decide +kernel)
theorem kw31 : Cond.fieldLink "RangedPool$Lot" 22 "RangedPool$Lot" "owner" "I" ∈ gA := gA_t (i := 31) (by decide +kernel) (by decide +kernel)
theorem kw32 : Cond.fieldLink "RangedPool$Lot" 26 "RangedPool$Lot" "lo" "I" ∈ gA := gA_t (i := 32) (by decide +kernel) (by decide +kernel)
theorem kw34 : Cond.fieldLink "RangedPool$Lot" 29 "RangedPool$Lot" "hi" "I" ∈ gA := gA_t (i := 34) (by decide +kernel) (by decide +kernel)
theorem kw36 : Cond.fieldLink "RangedPool$Lot" 18 "RangedPool$Lot" "liquidity" "J" ∈ gA := gA_t (i := 36) (by decide +kernel) (by decide +kernel)
theorem kw39 : Cond.fieldLink "RangedPool$Lot" 9 "RangedPool$Lot" "owed" "[J" ∈ gA := gA_t (i := 39) (by decide +kernel) (by decide +kernel)
theorem kw41 : Cond.fieldLink "RangedPool$Lot" 15 "RangedPool$Lot" "growth" "[J" ∈ gA := gA_t (i := 41) (by decide +kernel) (by decide +kernel)
theorem kw44 : Cond.lays "RangedPool$Lot" "RangedPool$Lot" "owner" "I" ∈ gA := gA_t (i := 44) (by decide +kernel) (by decide +kernel)
theorem kw46 : Cond.lays "RangedPool$Lot" "RangedPool$Lot" "lo" "I" ∈ gA := gA_t (i := 46) (by decide +kernel) (by decide +kernel)
theorem kw48 : Cond.lays "RangedPool$Lot" "RangedPool$Lot" "hi" "I" ∈ gA := gA_t (i := 48) (by decide +kernel) (by decide +kernel)
theorem kw50 : Cond.lays "RangedPool$Lot" "RangedPool$Lot" "liquidity" "J" ∈ gA := gA_t (i := 50) (by decide +kernel) (by decide +kernel)
theorem kw52 : Cond.laysFinal "RangedPool$Lot" "RangedPool$Lot" "owed" "[J" ∈ gA := gA_t (i := 52) (by decide +kernel) (by decide +kernel)
theorem kw54 : Cond.laysFinal "RangedPool$Lot" "RangedPool$Lot" "growth" "[J" ∈ gA := gA_t (i := 54) (by decide +kernel) (by decide +kernel)
theorem kw56 : Cond.lays "RangedPool$Lot" "RangedPool$Lot" "pending" "J" ∈ gA := gA_t (i := 56) (by decide +kernel) (by decide +kernel)
theorem kw59 : Cond.arrayClass .long ∈ gA := gA_t (i := 59) (by decide +kernel) (by decide +kernel)
theorem kw60 : Cond.fieldLink "RangedPool$LotBook" 11 "RangedPool$LotBook" "lots" "[LRangedPool$Lot;" ∈ gA := gA_t (i := 60) (by decide +kernel) (by decide +kernel)
theorem kw61 : Cond.laysFinal "RangedPool$LotBook" "RangedPool$LotBook" "lots" "[LRangedPool$Lot;" ∈ gA := gA_t (i := 61) (by decide +kernel) (by decide +kernel)
theorem kw64 : Cond.classLink "RangedPool" 25 "RangedPool$History" ∈ gA := gA_t (i := 64) (by decide +kernel) (by decide +kernel)
theorem kw65 : Cond.instantiable "RangedPool$History" 6 ∈ gA := gA_t (i := 65) (by decide +kernel) (by decide +kernel)
theorem kw67 : Cond.instanceMethod y_H_init ∈ gA := gA_t (i := 67) (by decide +kernel) (by decide +kernel)
set_option maxRecDepth 20000 in
theorem kw68 : Cond.code y_H_init prog_2_method_1_code 1 none ∈ gA := gA_t (i := 68) rfl (by decide +kernel)
theorem kw69 : Cond.methodLink "RangedPool$History" 3 ⟨"java/lang/Object", "<init>", "()V"⟩ ∈ gA := gA_t (i := 69) (by decide +kernel) (by decide +kernel)
theorem kw70 : Cond.fieldLink "RangedPool$History" 22 "RangedPool$History" "clock" "J" ∈ gA := gA_t (i := 70) (by decide +kernel) (by decide +kernel)
theorem kw72 : Cond.fieldLink "RangedPool$History" 26 "RangedPool$History" "sum" "J" ∈ gA := gA_t (i := 72) (by decide +kernel) (by decide +kernel)
theorem kw73 : Cond.fieldLink "RangedPool$History" 29 "RangedPool$History" "marks" "I" ∈ gA := gA_t (i := 73) (by decide +kernel) (by decide +kernel)
theorem kw74 : Cond.fieldLink "RangedPool$History" 9 "RangedPool$History" "times" "[J" ∈ gA := gA_t (i := 74) (by decide +kernel) (by decide +kernel)
theorem kw75 : Cond.fieldLink "RangedPool$History" 15 "RangedPool$History" "sums" "[J" ∈ gA := gA_t (i := 75) (by decide +kernel) (by decide +kernel)
theorem kw76 : Cond.fieldLink "RangedPool$History" 18 "RangedPool$History" "stepsBefore" "[I" ∈ gA := gA_t (i := 76) (by decide +kernel) (by decide +kernel)
theorem kw77 : Cond.lays "RangedPool$History" "RangedPool$History" "clock" "J" ∈ gA := gA_t (i := 77) (by decide +kernel) (by decide +kernel)
theorem kw79 : Cond.lays "RangedPool$History" "RangedPool$History" "sum" "J" ∈ gA := gA_t (i := 79) (by decide +kernel) (by decide +kernel)
theorem kw81 : Cond.lays "RangedPool$History" "RangedPool$History" "marks" "I" ∈ gA := gA_t (i := 81) (by decide +kernel) (by decide +kernel)
theorem kw83 : Cond.laysFinal "RangedPool$History" "RangedPool$History" "times" "[J" ∈ gA := gA_t (i := 83) (by decide +kernel) (by decide +kernel)
theorem kw85 : Cond.laysFinal "RangedPool$History" "RangedPool$History" "sums" "[J" ∈ gA := gA_t (i := 85) (by decide +kernel) (by decide +kernel)
theorem kw87 : Cond.laysFinal "RangedPool$History" "RangedPool$History" "stepsBefore" "[I" ∈ gA := gA_t (i := 87) (by decide +kernel) (by decide +kernel)
theorem kw90 : Cond.arrayClass .int ∈ gA := gA_t (i := 90) (by decide +kernel) (by decide +kernel)
theorem kw91 : Cond.methodLink "RangedPool" 32 y_P_isSpacing ∈ gA := gA_t (i := 91) (by decide +kernel) (by decide +kernel)
theorem kw92 : Cond.static y_P_isSpacing ∈ gA := gA_t (i := 92) (by decide +kernel) (by decide +kernel)
set_option maxRecDepth 20000 in
theorem kw93 : Cond.code y_P_isSpacing prog_1_method_19_code 1 (some .boolean) ∈ gA := gA_t (i := 93) rfl (by decide +kernel)
theorem kw94 : Cond.classLink "RangedPool" 43 "RangedPool$Trade" ∈ gA := gA_t (i := 94) (by decide +kernel) (by decide +kernel)
theorem kw95 : Cond.instantiable "RangedPool$Trade" 8 ∈ gA := gA_t (i := 95) (by decide +kernel) (by decide +kernel)
theorem kw97 : Cond.instanceMethod y_D_init ∈ gA := gA_t (i := 97) (by decide +kernel) (by decide +kernel)
set_option maxRecDepth 20000 in
theorem kw98 : Cond.code y_D_init prog_5_method_1_code 2 none ∈ gA := gA_t (i := 98) rfl (by decide +kernel)
theorem kw99 : Cond.methodLink "RangedPool$Trade" 3 ⟨"java/lang/Object", "<init>", "()V"⟩ ∈ gA := gA_t (i := 99) (by decide +kernel) (by decide +kernel)
theorem kw100 : Cond.fieldLink "RangedPool$Trade" 9 "RangedPool$Trade" "fee" "I" ∈ gA := gA_t (i := 100) (by decide +kernel) (by decide +kernel)
theorem kw101 : Cond.fieldLink "RangedPool$Trade" 15 "RangedPool$Trade" "down" "Z" ∈ gA := gA_t (i := 101) (by decide +kernel) (by decide +kernel)
theorem kw102 : Cond.fieldLink "RangedPool$Trade" 35 "RangedPool$Trade" "limit" "I" ∈ gA := gA_t (i := 102) (by decide +kernel) (by decide +kernel)
theorem kw103 : Cond.fieldLink "RangedPool$Trade" 32 "RangedPool$Trade" "left" "J" ∈ gA := gA_t (i := 103) (by decide +kernel) (by decide +kernel)
theorem kw104 : Cond.fieldLink "RangedPool$Trade" 19 "RangedPool$Trade" "price" "I" ∈ gA := gA_t (i := 104) (by decide +kernel) (by decide +kernel)
theorem kw106 : Cond.fieldLink "RangedPool$Trade" 22 "RangedPool$Trade" "step" "I" ∈ gA := gA_t (i := 106) (by decide +kernel) (by decide +kernel)
theorem kw108 : Cond.fieldLink "RangedPool$Trade" 25 "RangedPool$Trade" "paid" "J" ∈ gA := gA_t (i := 108) (by decide +kernel) (by decide +kernel)
theorem kw110 : Cond.fieldLink "RangedPool$Trade" 29 "RangedPool$Trade" "given" "J" ∈ gA := gA_t (i := 110) (by decide +kernel) (by decide +kernel)
theorem kw112 : Cond.laysFinal "RangedPool$Trade" "RangedPool$Trade" "fee" "I" ∈ gA := gA_t (i := 112) (by decide +kernel) (by decide +kernel)
theorem kw114 : Cond.lays "RangedPool$Trade" "RangedPool$Trade" "down" "Z" ∈ gA := gA_t (i := 114) (by decide +kernel) (by decide +kernel)
theorem kw116 : Cond.lays "RangedPool$Trade" "RangedPool$Trade" "limit" "I" ∈ gA := gA_t (i := 116) (by decide +kernel) (by decide +kernel)
theorem kw118 : Cond.lays "RangedPool$Trade" "RangedPool$Trade" "left" "J" ∈ gA := gA_t (i := 118) (by decide +kernel) (by decide +kernel)
theorem kw120 : Cond.lays "RangedPool$Trade" "RangedPool$Trade" "price" "I" ∈ gA := gA_t (i := 120) (by decide +kernel) (by decide +kernel)
theorem kw122 : Cond.lays "RangedPool$Trade" "RangedPool$Trade" "step" "I" ∈ gA := gA_t (i := 122) (by decide +kernel) (by decide +kernel)
theorem kw124 : Cond.lays "RangedPool$Trade" "RangedPool$Trade" "paid" "J" ∈ gA := gA_t (i := 124) (by decide +kernel) (by decide +kernel)
theorem kw126 : Cond.lays "RangedPool$Trade" "RangedPool$Trade" "given" "J" ∈ gA := gA_t (i := 126) (by decide +kernel) (by decide +kernel)
theorem kw129 : Cond.fieldLink "RangedPool" 36 "RangedPool" "spacing" "I" ∈ gA := gA_t (i := 129) (by decide +kernel) (by decide +kernel)
theorem kw130 : Cond.fieldLink "RangedPool" 40 "RangedPool" "fee" "I" ∈ gA := gA_t (i := 130) (by decide +kernel) (by decide +kernel)
theorem kw131 : Cond.fieldLink "RangedPool" 11 "RangedPool" "wallets" "[[J" ∈ gA := gA_t (i := 131) (by decide +kernel) (by decide +kernel)
theorem kw132 : Cond.fieldLink "RangedPool" 14 "RangedPool" "reserves" "[J" ∈ gA := gA_t (i := 132) (by decide +kernel) (by decide +kernel)
theorem kw133 : Cond.fieldLink "RangedPool" 21 "RangedPool" "book" "LRangedPool$LotBook;" ∈ gA := gA_t (i := 133) (by decide +kernel) (by decide +kernel)
theorem kw134 : Cond.fieldLink "RangedPool" 28 "RangedPool" "history" "LRangedPool$History;" ∈ gA := gA_t (i := 134) (by decide +kernel) (by decide +kernel)
theorem kw135 : Cond.fieldLink "RangedPool" 48 "RangedPool" "trade" "LRangedPool$Trade;" ∈ gA := gA_t (i := 135) (by decide +kernel) (by decide +kernel)
theorem kw136 : Cond.fieldLink "RangedPool" 52 "RangedPool" "opened" "Z" ∈ gA := gA_t (i := 136) (by decide +kernel) (by decide +kernel)
theorem kw137 : Cond.fieldLink "RangedPool" 63 "RangedPool" "currentPrice" "I" ∈ gA := gA_t (i := 137) (by decide +kernel) (by decide +kernel)
theorem kw138 : Cond.fieldLink "RangedPool" 66 "RangedPool" "currentStep" "I" ∈ gA := gA_t (i := 138) (by decide +kernel) (by decide +kernel)
theorem kw139 : Cond.laysFinal "RangedPool" "RangedPool" "spacing" "I" ∈ gA := gA_t (i := 139) (by decide +kernel) (by decide +kernel)
theorem kw141 : Cond.laysFinal "RangedPool" "RangedPool" "fee" "I" ∈ gA := gA_t (i := 141) (by decide +kernel) (by decide +kernel)
theorem kw143 : Cond.laysFinal "RangedPool" "RangedPool" "wallets" "[[J" ∈ gA := gA_t (i := 143) (by decide +kernel) (by decide +kernel)
theorem kw145 : Cond.laysFinal "RangedPool" "RangedPool" "reserves" "[J" ∈ gA := gA_t (i := 145) (by decide +kernel) (by decide +kernel)
theorem kw147 : Cond.laysFinal "RangedPool" "RangedPool" "book" "LRangedPool$LotBook;" ∈ gA := gA_t (i := 147) (by decide +kernel) (by decide +kernel)
theorem kw149 : Cond.laysFinal "RangedPool" "RangedPool" "history" "LRangedPool$History;" ∈ gA := gA_t (i := 149) (by decide +kernel) (by decide +kernel)
theorem kw151 : Cond.laysFinal "RangedPool" "RangedPool" "trade" "LRangedPool$Trade;" ∈ gA := gA_t (i := 151) (by decide +kernel) (by decide +kernel)
theorem kw153 : Cond.lays "RangedPool" "RangedPool" "opened" "Z" ∈ gA := gA_t (i := 153) (by decide +kernel) (by decide +kernel)
theorem kw155 : Cond.lays "RangedPool" "RangedPool" "currentPrice" "I" ∈ gA := gA_t (i := 155) (by decide +kernel) (by decide +kernel)
theorem kw157 : Cond.lays "RangedPool" "RangedPool" "currentStep" "I" ∈ gA := gA_t (i := 157) (by decide +kernel) (by decide +kernel)
theorem kw160 : Cond.methodLink "RangedPoolLaw" 21 y_P_open ∈ gA := gA_t (i := 160) (by decide +kernel) (by decide +kernel)
theorem kw161 : Cond.instanceMethod y_P_open ∈ gA := gA_t (i := 161) (by decide +kernel) (by decide +kernel)
theorem kw162 : Cond.selects "RangedPool" y_P_open y_P_open ∈ gA := gA_t (i := 162) (by decide +kernel) (by decide +kernel)
set_option maxRecDepth 20000 in
theorem kw163 : Cond.code y_P_open prog_1_method_2_code 2 (some .boolean) ∈ gA := gA_t (i := 163) rfl (by decide +kernel)
theorem kw164 : Cond.methodLink "RangedPool" 56 y_P_isStep ∈ gA := gA_t (i := 164) (by decide +kernel) (by decide +kernel)
theorem kw165 : Cond.static y_P_isStep ∈ gA := gA_t (i := 165) (by decide +kernel) (by decide +kernel)
set_option maxRecDepth 20000 in
theorem kw166 : Cond.code y_P_isStep prog_1_method_20_code 1 (some .boolean) ∈ gA := gA_t (i := 166) rfl (by decide +kernel)
theorem kw167 : Cond.methodLink "RangedPool" 59 y_P_priceOf ∈ gA := gA_t (i := 167) (by decide +kernel) (by decide +kernel)
theorem kw168 : Cond.static y_P_priceOf ∈ gA := gA_t (i := 168) (by decide +kernel) (by decide +kernel)
set_option maxRecDepth 20000 in
theorem kw169 : Cond.code y_P_priceOf prog_1_method_36_code 1 (some .int) ∈ gA := gA_t (i := 169) rfl (by decide +kernel)
theorem kw170 : Cond.fieldLink "RangedPool" 235 "RangedPool" "STEP_PRICES" "[I" ∈ gA := gA_t (i := 170) (by decide +kernel) (by decide +kernel)
theorem kw174 : Cond.instanceMethod y_H_mark ∈ gA := gA_t (i := 174) (by decide +kernel) (by decide +kernel)
set_option maxRecDepth 20000 in
theorem kw175 : Cond.code y_H_mark prog_2_method_3_code 2 none ∈ gA := gA_t (i := 175) rfl (by decide +kernel)
theorem kw176 : Cond.methodLink "RangedPool$History" 33 y_H_dropOldest ∈ gA := gA_t (i := 176) (by decide +kernel) (by decide +kernel)
theorem kw178 : Cond.instanceMethod y_H_dropOldest ∈ gA := gA_t (i := 178) (by decide +kernel) (by decide +kernel)
set_option maxRecDepth 20000 in
theorem kw179 : Cond.code y_H_dropOldest prog_2_method_4_code 2 none ∈ gA := gA_t (i := 179) rfl (by decide +kernel)
theorem kw180 : Cond.methodLink "RangedPoolLaw" 26 y_P_fund ∈ gA := gA_t (i := 180) (by decide +kernel) (by decide +kernel)
theorem kw181 : Cond.instanceMethod y_P_fund ∈ gA := gA_t (i := 181) (by decide +kernel) (by decide +kernel)
theorem kw182 : Cond.selects "RangedPool" y_P_fund y_P_fund ∈ gA := gA_t (i := 182) (by decide +kernel) (by decide +kernel)
set_option maxRecDepth 20000 in
theorem kw183 : Cond.code y_P_fund prog_1_method_3_code 4 (some .boolean) ∈ gA := gA_t (i := 183) rfl (by decide +kernel)
theorem kw184 : Cond.methodLink "RangedPool" 72 y_P_isOwner ∈ gA := gA_t (i := 184) (by decide +kernel) (by decide +kernel)
theorem kw185 : Cond.static y_P_isOwner ∈ gA := gA_t (i := 185) (by decide +kernel) (by decide +kernel)
set_option maxRecDepth 20000 in
theorem kw186 : Cond.code y_P_isOwner prog_1_method_21_code 1 (some .boolean) ∈ gA := gA_t (i := 186) rfl (by decide +kernel)
theorem kw187 : Cond.methodLink "RangedPool" 75 y_P_isToken ∈ gA := gA_t (i := 187) (by decide +kernel) (by decide +kernel)
theorem kw188 : Cond.static y_P_isToken ∈ gA := gA_t (i := 188) (by decide +kernel) (by decide +kernel)
set_option maxRecDepth 20000 in
theorem kw189 : Cond.code y_P_isToken prog_1_method_22_code 1 (some .boolean) ∈ gA := gA_t (i := 189) rfl (by decide +kernel)
theorem kw190 : Cond.constant "RangedPool" 78 1000000000 ∈ gA := gA_t (i := 190) (by decide +kernel) (by decide +kernel)
theorem kw191 : Cond.methodLink "RangedPoolLaw" 31 y_P_mint ∈ gA := gA_t (i := 191) (by decide +kernel) (by decide +kernel)
theorem kw192 : Cond.instanceMethod y_P_mint ∈ gA := gA_t (i := 192) (by decide +kernel) (by decide +kernel)
theorem kw193 : Cond.selects "RangedPool" y_P_mint y_P_mint ∈ gA := gA_t (i := 193) (by decide +kernel) (by decide +kernel)
set_option maxRecDepth 20000 in
theorem kw194 : Cond.code y_P_mint prog_1_method_4_code 10 (some .long) ∈ gA := gA_t (i := 194) rfl (by decide +kernel)
theorem kw195 : Cond.constantLong "RangedPool" 79 (-1) ∈ gA := gA_t (i := 195) (by decide +kernel) (by decide +kernel)
theorem kw196 : Cond.methodLink "RangedPool" 81 y_P_isRange ∈ gA := gA_t (i := 196) (by decide +kernel) (by decide +kernel)
theorem kw198 : Cond.instanceMethod y_P_isRange ∈ gA := gA_t (i := 198) (by decide +kernel) (by decide +kernel)
set_option maxRecDepth 20000 in
theorem kw199 : Cond.code y_P_isRange prog_1_method_23_code 3 (some .boolean) ∈ gA := gA_t (i := 199) rfl (by decide +kernel)
theorem kw200 : Cond.constant "RangedPool" 85 1000000 ∈ gA := gA_t (i := 200) (by decide +kernel) (by decide +kernel)
theorem kw201 : Cond.constantLong "RangedPool" 86 (-2) ∈ gA := gA_t (i := 201) (by decide +kernel) (by decide +kernel)
theorem kw204 : Cond.instanceMethod y_B_findOrFree ∈ gA := gA_t (i := 204) (by decide +kernel) (by decide +kernel)
set_option maxRecDepth 20000 in
theorem kw205 : Cond.code y_B_findOrFree prog_4_method_3_code 6 (some (.object "RangedPool$Lot")) ∈ gA := gA_t (i := 205) rfl (by decide +kernel)
theorem kw206 : Cond.methodLink "RangedPool$LotBook" 26 y_B_find ∈ gA := gA_t (i := 206) (by decide +kernel) (by decide +kernel)
theorem kw208 : Cond.instanceMethod y_B_find ∈ gA := gA_t (i := 208) (by decide +kernel) (by decide +kernel)
set_option maxRecDepth 20000 in
theorem kw209 : Cond.code y_B_find prog_4_method_2_code 8 (some (.object "RangedPool$Lot")) ∈ gA := gA_t (i := 209) rfl (by decide +kernel)
theorem kw212 : Cond.instanceMethod y_T_isThere ∈ gA := gA_t (i := 212) (by decide +kernel) (by decide +kernel)
set_option maxRecDepth 20000 in
theorem kw213 : Cond.code y_T_isThere prog_3_method_2_code 1 (some .boolean) ∈ gA := gA_t (i := 213) rfl (by decide +kernel)
theorem kw216 : Cond.instanceMethod y_T_isFor ∈ gA := gA_t (i := 216) (by decide +kernel) (by decide +kernel)
set_option maxRecDepth 20000 in
theorem kw217 : Cond.code y_T_isFor prog_3_method_3_code 4 (some .boolean) ∈ gA := gA_t (i := 217) rfl (by decide +kernel)
theorem kw220 : Cond.instanceMethod y_B_totalLiquidity ∈ gA := gA_t (i := 220) (by decide +kernel) (by decide +kernel)
set_option maxRecDepth 20000 in
theorem kw221 : Cond.code y_B_totalLiquidity prog_4_method_4_code 7 (some .long) ∈ gA := gA_t (i := 221) rfl (by decide +kernel)
theorem kw222 : Cond.constantLong "RangedPool" 96 1000000 ∈ gA := gA_t (i := 222) (by decide +kernel) (by decide +kernel)
theorem kw223 : Cond.constantLong "RangedPool" 98 (-4) ∈ gA := gA_t (i := 223) (by decide +kernel) (by decide +kernel)
theorem kw224 : Cond.methodLink "RangedPool" 100 y_P_zeroOfRange ∈ gA := gA_t (i := 224) (by decide +kernel) (by decide +kernel)
theorem kw226 : Cond.instanceMethod y_P_zeroOfRange ∈ gA := gA_t (i := 226) (by decide +kernel) (by decide +kernel)
set_option maxRecDepth 20000 in
theorem kw227 : Cond.code y_P_zeroOfRange prog_1_method_30_code 7 (some .long) ∈ gA := gA_t (i := 227) rfl (by decide +kernel)
theorem kw228 : Cond.methodLink "RangedPool" 224 y_P_zeroBetween ∈ gA := gA_t (i := 228) (by decide +kernel) (by decide +kernel)
theorem kw229 : Cond.static y_P_zeroBetween ∈ gA := gA_t (i := 229) (by decide +kernel) (by decide +kernel)
set_option maxRecDepth 20000 in
theorem kw230 : Cond.code y_P_zeroBetween prog_1_method_32_code 7 (some .long) ∈ gA := gA_t (i := 230) rfl (by decide +kernel)
theorem kw231 : Cond.constantLong "RangedPool" 231 65536 ∈ gA := gA_t (i := 231) (by decide +kernel) (by decide +kernel)
theorem kw232 : Cond.methodLink "RangedPool" 190 y_P_quotient ∈ gA := gA_t (i := 232) (by decide +kernel) (by decide +kernel)
theorem kw233 : Cond.static y_P_quotient ∈ gA := gA_t (i := 233) (by decide +kernel) (by decide +kernel)
set_option maxRecDepth 20000 in
theorem kw234 : Cond.code y_P_quotient prog_1_method_34_code 7 (some .long) ∈ gA := gA_t (i := 234) rfl (by decide +kernel)
theorem kw235 : Cond.methodLink "RangedPool" 104 y_P_oneOfRange ∈ gA := gA_t (i := 235) (by decide +kernel) (by decide +kernel)
theorem kw237 : Cond.instanceMethod y_P_oneOfRange ∈ gA := gA_t (i := 237) (by decide +kernel) (by decide +kernel)
set_option maxRecDepth 20000 in
theorem kw238 : Cond.code y_P_oneOfRange prog_1_method_31_code 7 (some .long) ∈ gA := gA_t (i := 238) rfl (by decide +kernel)
theorem kw239 : Cond.methodLink "RangedPool" 228 y_P_oneBetween ∈ gA := gA_t (i := 239) (by decide +kernel) (by decide +kernel)
theorem kw240 : Cond.static y_P_oneBetween ∈ gA := gA_t (i := 240) (by decide +kernel) (by decide +kernel)
set_option maxRecDepth 20000 in
theorem kw241 : Cond.code y_P_oneBetween prog_1_method_33_code 7 (some .long) ∈ gA := gA_t (i := 241) rfl (by decide +kernel)
theorem kw242 : Cond.methodLink "RangedPool" 107 y_P_canPay ∈ gA := gA_t (i := 242) (by decide +kernel) (by decide +kernel)
theorem kw244 : Cond.instanceMethod y_P_canPay ∈ gA := gA_t (i := 244) (by decide +kernel) (by decide +kernel)
set_option maxRecDepth 20000 in
theorem kw245 : Cond.code y_P_canPay prog_1_method_26_code 6 (some .boolean) ∈ gA := gA_t (i := 245) rfl (by decide +kernel)
theorem kw246 : Cond.constantLong "RangedPool" 111 (-5) ∈ gA := gA_t (i := 246) (by decide +kernel) (by decide +kernel)
theorem kw247 : Cond.methodLink "RangedPool" 113 y_P_pay ∈ gA := gA_t (i := 247) (by decide +kernel) (by decide +kernel)
theorem kw249 : Cond.instanceMethod y_P_pay ∈ gA := gA_t (i := 249) (by decide +kernel) (by decide +kernel)
set_option maxRecDepth 20000 in
theorem kw250 : Cond.code y_P_pay prog_1_method_27_code 6 none ∈ gA := gA_t (i := 250) rfl (by decide +kernel)
theorem kw251 : Cond.methodLink "RangedPool" 165 y_P_transfer ∈ gA := gA_t (i := 251) (by decide +kernel) (by decide +kernel)
theorem kw253 : Cond.instanceMethod y_P_transfer ∈ gA := gA_t (i := 253) (by decide +kernel) (by decide +kernel)
set_option maxRecDepth 20000 in
theorem kw254 : Cond.code y_P_transfer prog_1_method_28_code 5 none ∈ gA := gA_t (i := 254) rfl (by decide +kernel)
theorem kw258 : Cond.instanceMethod y_T_begin ∈ gA := gA_t (i := 258) (by decide +kernel) (by decide +kernel)
set_option maxRecDepth 20000 in
theorem kw259 : Cond.code y_T_begin prog_3_method_5_code 4 none ∈ gA := gA_t (i := 259) rfl (by decide +kernel)
theorem kw262 : Cond.instanceMethod y_T_settle ∈ gA := gA_t (i := 262) (by decide +kernel) (by decide +kernel)
set_option maxRecDepth 20000 in
theorem kw263 : Cond.code y_T_settle prog_3_method_6_code 2 none ∈ gA := gA_t (i := 263) rfl (by decide +kernel)
theorem kw264 : Cond.constantLong "RangedPool$Lot" 32 4294967296 ∈ gA := gA_t (i := 264) (by decide +kernel) (by decide +kernel)
theorem kw265 : Cond.methodLink "RangedPool" 134 y_P_pair ∈ gA := gA_t (i := 265) (by decide +kernel) (by decide +kernel)
theorem kw266 : Cond.static y_P_pair ∈ gA := gA_t (i := 266) (by decide +kernel) (by decide +kernel)
set_option maxRecDepth 20000 in
theorem kw267 : Cond.code y_P_pair prog_1_method_35_code 4 (some .long) ∈ gA := gA_t (i := 267) rfl (by decide +kernel)
theorem kw268 : Cond.constantLong "RangedPool" 233 4294967296 ∈ gA := gA_t (i := 268) (by decide +kernel) (by decide +kernel)
theorem kw269 : Cond.methodLink "RangedPoolLaw" 36 y_P_burn ∈ gA := gA_t (i := 269) (by decide +kernel) (by decide +kernel)
theorem kw270 : Cond.instanceMethod y_P_burn ∈ gA := gA_t (i := 270) (by decide +kernel) (by decide +kernel)
theorem kw271 : Cond.selects "RangedPool" y_P_burn y_P_burn ∈ gA := gA_t (i := 271) (by decide +kernel) (by decide +kernel)
set_option maxRecDepth 20000 in
theorem kw272 : Cond.code y_P_burn prog_1_method_5_code 10 (some .long) ∈ gA := gA_t (i := 272) rfl (by decide +kernel)
theorem kw274 : Cond.constantLong "RangedPool" 141 (-3) ∈ gA := gA_t (i := 274) (by decide +kernel) (by decide +kernel)
theorem kw275 : Cond.methodLink "RangedPoolLaw" 40 y_P_collect ∈ gA := gA_t (i := 275) (by decide +kernel) (by decide +kernel)
theorem kw276 : Cond.instanceMethod y_P_collect ∈ gA := gA_t (i := 276) (by decide +kernel) (by decide +kernel)
theorem kw277 : Cond.selects "RangedPool" y_P_collect y_P_collect ∈ gA := gA_t (i := 277) (by decide +kernel) (by decide +kernel)
set_option maxRecDepth 20000 in
theorem kw278 : Cond.code y_P_collect prog_1_method_6_code 9 (some .long) ∈ gA := gA_t (i := 278) rfl (by decide +kernel)
theorem kw279 : Cond.methodLink "RangedPoolLaw" 45 y_P_swap ∈ gA := gA_t (i := 279) (by decide +kernel) (by decide +kernel)
theorem kw280 : Cond.instanceMethod y_P_swap ∈ gA := gA_t (i := 280) (by decide +kernel) (by decide +kernel)
theorem kw281 : Cond.selects "RangedPool" y_P_swap y_P_swap ∈ gA := gA_t (i := 281) (by decide +kernel) (by decide +kernel)
set_option maxRecDepth 20000 in
theorem kw282 : Cond.code y_P_swap prog_1_method_7_code 6 (some .long) ∈ gA := gA_t (i := 282) rfl (by decide +kernel)
theorem kw283 : Cond.methodLink "RangedPool" 146 y_P_isTrade ∈ gA := gA_t (i := 283) (by decide +kernel) (by decide +kernel)
theorem kw285 : Cond.instanceMethod y_P_isTrade ∈ gA := gA_t (i := 285) (by decide +kernel) (by decide +kernel)
set_option maxRecDepth 20000 in
theorem kw286 : Cond.code y_P_isTrade prog_1_method_24_code 4 (some .boolean) ∈ gA := gA_t (i := 286) rfl (by decide +kernel)
theorem kw287 : Cond.constant "RangedPool" 217 (-1000000) ∈ gA := gA_t (i := 287) (by decide +kernel) (by decide +kernel)
theorem kw290 : Cond.instanceMethod y_D_startAt ∈ gA := gA_t (i := 290) (by decide +kernel) (by decide +kernel)
set_option maxRecDepth 20000 in
theorem kw291 : Cond.code y_D_startAt prog_5_method_3_code 4 none ∈ gA := gA_t (i := 291) rfl (by decide +kernel)
theorem kw294 : Cond.instanceMethod y_D_workOut ∈ gA := gA_t (i := 294) (by decide +kernel) (by decide +kernel)
set_option maxRecDepth 20000 in
theorem kw295 : Cond.code y_D_workOut prog_5_method_4_code 5 none ∈ gA := gA_t (i := 295) rfl (by decide +kernel)
theorem kw298 : Cond.instanceMethod y_B_clearPendingGrowth ∈ gA := gA_t (i := 298) (by decide +kernel) (by decide +kernel)
set_option maxRecDepth 20000 in
theorem kw299 : Cond.code y_B_clearPendingGrowth prog_4_method_9_code 5 none ∈ gA := gA_t (i := 299) rfl (by decide +kernel)
theorem kw300 : Cond.methodLink "RangedPool$Trade" 43 y_D_goOneLeg ∈ gA := gA_t (i := 300) (by decide +kernel) (by decide +kernel)
theorem kw302 : Cond.instanceMethod y_D_goOneLeg ∈ gA := gA_t (i := 302) (by decide +kernel) (by decide +kernel)
set_option maxRecDepth 20000 in
theorem kw303 : Cond.code y_D_goOneLeg prog_5_method_5_code 14 none ∈ gA := gA_t (i := 303) rfl (by decide +kernel)
theorem kw306 : Cond.instanceMethod y_B_markedAtOrBelow ∈ gA := gA_t (i := 306) (by decide +kernel) (by decide +kernel)
set_option maxRecDepth 20000 in
theorem kw307 : Cond.code y_B_markedAtOrBelow prog_4_method_7_code 8 (some .int) ∈ gA := gA_t (i := 307) rfl (by decide +kernel)
theorem kw310 : Cond.instanceMethod y_B_markedAbove ∈ gA := gA_t (i := 310) (by decide +kernel) (by decide +kernel)
set_option maxRecDepth 20000 in
theorem kw311 : Cond.code y_B_markedAbove prog_4_method_8_code 8 (some .int) ∈ gA := gA_t (i := 311) rfl (by decide +kernel)
theorem kw312 : Cond.methodLink "RangedPool$Trade" 54 y_D_targetBefore ∈ gA := gA_t (i := 312) (by decide +kernel) (by decide +kernel)
theorem kw314 : Cond.instanceMethod y_D_targetBefore ∈ gA := gA_t (i := 314) (by decide +kernel) (by decide +kernel)
set_option maxRecDepth 20000 in
theorem kw315 : Cond.code y_D_targetBefore prog_5_method_6_code 2 (some .int) ∈ gA := gA_t (i := 315) rfl (by decide +kernel)
theorem kw317 : Cond.methodLink "RangedPool$Trade" 98 ⟨"java/lang/Math", "max", "(II)I"⟩ ∈ gA := gA_t (i := 317) (by decide +kernel) (by decide +kernel)
theorem kw318 : Cond.static ⟨"java/lang/Math", "max", "(II)I"⟩ ∈ gA := gA_t (i := 318) (by decide +kernel) (by decide +kernel)
set_option maxRecDepth 20000 in
theorem kw319 : Cond.code ⟨"java/lang/Math", "max", "(II)I"⟩ prog_8_method_65_code 2 (some .int) ∈ gA := gA_t (i := 319) rfl (by decide +kernel)
theorem kw320 : Cond.methodLink "RangedPool$Trade" 102 ⟨"java/lang/Math", "min", "(II)I"⟩ ∈ gA := gA_t (i := 320) (by decide +kernel) (by decide +kernel)
theorem kw321 : Cond.static ⟨"java/lang/Math", "min", "(II)I"⟩ ∈ gA := gA_t (i := 321) (by decide +kernel) (by decide +kernel)
set_option maxRecDepth 20000 in
theorem kw322 : Cond.code ⟨"java/lang/Math", "min", "(II)I"⟩ prog_8_method_69_code 2 (some .int) ∈ gA := gA_t (i := 322) rfl (by decide +kernel)
theorem kw325 : Cond.instanceMethod y_B_depthAt ∈ gA := gA_t (i := 325) (by decide +kernel) (by decide +kernel)
set_option maxRecDepth 20000 in
theorem kw326 : Cond.code y_B_depthAt prog_4_method_5_code 8 (some .long) ∈ gA := gA_t (i := 326) rfl (by decide +kernel)
theorem kw329 : Cond.instanceMethod y_T_isInRange ∈ gA := gA_t (i := 329) (by decide +kernel) (by decide +kernel)
set_option maxRecDepth 20000 in
theorem kw330 : Cond.code y_T_isInRange prog_3_method_4_code 2 (some .boolean) ∈ gA := gA_t (i := 330) rfl (by decide +kernel)
theorem kw331 : Cond.methodLink "RangedPool$Trade" 61 y_D_priceAfterPaying ∈ gA := gA_t (i := 331) (by decide +kernel) (by decide +kernel)
theorem kw333 : Cond.instanceMethod y_D_priceAfterPaying ∈ gA := gA_t (i := 333) (by decide +kernel) (by decide +kernel)
set_option maxRecDepth 20000 in
theorem kw334 : Cond.code y_D_priceAfterPaying prog_5_method_7_code 6 (some .int) ∈ gA := gA_t (i := 334) rfl (by decide +kernel)
theorem kw335 : Cond.constantLong "RangedPool$Trade" 81 1000 ∈ gA := gA_t (i := 335) (by decide +kernel) (by decide +kernel)
theorem kw336 : Cond.methodLink "RangedPool$Trade" 68 y_D_amountIn ∈ gA := gA_t (i := 336) (by decide +kernel) (by decide +kernel)
theorem kw338 : Cond.instanceMethod y_D_amountIn ∈ gA := gA_t (i := 338) (by decide +kernel) (by decide +kernel)
set_option maxRecDepth 20000 in
theorem kw339 : Cond.code y_D_amountIn prog_5_method_9_code 4 (some .long) ∈ gA := gA_t (i := 339) rfl (by decide +kernel)
theorem kw342 : Cond.constantLong "RangedPool$Trade" 104 65536 ∈ gA := gA_t (i := 342) (by decide +kernel) (by decide +kernel)
theorem kw344 : Cond.methodLink "RangedPool$Trade" 65 y_D_priceAfterTaking ∈ gA := gA_t (i := 344) (by decide +kernel) (by decide +kernel)
theorem kw346 : Cond.instanceMethod y_D_priceAfterTaking ∈ gA := gA_t (i := 346) (by decide +kernel) (by decide +kernel)
set_option maxRecDepth 20000 in
theorem kw347 : Cond.code y_D_priceAfterTaking prog_5_method_8_code 6 (some .int) ∈ gA := gA_t (i := 347) rfl (by decide +kernel)
theorem kw348 : Cond.methodLink "RangedPool$Trade" 72 y_D_amountOut ∈ gA := gA_t (i := 348) (by decide +kernel) (by decide +kernel)
theorem kw350 : Cond.instanceMethod y_D_amountOut ∈ gA := gA_t (i := 350) (by decide +kernel) (by decide +kernel)
set_option maxRecDepth 20000 in
theorem kw351 : Cond.code y_D_amountOut prog_5_method_10_code 4 (some .long) ∈ gA := gA_t (i := 351) rfl (by decide +kernel)
theorem kw352 : Cond.methodLink "RangedPool$Trade" 75 ⟨"java/lang/Math", "min", "(JJ)J"⟩ ∈ gA := gA_t (i := 352) (by decide +kernel) (by decide +kernel)
theorem kw353 : Cond.static ⟨"java/lang/Math", "min", "(JJ)J"⟩ ∈ gA := gA_t (i := 353) (by decide +kernel) (by decide +kernel)
set_option maxRecDepth 20000 in
theorem kw354 : Cond.code ⟨"java/lang/Math", "min", "(JJ)J"⟩ prog_8_method_70_code 4 (some .long) ∈ gA := gA_t (i := 354) rfl (by decide +kernel)
theorem kw357 : Cond.instanceMethod y_B_growPending ∈ gA := gA_t (i := 357) (by decide +kernel) (by decide +kernel)
set_option maxRecDepth 20000 in
theorem kw358 : Cond.code y_B_growPending prog_4_method_10_code 12 none ∈ gA := gA_t (i := 358) rfl (by decide +kernel)
theorem kw359 : Cond.constantLong "RangedPool$LotBook" 48 4294967296 ∈ gA := gA_t (i := 359) (by decide +kernel) (by decide +kernel)
theorem kw361 : Cond.methodLink "RangedPool$Trade" 91 y_D_moveTo ∈ gA := gA_t (i := 361) (by decide +kernel) (by decide +kernel)
theorem kw363 : Cond.instanceMethod y_D_moveTo ∈ gA := gA_t (i := 363) (by decide +kernel) (by decide +kernel)
set_option maxRecDepth 20000 in
theorem kw364 : Cond.code y_D_moveTo prog_5_method_11_code 4 none ∈ gA := gA_t (i := 364) rfl (by decide +kernel)
theorem kw366 : Cond.static y_P_greatestStepAt ∈ gA := gA_t (i := 366) (by decide +kernel) (by decide +kernel)
set_option maxRecDepth 20000 in
theorem kw367 : Cond.code y_P_greatestStepAt prog_1_method_37_code 2 (some .int) ∈ gA := gA_t (i := 367) rfl (by decide +kernel)
theorem kw370 : Cond.instanceMethod y_D_tokenIn ∈ gA := gA_t (i := 370) (by decide +kernel) (by decide +kernel)
set_option maxRecDepth 20000 in
theorem kw371 : Cond.code y_D_tokenIn prog_5_method_2_code 1 (some .int) ∈ gA := gA_t (i := 371) rfl (by decide +kernel)
theorem kw374 : Cond.instanceMethod y_B_keepPendingGrowth ∈ gA := gA_t (i := 374) (by decide +kernel) (by decide +kernel)
set_option maxRecDepth 20000 in
theorem kw375 : Cond.code y_B_keepPendingGrowth prog_4_method_11_code 6 none ∈ gA := gA_t (i := 375) rfl (by decide +kernel)
theorem kw376 : Cond.methodLink "RangedPoolLaw" 50 y_P_quote ∈ gA := gA_t (i := 376) (by decide +kernel) (by decide +kernel)
theorem kw377 : Cond.instanceMethod y_P_quote ∈ gA := gA_t (i := 377) (by decide +kernel) (by decide +kernel)
theorem kw378 : Cond.selects "RangedPool" y_P_quote y_P_quote ∈ gA := gA_t (i := 378) (by decide +kernel) (by decide +kernel)
set_option maxRecDepth 20000 in
theorem kw379 : Cond.code y_P_quote prog_1_method_8_code 4 (some .long) ∈ gA := gA_t (i := 379) rfl (by decide +kernel)
theorem kw380 : Cond.methodLink "RangedPoolLaw" 55 y_P_flash ∈ gA := gA_t (i := 380) (by decide +kernel) (by decide +kernel)
theorem kw381 : Cond.instanceMethod y_P_flash ∈ gA := gA_t (i := 381) (by decide +kernel) (by decide +kernel)
theorem kw382 : Cond.selects "RangedPool" y_P_flash y_P_flash ∈ gA := gA_t (i := 382) (by decide +kernel) (by decide +kernel)
set_option maxRecDepth 20000 in
theorem kw383 : Cond.code y_P_flash prog_1_method_9_code 10 (some .long) ∈ gA := gA_t (i := 383) rfl (by decide +kernel)
theorem kw385 : Cond.methodLink "RangedPool" 185 y_P_canLend ∈ gA := gA_t (i := 385) (by decide +kernel) (by decide +kernel)
theorem kw387 : Cond.instanceMethod y_P_canLend ∈ gA := gA_t (i := 387) (by decide +kernel) (by decide +kernel)
set_option maxRecDepth 20000 in
theorem kw388 : Cond.code y_P_canLend prog_1_method_25_code 3 (some .boolean) ∈ gA := gA_t (i := 388) rfl (by decide +kernel)
theorem kw389 : Cond.constantLong "RangedPool" 188 1000 ∈ gA := gA_t (i := 389) (by decide +kernel) (by decide +kernel)
theorem kw390 : Cond.methodLink "RangedPool" 194 y_P_takeFee ∈ gA := gA_t (i := 390) (by decide +kernel) (by decide +kernel)
theorem kw392 : Cond.instanceMethod y_P_takeFee ∈ gA := gA_t (i := 392) (by decide +kernel) (by decide +kernel)
set_option maxRecDepth 20000 in
theorem kw393 : Cond.code y_P_takeFee prog_1_method_29_code 6 none ∈ gA := gA_t (i := 393) rfl (by decide +kernel)
theorem kw396 : Cond.methodLink "RangedPoolLaw" 59 y_P_advance ∈ gA := gA_t (i := 396) (by decide +kernel) (by decide +kernel)
theorem kw397 : Cond.instanceMethod y_P_advance ∈ gA := gA_t (i := 397) (by decide +kernel) (by decide +kernel)
theorem kw398 : Cond.selects "RangedPool" y_P_advance y_P_advance ∈ gA := gA_t (i := 398) (by decide +kernel) (by decide +kernel)
set_option maxRecDepth 20000 in
theorem kw399 : Cond.code y_P_advance prog_1_method_10_code 2 (some .boolean) ∈ gA := gA_t (i := 399) rfl (by decide +kernel)
theorem kw402 : Cond.instanceMethod y_H_tick ∈ gA := gA_t (i := 402) (by decide +kernel) (by decide +kernel)
set_option maxRecDepth 20000 in
theorem kw403 : Cond.code y_H_tick prog_2_method_2_code 3 none ∈ gA := gA_t (i := 403) rfl (by decide +kernel)
theorem kw404 : Cond.methodLink "RangedPoolLaw" 63 y_P_observe ∈ gA := gA_t (i := 404) (by decide +kernel) (by decide +kernel)
theorem kw405 : Cond.instanceMethod y_P_observe ∈ gA := gA_t (i := 405) (by decide +kernel) (by decide +kernel)
theorem kw406 : Cond.selects "RangedPool" y_P_observe y_P_observe ∈ gA := gA_t (i := 406) (by decide +kernel) (by decide +kernel)
set_option maxRecDepth 20000 in
theorem kw407 : Cond.code y_P_observe prog_1_method_11_code 4 (some .long) ∈ gA := gA_t (i := 407) rfl (by decide +kernel)
theorem kw410 : Cond.instanceMethod y_H_reaches ∈ gA := gA_t (i := 410) (by decide +kernel) (by decide +kernel)
set_option maxRecDepth 20000 in
theorem kw411 : Cond.code y_H_reaches prog_2_method_5_code 3 (some .boolean) ∈ gA := gA_t (i := 411) rfl (by decide +kernel)
theorem kw414 : Cond.instanceMethod y_H_sumAt ∈ gA := gA_t (i := 414) (by decide +kernel) (by decide +kernel)
set_option maxRecDepth 20000 in
theorem kw415 : Cond.code y_H_sumAt prog_2_method_6_code 10 (some .long) ∈ gA := gA_t (i := 415) rfl (by decide +kernel)
theorem kw416 : Cond.constantLong "RangedPool" 212 (-1000000000) ∈ gA := gA_t (i := 416) (by decide +kernel) (by decide +kernel)
theorem kw417 : Cond.methodLink "RangedPoolLaw" 68 y_P_price ∈ gA := gA_t (i := 417) (by decide +kernel) (by decide +kernel)
theorem kw418 : Cond.instanceMethod y_P_price ∈ gA := gA_t (i := 418) (by decide +kernel) (by decide +kernel)
theorem kw419 : Cond.selects "RangedPool" y_P_price y_P_price ∈ gA := gA_t (i := 419) (by decide +kernel) (by decide +kernel)
set_option maxRecDepth 20000 in
theorem kw420 : Cond.code y_P_price prog_1_method_12_code 1 (some .int) ∈ gA := gA_t (i := 420) rfl (by decide +kernel)
theorem kw421 : Cond.methodLink "RangedPoolLaw" 73 y_P_step ∈ gA := gA_t (i := 421) (by decide +kernel) (by decide +kernel)
theorem kw422 : Cond.instanceMethod y_P_step ∈ gA := gA_t (i := 422) (by decide +kernel) (by decide +kernel)
theorem kw423 : Cond.selects "RangedPool" y_P_step y_P_step ∈ gA := gA_t (i := 423) (by decide +kernel) (by decide +kernel)
set_option maxRecDepth 20000 in
theorem kw424 : Cond.code y_P_step prog_1_method_13_code 1 (some .int) ∈ gA := gA_t (i := 424) rfl (by decide +kernel)
theorem kw425 : Cond.methodLink "RangedPoolLaw" 77 y_P_depth ∈ gA := gA_t (i := 425) (by decide +kernel) (by decide +kernel)
theorem kw426 : Cond.instanceMethod y_P_depth ∈ gA := gA_t (i := 426) (by decide +kernel) (by decide +kernel)
theorem kw427 : Cond.selects "RangedPool" y_P_depth y_P_depth ∈ gA := gA_t (i := 427) (by decide +kernel) (by decide +kernel)
set_option maxRecDepth 20000 in
theorem kw428 : Cond.code y_P_depth prog_1_method_14_code 1 (some .int) ∈ gA := gA_t (i := 428) rfl (by decide +kernel)
theorem kw429 : Cond.methodLink "RangedPoolLaw" 81 y_P_wallet ∈ gA := gA_t (i := 429) (by decide +kernel) (by decide +kernel)
theorem kw430 : Cond.instanceMethod y_P_wallet ∈ gA := gA_t (i := 430) (by decide +kernel) (by decide +kernel)
theorem kw431 : Cond.selects "RangedPool" y_P_wallet y_P_wallet ∈ gA := gA_t (i := 431) (by decide +kernel) (by decide +kernel)
set_option maxRecDepth 20000 in
theorem kw432 : Cond.code y_P_wallet prog_1_method_15_code 3 (some .long) ∈ gA := gA_t (i := 432) rfl (by decide +kernel)
theorem kw433 : Cond.methodLink "RangedPoolLaw" 86 y_P_reserve ∈ gA := gA_t (i := 433) (by decide +kernel) (by decide +kernel)
theorem kw434 : Cond.instanceMethod y_P_reserve ∈ gA := gA_t (i := 434) (by decide +kernel) (by decide +kernel)
theorem kw435 : Cond.selects "RangedPool" y_P_reserve y_P_reserve ∈ gA := gA_t (i := 435) (by decide +kernel) (by decide +kernel)
set_option maxRecDepth 20000 in
theorem kw436 : Cond.code y_P_reserve prog_1_method_16_code 2 (some .long) ∈ gA := gA_t (i := 436) rfl (by decide +kernel)
theorem kw437 : Cond.methodLink "RangedPoolLaw" 90 y_P_lot ∈ gA := gA_t (i := 437) (by decide +kernel) (by decide +kernel)
theorem kw438 : Cond.instanceMethod y_P_lot ∈ gA := gA_t (i := 438) (by decide +kernel) (by decide +kernel)
theorem kw439 : Cond.selects "RangedPool" y_P_lot y_P_lot ∈ gA := gA_t (i := 439) (by decide +kernel) (by decide +kernel)
set_option maxRecDepth 20000 in
theorem kw440 : Cond.code y_P_lot prog_1_method_17_code 6 (some .long) ∈ gA := gA_t (i := 440) rfl (by decide +kernel)
theorem kw441 : Cond.methodLink "RangedPoolLaw" 94 y_P_net ∈ gA := gA_t (i := 441) (by decide +kernel) (by decide +kernel)
theorem kw442 : Cond.instanceMethod y_P_net ∈ gA := gA_t (i := 442) (by decide +kernel) (by decide +kernel)
theorem kw443 : Cond.selects "RangedPool" y_P_net y_P_net ∈ gA := gA_t (i := 443) (by decide +kernel) (by decide +kernel)
set_option maxRecDepth 20000 in
theorem kw444 : Cond.code y_P_net prog_1_method_18_code 2 (some .int) ∈ gA := gA_t (i := 444) rfl (by decide +kernel)
theorem kw447 : Cond.instanceMethod y_B_netAt ∈ gA := gA_t (i := 447) (by decide +kernel) (by decide +kernel)
set_option maxRecDepth 20000 in
theorem kw448 : Cond.code y_B_netAt prog_4_method_6_code 8 (some .long) ∈ gA := gA_t (i := 448) rfl (by decide +kernel)
theorem kw449 : Cond.methodLink "RangedPoolLaw" 9 y_L_cell ∈ gA := gA_t (i := 449) (by decide +kernel) (by decide +kernel)
theorem kw450 : Cond.static y_L_cell ∈ gA := gA_t (i := 450) (by decide +kernel) (by decide +kernel)
set_option maxRecDepth 20000 in
theorem kw451 : Cond.code y_L_cell method_2_code 2 (some .int) ∈ gA := gA_t (i := 451) rfl (by decide +kernel)
theorem kw452 : Cond.classLink "RangedPoolLaw" 18 "RangedPoolModel" ∈ gA := gA_t (i := 452) (by decide +kernel) (by decide +kernel)
theorem kw453 : Cond.instantiable "RangedPoolModel" 26 ∈ gA := gA_t (i := 453) (by decide +kernel) (by decide +kernel)
theorem kw454 : Cond.methodLink "RangedPoolLaw" 20 y_M_init ∈ gA := gA_t (i := 454) (by decide +kernel) (by decide +kernel)
theorem kw455 : Cond.instanceMethod y_M_init ∈ gA := gA_t (i := 455) (by decide +kernel) (by decide +kernel)
set_option maxRecDepth 20000 in
theorem kw456 : Cond.code y_M_init prog_7_method_1_code 5 none ∈ gA := gA_t (i := 456) rfl (by decide +kernel)
theorem kw457 : Cond.methodLink "RangedPoolModel" 1 ⟨"java/lang/Object", "<init>", "()V"⟩ ∈ gA := gA_t (i := 457) (by decide +kernel) (by decide +kernel)
theorem kw458 : Cond.constantLong "RangedPoolModel" 58 65536 ∈ gA := gA_t (i := 458) (by decide +kernel) (by decide +kernel)
theorem kw459 : Cond.constantLong "RangedPoolModel" 60 1025 ∈ gA := gA_t (i := 459) (by decide +kernel) (by decide +kernel)
theorem kw460 : Cond.constantLong "RangedPoolModel" 62 1000 ∈ gA := gA_t (i := 460) (by decide +kernel) (by decide +kernel)
theorem kw461 : Cond.fieldLink "RangedPoolModel" 51 "RangedPoolModel" "spacing" "I" ∈ gA := gA_t (i := 461) (by decide +kernel) (by decide +kernel)
theorem kw462 : Cond.fieldLink "RangedPoolModel" 55 "RangedPoolModel" "fee" "I" ∈ gA := gA_t (i := 462) (by decide +kernel) (by decide +kernel)
theorem kw463 : Cond.fieldLink "RangedPoolModel" 7 "RangedPoolModel" "steps" "[J" ∈ gA := gA_t (i := 463) (by decide +kernel) (by decide +kernel)
theorem kw464 : Cond.fieldLink "RangedPoolModel" 78 "RangedPoolModel" "open" "Z" ∈ gA := gA_t (i := 464) (by decide +kernel) (by decide +kernel)
theorem kw465 : Cond.fieldLink "RangedPoolModel" 93 "RangedPoolModel" "p" "J" ∈ gA := gA_t (i := 465) (by decide +kernel) (by decide +kernel)
theorem kw466 : Cond.fieldLink "RangedPoolModel" 86 "RangedPoolModel" "c" "I" ∈ gA := gA_t (i := 466) (by decide +kernel) (by decide +kernel)
theorem kw467 : Cond.fieldLink "RangedPoolModel" 13 "RangedPoolModel" "wallets" "[J" ∈ gA := gA_t (i := 467) (by decide +kernel) (by decide +kernel)
theorem kw468 : Cond.fieldLink "RangedPoolModel" 16 "RangedPoolModel" "reserves" "[J" ∈ gA := gA_t (i := 468) (by decide +kernel) (by decide +kernel)
theorem kw469 : Cond.fieldLink "RangedPoolModel" 19 "RangedPoolModel" "there" "[Z" ∈ gA := gA_t (i := 469) (by decide +kernel) (by decide +kernel)
theorem kw470 : Cond.fieldLink "RangedPoolModel" 23 "RangedPoolModel" "owners" "[I" ∈ gA := gA_t (i := 470) (by decide +kernel) (by decide +kernel)
theorem kw471 : Cond.fieldLink "RangedPoolModel" 27 "RangedPoolModel" "lows" "[I" ∈ gA := gA_t (i := 471) (by decide +kernel) (by decide +kernel)
theorem kw472 : Cond.fieldLink "RangedPoolModel" 30 "RangedPoolModel" "highs" "[I" ∈ gA := gA_t (i := 472) (by decide +kernel) (by decide +kernel)
theorem kw473 : Cond.fieldLink "RangedPoolModel" 33 "RangedPoolModel" "liquidity" "[J" ∈ gA := gA_t (i := 473) (by decide +kernel) (by decide +kernel)
theorem kw474 : Cond.fieldLink "RangedPoolModel" 36 "RangedPoolModel" "owed" "[J" ∈ gA := gA_t (i := 474) (by decide +kernel) (by decide +kernel)
theorem kw475 : Cond.fieldLink "RangedPoolModel" 39 "RangedPoolModel" "growth" "[J" ∈ gA := gA_t (i := 475) (by decide +kernel) (by decide +kernel)
theorem kw476 : Cond.fieldLink "RangedPoolModel" 71 "RangedPoolModel" "clock" "J" ∈ gA := gA_t (i := 476) (by decide +kernel) (by decide +kernel)
theorem kw477 : Cond.fieldLink "RangedPoolModel" 75 "RangedPoolModel" "sum" "J" ∈ gA := gA_t (i := 477) (by decide +kernel) (by decide +kernel)
theorem kw478 : Cond.fieldLink "RangedPoolModel" 68 "RangedPoolModel" "marks" "I" ∈ gA := gA_t (i := 478) (by decide +kernel) (by decide +kernel)
theorem kw479 : Cond.fieldLink "RangedPoolModel" 42 "RangedPoolModel" "markTime" "[J" ∈ gA := gA_t (i := 479) (by decide +kernel) (by decide +kernel)
theorem kw480 : Cond.fieldLink "RangedPoolModel" 45 "RangedPoolModel" "markSum" "[J" ∈ gA := gA_t (i := 480) (by decide +kernel) (by decide +kernel)
theorem kw481 : Cond.fieldLink "RangedPoolModel" 160 "RangedPoolModel" "swapP" "J" ∈ gA := gA_t (i := 481) (by decide +kernel) (by decide +kernel)
theorem kw482 : Cond.fieldLink "RangedPoolModel" 154 "RangedPoolModel" "swapC" "I" ∈ gA := gA_t (i := 482) (by decide +kernel) (by decide +kernel)
theorem kw483 : Cond.fieldLink "RangedPoolModel" 157 "RangedPoolModel" "left" "J" ∈ gA := gA_t (i := 483) (by decide +kernel) (by decide +kernel)
theorem kw484 : Cond.fieldLink "RangedPoolModel" 180 "RangedPoolModel" "paid" "J" ∈ gA := gA_t (i := 484) (by decide +kernel) (by decide +kernel)
theorem kw485 : Cond.fieldLink "RangedPoolModel" 183 "RangedPoolModel" "out" "J" ∈ gA := gA_t (i := 485) (by decide +kernel) (by decide +kernel)
theorem kw486 : Cond.fieldLink "RangedPoolModel" 48 "RangedPoolModel" "rise" "[J" ∈ gA := gA_t (i := 486) (by decide +kernel) (by decide +kernel)
theorem kw487 : Cond.laysFinal "RangedPoolModel" "RangedPoolModel" "spacing" "I" ∈ gA := gA_t (i := 487) (by decide +kernel) (by decide +kernel)
theorem kw489 : Cond.laysFinal "RangedPoolModel" "RangedPoolModel" "fee" "I" ∈ gA := gA_t (i := 489) (by decide +kernel) (by decide +kernel)
theorem kw491 : Cond.laysFinal "RangedPoolModel" "RangedPoolModel" "steps" "[J" ∈ gA := gA_t (i := 491) (by decide +kernel) (by decide +kernel)
theorem kw493 : Cond.lays "RangedPoolModel" "RangedPoolModel" "open" "Z" ∈ gA := gA_t (i := 493) (by decide +kernel) (by decide +kernel)
theorem kw495 : Cond.lays "RangedPoolModel" "RangedPoolModel" "p" "J" ∈ gA := gA_t (i := 495) (by decide +kernel) (by decide +kernel)
theorem kw497 : Cond.lays "RangedPoolModel" "RangedPoolModel" "c" "I" ∈ gA := gA_t (i := 497) (by decide +kernel) (by decide +kernel)
theorem kw499 : Cond.laysFinal "RangedPoolModel" "RangedPoolModel" "wallets" "[J" ∈ gA := gA_t (i := 499) (by decide +kernel) (by decide +kernel)
theorem kw501 : Cond.laysFinal "RangedPoolModel" "RangedPoolModel" "reserves" "[J" ∈ gA := gA_t (i := 501) (by decide +kernel) (by decide +kernel)
theorem kw503 : Cond.laysFinal "RangedPoolModel" "RangedPoolModel" "there" "[Z" ∈ gA := gA_t (i := 503) (by decide +kernel) (by decide +kernel)
theorem kw505 : Cond.laysFinal "RangedPoolModel" "RangedPoolModel" "owners" "[I" ∈ gA := gA_t (i := 505) (by decide +kernel) (by decide +kernel)
theorem kw507 : Cond.laysFinal "RangedPoolModel" "RangedPoolModel" "lows" "[I" ∈ gA := gA_t (i := 507) (by decide +kernel) (by decide +kernel)
theorem kw509 : Cond.laysFinal "RangedPoolModel" "RangedPoolModel" "highs" "[I" ∈ gA := gA_t (i := 509) (by decide +kernel) (by decide +kernel)
theorem kw511 : Cond.laysFinal "RangedPoolModel" "RangedPoolModel" "liquidity" "[J" ∈ gA := gA_t (i := 511) (by decide +kernel) (by decide +kernel)
theorem kw513 : Cond.laysFinal "RangedPoolModel" "RangedPoolModel" "owed" "[J" ∈ gA := gA_t (i := 513) (by decide +kernel) (by decide +kernel)
theorem kw515 : Cond.laysFinal "RangedPoolModel" "RangedPoolModel" "growth" "[J" ∈ gA := gA_t (i := 515) (by decide +kernel) (by decide +kernel)
theorem kw517 : Cond.lays "RangedPoolModel" "RangedPoolModel" "clock" "J" ∈ gA := gA_t (i := 517) (by decide +kernel) (by decide +kernel)
theorem kw519 : Cond.lays "RangedPoolModel" "RangedPoolModel" "sum" "J" ∈ gA := gA_t (i := 519) (by decide +kernel) (by decide +kernel)
theorem kw521 : Cond.lays "RangedPoolModel" "RangedPoolModel" "marks" "I" ∈ gA := gA_t (i := 521) (by decide +kernel) (by decide +kernel)
theorem kw523 : Cond.laysFinal "RangedPoolModel" "RangedPoolModel" "markTime" "[J" ∈ gA := gA_t (i := 523) (by decide +kernel) (by decide +kernel)
theorem kw525 : Cond.laysFinal "RangedPoolModel" "RangedPoolModel" "markSum" "[J" ∈ gA := gA_t (i := 525) (by decide +kernel) (by decide +kernel)
theorem kw527 : Cond.lays "RangedPoolModel" "RangedPoolModel" "swapP" "J" ∈ gA := gA_t (i := 527) (by decide +kernel) (by decide +kernel)
theorem kw529 : Cond.lays "RangedPoolModel" "RangedPoolModel" "swapC" "I" ∈ gA := gA_t (i := 529) (by decide +kernel) (by decide +kernel)
theorem kw531 : Cond.lays "RangedPoolModel" "RangedPoolModel" "left" "J" ∈ gA := gA_t (i := 531) (by decide +kernel) (by decide +kernel)
theorem kw533 : Cond.lays "RangedPoolModel" "RangedPoolModel" "paid" "J" ∈ gA := gA_t (i := 533) (by decide +kernel) (by decide +kernel)
theorem kw535 : Cond.lays "RangedPoolModel" "RangedPoolModel" "out" "J" ∈ gA := gA_t (i := 535) (by decide +kernel) (by decide +kernel)
theorem kw537 : Cond.laysFinal "RangedPoolModel" "RangedPoolModel" "rise" "[J" ∈ gA := gA_t (i := 537) (by decide +kernel) (by decide +kernel)
theorem kw540 : Cond.arrayClass .boolean ∈ gA := gA_t (i := 540) (by decide +kernel) (by decide +kernel)
theorem kw541 : Cond.methodLink "RangedPoolLaw" 25 y_M_open ∈ gA := gA_t (i := 541) (by decide +kernel) (by decide +kernel)
theorem kw542 : Cond.instanceMethod y_M_open ∈ gA := gA_t (i := 542) (by decide +kernel) (by decide +kernel)
theorem kw543 : Cond.selects "RangedPoolModel" y_M_open y_M_open ∈ gA := gA_t (i := 543) (by decide +kernel) (by decide +kernel)
set_option maxRecDepth 20000 in
theorem kw544 : Cond.code y_M_open prog_7_method_8_code 2 (some .boolean) ∈ gA := gA_t (i := 544) rfl (by decide +kernel)
theorem kw545 : Cond.methodLink "RangedPoolModel" 82 y_M_isStep ∈ gA := gA_t (i := 545) (by decide +kernel) (by decide +kernel)
theorem kw546 : Cond.static y_M_isStep ∈ gA := gA_t (i := 546) (by decide +kernel) (by decide +kernel)
set_option maxRecDepth 20000 in
theorem kw547 : Cond.code y_M_isStep prog_7_method_2_code 1 (some .boolean) ∈ gA := gA_t (i := 547) rfl (by decide +kernel)
theorem kw548 : Cond.methodLink "RangedPoolModel" 89 y_M_price ∈ gA := gA_t (i := 548) (by decide +kernel) (by decide +kernel)
theorem kw550 : Cond.instanceMethod y_M_price ∈ gA := gA_t (i := 550) (by decide +kernel) (by decide +kernel)
set_option maxRecDepth 20000 in
theorem kw551 : Cond.code y_M_price prog_7_method_3_code 2 (some .long) ∈ gA := gA_t (i := 551) rfl (by decide +kernel)
theorem kw552 : Cond.methodLink "RangedPoolModel" 96 y_M_note ∈ gA := gA_t (i := 552) (by decide +kernel) (by decide +kernel)
theorem kw554 : Cond.instanceMethod y_M_note ∈ gA := gA_t (i := 554) (by decide +kernel) (by decide +kernel)
set_option maxRecDepth 20000 in
theorem kw555 : Cond.code y_M_note prog_7_method_7_code 2 none ∈ gA := gA_t (i := 555) rfl (by decide +kernel)
theorem kw556 : Cond.methodLink "RangedPoolLaw" 30 y_M_fund ∈ gA := gA_t (i := 556) (by decide +kernel) (by decide +kernel)
theorem kw557 : Cond.instanceMethod y_M_fund ∈ gA := gA_t (i := 557) (by decide +kernel) (by decide +kernel)
theorem kw558 : Cond.selects "RangedPoolModel" y_M_fund y_M_fund ∈ gA := gA_t (i := 558) (by decide +kernel) (by decide +kernel)
set_option maxRecDepth 20000 in
theorem kw559 : Cond.code y_M_fund prog_7_method_10_code 4 (some .boolean) ∈ gA := gA_t (i := 559) rfl (by decide +kernel)
theorem kw560 : Cond.methodLink "RangedPoolModel" 99 y_M_isOwner ∈ gA := gA_t (i := 560) (by decide +kernel) (by decide +kernel)
theorem kw561 : Cond.static y_M_isOwner ∈ gA := gA_t (i := 561) (by decide +kernel) (by decide +kernel)
set_option maxRecDepth 20000 in
theorem kw562 : Cond.code y_M_isOwner prog_7_method_9_code 1 (some .boolean) ∈ gA := gA_t (i := 562) rfl (by decide +kernel)
theorem kw563 : Cond.constant "RangedPoolModel" 102 1000000000 ∈ gA := gA_t (i := 563) (by decide +kernel) (by decide +kernel)
theorem kw564 : Cond.methodLink "RangedPoolLaw" 35 y_M_mint ∈ gA := gA_t (i := 564) (by decide +kernel) (by decide +kernel)
theorem kw565 : Cond.instanceMethod y_M_mint ∈ gA := gA_t (i := 565) (by decide +kernel) (by decide +kernel)
theorem kw566 : Cond.selects "RangedPoolModel" y_M_mint y_M_mint ∈ gA := gA_t (i := 566) (by decide +kernel) (by decide +kernel)
set_option maxRecDepth 20000 in
theorem kw567 : Cond.code y_M_mint prog_7_method_18_code 13 (some .long) ∈ gA := gA_t (i := 567) rfl (by decide +kernel)
theorem kw568 : Cond.constantLong "RangedPoolModel" 112 (-1) ∈ gA := gA_t (i := 568) (by decide +kernel) (by decide +kernel)
theorem kw569 : Cond.methodLink "RangedPoolModel" 114 y_M_isRange ∈ gA := gA_t (i := 569) (by decide +kernel) (by decide +kernel)
theorem kw571 : Cond.instanceMethod y_M_isRange ∈ gA := gA_t (i := 571) (by decide +kernel) (by decide +kernel)
set_option maxRecDepth 20000 in
theorem kw572 : Cond.code y_M_isRange prog_7_method_17_code 3 (some .boolean) ∈ gA := gA_t (i := 572) rfl (by decide +kernel)
theorem kw573 : Cond.constant "RangedPoolModel" 118 1000000 ∈ gA := gA_t (i := 573) (by decide +kernel) (by decide +kernel)
theorem kw574 : Cond.constantLong "RangedPoolModel" 119 (-2) ∈ gA := gA_t (i := 574) (by decide +kernel) (by decide +kernel)
theorem kw575 : Cond.methodLink "RangedPoolModel" 121 y_M_find ∈ gA := gA_t (i := 575) (by decide +kernel) (by decide +kernel)
theorem kw577 : Cond.instanceMethod y_M_find ∈ gA := gA_t (i := 577) (by decide +kernel) (by decide +kernel)
set_option maxRecDepth 20000 in
theorem kw578 : Cond.code y_M_find prog_7_method_11_code 5 (some .int) ∈ gA := gA_t (i := 578) rfl (by decide +kernel)
theorem kw579 : Cond.constantLong "RangedPoolModel" 125 1000000 ∈ gA := gA_t (i := 579) (by decide +kernel) (by decide +kernel)
theorem kw580 : Cond.constantLong "RangedPoolModel" 127 (-4) ∈ gA := gA_t (i := 580) (by decide +kernel) (by decide +kernel)
theorem kw581 : Cond.methodLink "RangedPoolModel" 129 y_M_worthZero ∈ gA := gA_t (i := 581) (by decide +kernel) (by decide +kernel)
theorem kw583 : Cond.instanceMethod y_M_worthZero ∈ gA := gA_t (i := 583) (by decide +kernel) (by decide +kernel)
set_option maxRecDepth 20000 in
theorem kw584 : Cond.code y_M_worthZero prog_7_method_15_code 6 (some .long) ∈ gA := gA_t (i := 584) rfl (by decide +kernel)
theorem kw585 : Cond.methodLink "RangedPoolModel" 105 y_M_zero ∈ gA := gA_t (i := 585) (by decide +kernel) (by decide +kernel)
theorem kw586 : Cond.static y_M_zero ∈ gA := gA_t (i := 586) (by decide +kernel) (by decide +kernel)
set_option maxRecDepth 20000 in
theorem kw587 : Cond.code y_M_zero prog_7_method_5_code 7 (some .long) ∈ gA := gA_t (i := 587) rfl (by decide +kernel)
theorem kw588 : Cond.methodLink "RangedPoolModel" 64 y_M_quotient ∈ gA := gA_t (i := 588) (by decide +kernel) (by decide +kernel)
theorem kw589 : Cond.static y_M_quotient ∈ gA := gA_t (i := 589) (by decide +kernel) (by decide +kernel)
set_option maxRecDepth 20000 in
theorem kw590 : Cond.code y_M_quotient prog_7_method_4_code 5 (some .long) ∈ gA := gA_t (i := 590) rfl (by decide +kernel)
theorem kw591 : Cond.methodLink "RangedPoolModel" 133 y_M_worthOne ∈ gA := gA_t (i := 591) (by decide +kernel) (by decide +kernel)
theorem kw593 : Cond.instanceMethod y_M_worthOne ∈ gA := gA_t (i := 593) (by decide +kernel) (by decide +kernel)
set_option maxRecDepth 20000 in
theorem kw594 : Cond.code y_M_worthOne prog_7_method_16_code 6 (some .long) ∈ gA := gA_t (i := 594) rfl (by decide +kernel)
theorem kw595 : Cond.methodLink "RangedPoolModel" 109 y_M_one ∈ gA := gA_t (i := 595) (by decide +kernel) (by decide +kernel)
theorem kw596 : Cond.static y_M_one ∈ gA := gA_t (i := 596) (by decide +kernel) (by decide +kernel)
set_option maxRecDepth 20000 in
theorem kw597 : Cond.code y_M_one prog_7_method_6_code 7 (some .long) ∈ gA := gA_t (i := 597) rfl (by decide +kernel)
theorem kw598 : Cond.constantLong "RangedPoolModel" 136 (-5) ∈ gA := gA_t (i := 598) (by decide +kernel) (by decide +kernel)
theorem kw599 : Cond.methodLink "RangedPoolModel" 138 y_M_settle ∈ gA := gA_t (i := 599) (by decide +kernel) (by decide +kernel)
theorem kw601 : Cond.instanceMethod y_M_settle ∈ gA := gA_t (i := 601) (by decide +kernel) (by decide +kernel)
set_option maxRecDepth 20000 in
theorem kw602 : Cond.code y_M_settle prog_7_method_13_code 3 none ∈ gA := gA_t (i := 602) rfl (by decide +kernel)
theorem kw603 : Cond.constantLong "RangedPoolModel" 103 4294967296 ∈ gA := gA_t (i := 603) (by decide +kernel) (by decide +kernel)
theorem kw604 : Cond.methodLink "RangedPoolModel" 142 y_M_pay ∈ gA := gA_t (i := 604) (by decide +kernel) (by decide +kernel)
theorem kw606 : Cond.instanceMethod y_M_pay ∈ gA := gA_t (i := 606) (by decide +kernel) (by decide +kernel)
set_option maxRecDepth 20000 in
theorem kw607 : Cond.code y_M_pay prog_7_method_19_code 6 none ∈ gA := gA_t (i := 607) rfl (by decide +kernel)
theorem kw608 : Cond.methodLink "RangedPoolLaw" 39 y_M_burn ∈ gA := gA_t (i := 608) (by decide +kernel) (by decide +kernel)
theorem kw609 : Cond.instanceMethod y_M_burn ∈ gA := gA_t (i := 609) (by decide +kernel) (by decide +kernel)
theorem kw610 : Cond.selects "RangedPoolModel" y_M_burn y_M_burn ∈ gA := gA_t (i := 610) (by decide +kernel) (by decide +kernel)
set_option maxRecDepth 20000 in
theorem kw611 : Cond.code y_M_burn prog_7_method_20_code 10 (some .long) ∈ gA := gA_t (i := 611) rfl (by decide +kernel)
theorem kw612 : Cond.constantLong "RangedPoolModel" 146 (-3) ∈ gA := gA_t (i := 612) (by decide +kernel) (by decide +kernel)
theorem kw613 : Cond.methodLink "RangedPoolModel" 148 y_M_sweep ∈ gA := gA_t (i := 613) (by decide +kernel) (by decide +kernel)
theorem kw615 : Cond.instanceMethod y_M_sweep ∈ gA := gA_t (i := 615) (by decide +kernel) (by decide +kernel)
set_option maxRecDepth 20000 in
theorem kw616 : Cond.code y_M_sweep prog_7_method_14_code 2 none ∈ gA := gA_t (i := 616) rfl (by decide +kernel)
theorem kw617 : Cond.methodLink "RangedPoolLaw" 44 y_M_collect ∈ gA := gA_t (i := 617) (by decide +kernel) (by decide +kernel)
theorem kw618 : Cond.instanceMethod y_M_collect ∈ gA := gA_t (i := 618) (by decide +kernel) (by decide +kernel)
theorem kw619 : Cond.selects "RangedPoolModel" y_M_collect y_M_collect ∈ gA := gA_t (i := 619) (by decide +kernel) (by decide +kernel)
set_option maxRecDepth 20000 in
theorem kw620 : Cond.code y_M_collect prog_7_method_21_code 9 (some .long) ∈ gA := gA_t (i := 620) rfl (by decide +kernel)
theorem kw621 : Cond.methodLink "RangedPoolLaw" 49 y_M_swap ∈ gA := gA_t (i := 621) (by decide +kernel) (by decide +kernel)
theorem kw622 : Cond.instanceMethod y_M_swap ∈ gA := gA_t (i := 622) (by decide +kernel) (by decide +kernel)
theorem kw623 : Cond.selects "RangedPoolModel" y_M_swap y_M_swap ∈ gA := gA_t (i := 623) (by decide +kernel) (by decide +kernel)
set_option maxRecDepth 20000 in
theorem kw624 : Cond.code y_M_swap prog_7_method_29_code 7 (some .long) ∈ gA := gA_t (i := 624) rfl (by decide +kernel)
theorem kw625 : Cond.methodLink "RangedPoolModel" 191 y_M_work ∈ gA := gA_t (i := 625) (by decide +kernel) (by decide +kernel)
theorem kw627 : Cond.instanceMethod y_M_work ∈ gA := gA_t (i := 627) (by decide +kernel) (by decide +kernel)
set_option maxRecDepth 20000 in
theorem kw628 : Cond.code y_M_work prog_7_method_28_code 5 (some .boolean) ∈ gA := gA_t (i := 628) rfl (by decide +kernel)
theorem kw629 : Cond.constant "RangedPoolModel" 186 (-1000000) ∈ gA := gA_t (i := 629) (by decide +kernel) (by decide +kernel)
theorem kw630 : Cond.methodLink "RangedPoolModel" 187 y_M_leg ∈ gA := gA_t (i := 630) (by decide +kernel) (by decide +kernel)
theorem kw632 : Cond.instanceMethod y_M_leg ∈ gA := gA_t (i := 632) (by decide +kernel) (by decide +kernel)
set_option maxRecDepth 20000 in
theorem kw633 : Cond.code y_M_leg prog_7_method_27_code 24 none ∈ gA := gA_t (i := 633) rfl (by decide +kernel)
theorem kw634 : Cond.methodLink "RangedPoolModel" 163 y_M_nextStep ∈ gA := gA_t (i := 634) (by decide +kernel) (by decide +kernel)
theorem kw636 : Cond.instanceMethod y_M_nextStep ∈ gA := gA_t (i := 636) (by decide +kernel) (by decide +kernel)
set_option maxRecDepth 20000 in
theorem kw637 : Cond.code y_M_nextStep prog_7_method_23_code 5 (some .int) ∈ gA := gA_t (i := 637) rfl (by decide +kernel)
theorem kw638 : Cond.methodLink "RangedPoolModel" 151 y_M_marked ∈ gA := gA_t (i := 638) (by decide +kernel) (by decide +kernel)
theorem kw640 : Cond.instanceMethod y_M_marked ∈ gA := gA_t (i := 640) (by decide +kernel) (by decide +kernel)
set_option maxRecDepth 20000 in
theorem kw641 : Cond.code y_M_marked prog_7_method_22_code 4 (some .boolean) ∈ gA := gA_t (i := 641) rfl (by decide +kernel)
theorem kw642 : Cond.methodLink "RangedPoolModel" 167 y_M_depthAt ∈ gA := gA_t (i := 642) (by decide +kernel) (by decide +kernel)
theorem kw644 : Cond.instanceMethod y_M_depthAt ∈ gA := gA_t (i := 644) (by decide +kernel) (by decide +kernel)
set_option maxRecDepth 20000 in
theorem kw645 : Cond.code y_M_depthAt prog_7_method_12_code 5 (some .long) ∈ gA := gA_t (i := 645) rfl (by decide +kernel)
theorem kw646 : Cond.methodLink "RangedPoolModel" 170 y_M_in ∈ gA := gA_t (i := 646) (by decide +kernel) (by decide +kernel)
theorem kw647 : Cond.static y_M_in ∈ gA := gA_t (i := 647) (by decide +kernel) (by decide +kernel)
set_option maxRecDepth 20000 in
theorem kw648 : Cond.code y_M_in prog_7_method_24_code 7 (some .long) ∈ gA := gA_t (i := 648) rfl (by decide +kernel)
theorem kw649 : Cond.methodLink "RangedPoolModel" 174 y_M_goesOut ∈ gA := gA_t (i := 649) (by decide +kernel) (by decide +kernel)
theorem kw650 : Cond.static y_M_goesOut ∈ gA := gA_t (i := 650) (by decide +kernel) (by decide +kernel)
set_option maxRecDepth 20000 in
theorem kw651 : Cond.code y_M_goesOut prog_7_method_25_code 7 (some .long) ∈ gA := gA_t (i := 651) rfl (by decide +kernel)
theorem kw652 : Cond.methodLink "RangedPoolModel" 177 y_M_onTheWay ∈ gA := gA_t (i := 652) (by decide +kernel) (by decide +kernel)
theorem kw654 : Cond.instanceMethod y_M_onTheWay ∈ gA := gA_t (i := 654) (by decide +kernel) (by decide +kernel)
set_option maxRecDepth 20000 in
theorem kw655 : Cond.code y_M_onTheWay prog_7_method_26_code 10 (some .long) ∈ gA := gA_t (i := 655) rfl (by decide +kernel)
theorem kw656 : Cond.methodLink "RangedPoolLaw" 54 y_M_quote ∈ gA := gA_t (i := 656) (by decide +kernel) (by decide +kernel)
theorem kw657 : Cond.instanceMethod y_M_quote ∈ gA := gA_t (i := 657) (by decide +kernel) (by decide +kernel)
theorem kw658 : Cond.selects "RangedPoolModel" y_M_quote y_M_quote ∈ gA := gA_t (i := 658) (by decide +kernel) (by decide +kernel)
set_option maxRecDepth 20000 in
theorem kw659 : Cond.code y_M_quote prog_7_method_30_code 4 (some .long) ∈ gA := gA_t (i := 659) rfl (by decide +kernel)
theorem kw660 : Cond.methodLink "RangedPoolLaw" 58 y_M_flash ∈ gA := gA_t (i := 660) (by decide +kernel) (by decide +kernel)
theorem kw661 : Cond.instanceMethod y_M_flash ∈ gA := gA_t (i := 661) (by decide +kernel) (by decide +kernel)
theorem kw662 : Cond.selects "RangedPoolModel" y_M_flash y_M_flash ∈ gA := gA_t (i := 662) (by decide +kernel) (by decide +kernel)
set_option maxRecDepth 20000 in
theorem kw663 : Cond.code y_M_flash prog_7_method_31_code 13 (some .long) ∈ gA := gA_t (i := 663) rfl (by decide +kernel)
theorem kw664 : Cond.methodLink "RangedPoolLaw" 62 y_M_advance ∈ gA := gA_t (i := 664) (by decide +kernel) (by decide +kernel)
theorem kw665 : Cond.instanceMethod y_M_advance ∈ gA := gA_t (i := 665) (by decide +kernel) (by decide +kernel)
theorem kw666 : Cond.selects "RangedPoolModel" y_M_advance y_M_advance ∈ gA := gA_t (i := 666) (by decide +kernel) (by decide +kernel)
set_option maxRecDepth 20000 in
theorem kw667 : Cond.code y_M_advance prog_7_method_32_code 2 (some .boolean) ∈ gA := gA_t (i := 667) rfl (by decide +kernel)
theorem kw668 : Cond.methodLink "RangedPoolLaw" 67 y_M_observe ∈ gA := gA_t (i := 668) (by decide +kernel) (by decide +kernel)
theorem kw669 : Cond.instanceMethod y_M_observe ∈ gA := gA_t (i := 669) (by decide +kernel) (by decide +kernel)
theorem kw670 : Cond.selects "RangedPoolModel" y_M_observe y_M_observe ∈ gA := gA_t (i := 670) (by decide +kernel) (by decide +kernel)
set_option maxRecDepth 20000 in
theorem kw671 : Cond.code y_M_observe prog_7_method_33_code 7 (some .long) ∈ gA := gA_t (i := 671) rfl (by decide +kernel)
theorem kw672 : Cond.constantLong "RangedPoolModel" 195 (-1000000000) ∈ gA := gA_t (i := 672) (by decide +kernel) (by decide +kernel)
theorem kw673 : Cond.methodLink "RangedPoolLaw" 72 y_M_price0 ∈ gA := gA_t (i := 673) (by decide +kernel) (by decide +kernel)
theorem kw674 : Cond.instanceMethod y_M_price0 ∈ gA := gA_t (i := 674) (by decide +kernel) (by decide +kernel)
theorem kw675 : Cond.selects "RangedPoolModel" y_M_price0 y_M_price0 ∈ gA := gA_t (i := 675) (by decide +kernel) (by decide +kernel)
set_option maxRecDepth 20000 in
theorem kw676 : Cond.code y_M_price0 prog_7_method_34_code 1 (some .int) ∈ gA := gA_t (i := 676) rfl (by decide +kernel)
theorem kw677 : Cond.methodLink "RangedPoolLaw" 76 y_M_step ∈ gA := gA_t (i := 677) (by decide +kernel) (by decide +kernel)
theorem kw678 : Cond.instanceMethod y_M_step ∈ gA := gA_t (i := 678) (by decide +kernel) (by decide +kernel)
theorem kw679 : Cond.selects "RangedPoolModel" y_M_step y_M_step ∈ gA := gA_t (i := 679) (by decide +kernel) (by decide +kernel)
set_option maxRecDepth 20000 in
theorem kw680 : Cond.code y_M_step prog_7_method_35_code 1 (some .int) ∈ gA := gA_t (i := 680) rfl (by decide +kernel)
theorem kw681 : Cond.methodLink "RangedPoolLaw" 80 y_M_depth ∈ gA := gA_t (i := 681) (by decide +kernel) (by decide +kernel)
theorem kw682 : Cond.instanceMethod y_M_depth ∈ gA := gA_t (i := 682) (by decide +kernel) (by decide +kernel)
theorem kw683 : Cond.selects "RangedPoolModel" y_M_depth y_M_depth ∈ gA := gA_t (i := 683) (by decide +kernel) (by decide +kernel)
set_option maxRecDepth 20000 in
theorem kw684 : Cond.code y_M_depth prog_7_method_36_code 1 (some .int) ∈ gA := gA_t (i := 684) rfl (by decide +kernel)
theorem kw685 : Cond.methodLink "RangedPoolLaw" 85 y_M_wallet ∈ gA := gA_t (i := 685) (by decide +kernel) (by decide +kernel)
theorem kw686 : Cond.instanceMethod y_M_wallet ∈ gA := gA_t (i := 686) (by decide +kernel) (by decide +kernel)
theorem kw687 : Cond.selects "RangedPoolModel" y_M_wallet y_M_wallet ∈ gA := gA_t (i := 687) (by decide +kernel) (by decide +kernel)
set_option maxRecDepth 20000 in
theorem kw688 : Cond.code y_M_wallet prog_7_method_37_code 3 (some .long) ∈ gA := gA_t (i := 688) rfl (by decide +kernel)
theorem kw689 : Cond.methodLink "RangedPoolLaw" 89 y_M_reserve ∈ gA := gA_t (i := 689) (by decide +kernel) (by decide +kernel)
theorem kw690 : Cond.instanceMethod y_M_reserve ∈ gA := gA_t (i := 690) (by decide +kernel) (by decide +kernel)
theorem kw691 : Cond.selects "RangedPoolModel" y_M_reserve y_M_reserve ∈ gA := gA_t (i := 691) (by decide +kernel) (by decide +kernel)
set_option maxRecDepth 20000 in
theorem kw692 : Cond.code y_M_reserve prog_7_method_38_code 2 (some .long) ∈ gA := gA_t (i := 692) rfl (by decide +kernel)
theorem kw693 : Cond.methodLink "RangedPoolLaw" 93 y_M_lot ∈ gA := gA_t (i := 693) (by decide +kernel) (by decide +kernel)
theorem kw694 : Cond.instanceMethod y_M_lot ∈ gA := gA_t (i := 694) (by decide +kernel) (by decide +kernel)
theorem kw695 : Cond.selects "RangedPoolModel" y_M_lot y_M_lot ∈ gA := gA_t (i := 695) (by decide +kernel) (by decide +kernel)
set_option maxRecDepth 20000 in
theorem kw696 : Cond.code y_M_lot prog_7_method_39_code 6 (some .long) ∈ gA := gA_t (i := 696) rfl (by decide +kernel)
theorem kw697 : Cond.methodLink "RangedPoolLaw" 98 y_M_net ∈ gA := gA_t (i := 697) (by decide +kernel) (by decide +kernel)
theorem kw698 : Cond.instanceMethod y_M_net ∈ gA := gA_t (i := 698) (by decide +kernel) (by decide +kernel)
theorem kw699 : Cond.selects "RangedPoolModel" y_M_net y_M_net ∈ gA := gA_t (i := 699) (by decide +kernel) (by decide +kernel)
set_option maxRecDepth 20000 in
theorem kw700 : Cond.code y_M_net prog_7_method_40_code 5 (some .int) ∈ gA := gA_t (i := 700) rfl (by decide +kernel)
theorem ks0 : Cond.selects "RangedPool$History" y_H_mark y_H_mark ∈ gA := gA_s (i := 0) (by decide +kernel) (by decide +kernel)
theorem ks1 : Cond.selects "RangedPool$History" y_H_dropOldest y_H_dropOldest ∈ gA := gA_s (i := 1) (by decide +kernel) (by decide +kernel)
theorem ks2 : Cond.selects "RangedPool" y_P_isRange y_P_isRange ∈ gA := gA_s (i := 2) (by decide +kernel) (by decide +kernel)
theorem ks3 : Cond.selects "RangedPool$LotBook" y_B_findOrFree y_B_findOrFree ∈ gA := gA_s (i := 3) (by decide +kernel) (by decide +kernel)
theorem ks4 : Cond.selects "RangedPool$LotBook" y_B_find y_B_find ∈ gA := gA_s (i := 4) (by decide +kernel) (by decide +kernel)
theorem ks5 : Cond.selects "RangedPool$Lot" y_T_isThere y_T_isThere ∈ gA := gA_s (i := 5) (by decide +kernel) (by decide +kernel)
theorem ks6 : Cond.selects "RangedPool$Lot" y_T_isFor y_T_isFor ∈ gA := gA_s (i := 6) (by decide +kernel) (by decide +kernel)
theorem ks7 : Cond.selects "RangedPool$LotBook" y_B_totalLiquidity y_B_totalLiquidity ∈ gA := gA_s (i := 7) (by decide +kernel) (by decide +kernel)
theorem ks8 : Cond.selects "RangedPool" y_P_zeroOfRange y_P_zeroOfRange ∈ gA := gA_s (i := 8) (by decide +kernel) (by decide +kernel)
theorem ks9 : Cond.selects "RangedPool" y_P_oneOfRange y_P_oneOfRange ∈ gA := gA_s (i := 9) (by decide +kernel) (by decide +kernel)
theorem ks10 : Cond.selects "RangedPool" y_P_canPay y_P_canPay ∈ gA := gA_s (i := 10) (by decide +kernel) (by decide +kernel)
theorem ks11 : Cond.selects "RangedPool" y_P_pay y_P_pay ∈ gA := gA_s (i := 11) (by decide +kernel) (by decide +kernel)
theorem ks12 : Cond.selects "RangedPool" y_P_transfer y_P_transfer ∈ gA := gA_s (i := 12) (by decide +kernel) (by decide +kernel)
theorem ks13 : Cond.selects "RangedPool$Lot" y_T_begin y_T_begin ∈ gA := gA_s (i := 13) (by decide +kernel) (by decide +kernel)
theorem ks14 : Cond.selects "RangedPool$Lot" y_T_settle y_T_settle ∈ gA := gA_s (i := 14) (by decide +kernel) (by decide +kernel)
theorem ks15 : Cond.selects "RangedPool" y_P_isTrade y_P_isTrade ∈ gA := gA_s (i := 15) (by decide +kernel) (by decide +kernel)
theorem ks16 : Cond.selects "RangedPool$Trade" y_D_startAt y_D_startAt ∈ gA := gA_s (i := 16) (by decide +kernel) (by decide +kernel)
theorem ks17 : Cond.selects "RangedPool$Trade" y_D_workOut y_D_workOut ∈ gA := gA_s (i := 17) (by decide +kernel) (by decide +kernel)
theorem ks18 : Cond.selects "RangedPool$LotBook" y_B_clearPendingGrowth y_B_clearPendingGrowth ∈ gA := gA_s (i := 18) (by decide +kernel) (by decide +kernel)
theorem ks19 : Cond.selects "RangedPool$Trade" y_D_goOneLeg y_D_goOneLeg ∈ gA := gA_s (i := 19) (by decide +kernel) (by decide +kernel)
theorem ks20 : Cond.selects "RangedPool$LotBook" y_B_markedAtOrBelow y_B_markedAtOrBelow ∈ gA := gA_s (i := 20) (by decide +kernel) (by decide +kernel)
theorem ks21 : Cond.selects "RangedPool$LotBook" y_B_markedAbove y_B_markedAbove ∈ gA := gA_s (i := 21) (by decide +kernel) (by decide +kernel)
theorem ks22 : Cond.selects "RangedPool$Trade" y_D_targetBefore y_D_targetBefore ∈ gA := gA_s (i := 22) (by decide +kernel) (by decide +kernel)
theorem ks23 : Cond.selects "RangedPool$LotBook" y_B_depthAt y_B_depthAt ∈ gA := gA_s (i := 23) (by decide +kernel) (by decide +kernel)
theorem ks24 : Cond.selects "RangedPool$Lot" y_T_isInRange y_T_isInRange ∈ gA := gA_s (i := 24) (by decide +kernel) (by decide +kernel)
theorem ks25 : Cond.selects "RangedPool$Trade" y_D_priceAfterPaying y_D_priceAfterPaying ∈ gA := gA_s (i := 25) (by decide +kernel) (by decide +kernel)
theorem ks26 : Cond.selects "RangedPool$Trade" y_D_amountIn y_D_amountIn ∈ gA := gA_s (i := 26) (by decide +kernel) (by decide +kernel)
theorem ks27 : Cond.selects "RangedPool$Trade" y_D_priceAfterTaking y_D_priceAfterTaking ∈ gA := gA_s (i := 27) (by decide +kernel) (by decide +kernel)
theorem ks28 : Cond.selects "RangedPool$Trade" y_D_amountOut y_D_amountOut ∈ gA := gA_s (i := 28) (by decide +kernel) (by decide +kernel)
theorem ks29 : Cond.selects "RangedPool$LotBook" y_B_growPending y_B_growPending ∈ gA := gA_s (i := 29) (by decide +kernel) (by decide +kernel)
theorem ks30 : Cond.selects "RangedPool$Trade" y_D_moveTo y_D_moveTo ∈ gA := gA_s (i := 30) (by decide +kernel) (by decide +kernel)
theorem ks31 : Cond.selects "RangedPool$Trade" y_D_tokenIn y_D_tokenIn ∈ gA := gA_s (i := 31) (by decide +kernel) (by decide +kernel)
theorem ks32 : Cond.selects "RangedPool$LotBook" y_B_keepPendingGrowth y_B_keepPendingGrowth ∈ gA := gA_s (i := 32) (by decide +kernel) (by decide +kernel)
theorem ks33 : Cond.selects "RangedPool" y_P_canLend y_P_canLend ∈ gA := gA_s (i := 33) (by decide +kernel) (by decide +kernel)
theorem ks34 : Cond.selects "RangedPool" y_P_takeFee y_P_takeFee ∈ gA := gA_s (i := 34) (by decide +kernel) (by decide +kernel)
theorem ks35 : Cond.selects "RangedPool$History" y_H_tick y_H_tick ∈ gA := gA_s (i := 35) (by decide +kernel) (by decide +kernel)
theorem ks36 : Cond.selects "RangedPool$History" y_H_reaches y_H_reaches ∈ gA := gA_s (i := 36) (by decide +kernel) (by decide +kernel)
theorem ks37 : Cond.selects "RangedPool$History" y_H_sumAt y_H_sumAt ∈ gA := gA_s (i := 37) (by decide +kernel) (by decide +kernel)
theorem ks38 : Cond.selects "RangedPool$LotBook" y_B_netAt y_B_netAt ∈ gA := gA_s (i := 38) (by decide +kernel) (by decide +kernel)
theorem ks39 : Cond.selects "RangedPoolModel" y_M_price y_M_price ∈ gA := gA_s (i := 39) (by decide +kernel) (by decide +kernel)
theorem ks40 : Cond.selects "RangedPoolModel" y_M_note y_M_note ∈ gA := gA_s (i := 40) (by decide +kernel) (by decide +kernel)
theorem ks41 : Cond.selects "RangedPoolModel" y_M_isRange y_M_isRange ∈ gA := gA_s (i := 41) (by decide +kernel) (by decide +kernel)
theorem ks42 : Cond.selects "RangedPoolModel" y_M_find y_M_find ∈ gA := gA_s (i := 42) (by decide +kernel) (by decide +kernel)
theorem ks43 : Cond.selects "RangedPoolModel" y_M_worthZero y_M_worthZero ∈ gA := gA_s (i := 43) (by decide +kernel) (by decide +kernel)
theorem ks44 : Cond.selects "RangedPoolModel" y_M_worthOne y_M_worthOne ∈ gA := gA_s (i := 44) (by decide +kernel) (by decide +kernel)
theorem ks45 : Cond.selects "RangedPoolModel" y_M_settle y_M_settle ∈ gA := gA_s (i := 45) (by decide +kernel) (by decide +kernel)
theorem ks46 : Cond.selects "RangedPoolModel" y_M_pay y_M_pay ∈ gA := gA_s (i := 46) (by decide +kernel) (by decide +kernel)
theorem ks47 : Cond.selects "RangedPoolModel" y_M_sweep y_M_sweep ∈ gA := gA_s (i := 47) (by decide +kernel) (by decide +kernel)
theorem ks48 : Cond.selects "RangedPoolModel" y_M_work y_M_work ∈ gA := gA_s (i := 48) (by decide +kernel) (by decide +kernel)
theorem ks49 : Cond.selects "RangedPoolModel" y_M_leg y_M_leg ∈ gA := gA_s (i := 49) (by decide +kernel) (by decide +kernel)
theorem ks50 : Cond.selects "RangedPoolModel" y_M_nextStep y_M_nextStep ∈ gA := gA_s (i := 50) (by decide +kernel) (by decide +kernel)
theorem ks51 : Cond.selects "RangedPoolModel" y_M_marked y_M_marked ∈ gA := gA_s (i := 51) (by decide +kernel) (by decide +kernel)
theorem ks52 : Cond.selects "RangedPoolModel" y_M_depthAt y_M_depthAt ∈ gA := gA_s (i := 52) (by decide +kernel) (by decide +kernel)
theorem ks53 : Cond.selects "RangedPoolModel" y_M_onTheWay y_M_onTheWay ∈ gA := gA_s (i := 53) (by decide +kernel) (by decide +kernel)
def w_P_init : List Cond := Cond.code y_P_init b_P_init 3 none :: gA
theorem kc_P_init : Cond.code y_P_init b_P_init 3 none ∈ gA := kw12
theorem gn_P_init : GoodIn gA w_P_init := gA_good (l := []) (fun _ h => absurd h List.not_mem_nil) kc_P_init
def w_B_init : List Cond := Cond.code y_B_init b_B_init 2 none :: gA
theorem kc_B_init : Cond.code y_B_init b_B_init 2 none ∈ gA := kw22
theorem gn_B_init : GoodIn gA w_B_init := gA_good (l := []) (fun _ h => absurd h List.not_mem_nil) kc_B_init
def w_T_init : List Cond := Cond.code y_T_init b_T_init 1 none :: gA
theorem kc_T_init : Cond.code y_T_init b_T_init 1 none ∈ gA := kw29
theorem gn_T_init : GoodIn gA w_T_init := gA_good (l := []) (fun _ h => absurd h List.not_mem_nil) kc_T_init
def w_H_init : List Cond := Cond.code y_H_init b_H_init 1 none :: gA
theorem kc_H_init : Cond.code y_H_init b_H_init 1 none ∈ gA := kw68
theorem gn_H_init : GoodIn gA w_H_init := gA_good (l := []) (fun _ h => absurd h List.not_mem_nil) kc_H_init
def w_P_isSpacing : List Cond := Cond.code y_P_isSpacing b_P_isSpacing 1 (some .boolean) :: gA
theorem kc_P_isSpacing : Cond.code y_P_isSpacing b_P_isSpacing 1 (some .boolean) ∈ gA := kw93
theorem gn_P_isSpacing : GoodIn gA w_P_isSpacing := gA_good (l := []) (fun _ h => absurd h List.not_mem_nil) kc_P_isSpacing
def w_D_init : List Cond := Cond.code y_D_init b_D_init 2 none :: gA
theorem kc_D_init : Cond.code y_D_init b_D_init 2 none ∈ gA := kw98
theorem gn_D_init : GoodIn gA w_D_init := gA_good (l := []) (fun _ h => absurd h List.not_mem_nil) kc_D_init
def w_P_open : List Cond := Cond.code y_P_open b_P_open 2 (some .boolean) :: gA
theorem kc_P_open : Cond.code y_P_open b_P_open 2 (some .boolean) ∈ gA := kw163
theorem gn_P_open : GoodIn gA w_P_open := gA_good (l := []) (fun _ h => absurd h List.not_mem_nil) kc_P_open
def w_P_isStep : List Cond := Cond.code y_P_isStep b_P_isStep 1 (some .boolean) :: gA
theorem kc_P_isStep : Cond.code y_P_isStep b_P_isStep 1 (some .boolean) ∈ gA := kw166
theorem gn_P_isStep : GoodIn gA w_P_isStep := gA_good (l := []) (fun _ h => absurd h List.not_mem_nil) kc_P_isStep
def w_P_priceOf : List Cond := Cond.code y_P_priceOf b_P_priceOf 1 (some .int) :: gA
theorem kc_P_priceOf : Cond.code y_P_priceOf b_P_priceOf 1 (some .int) ∈ gA := kw169
theorem gn_P_priceOf : GoodIn gA w_P_priceOf := gA_good (l := []) (fun _ h => absurd h List.not_mem_nil) kc_P_priceOf
def w_H_mark : List Cond := Cond.code y_H_mark b_H_mark 2 none :: gA
theorem kc_H_mark : Cond.code y_H_mark b_H_mark 2 none ∈ gA := kw175
theorem gn_H_mark : GoodIn gA w_H_mark := gA_good (l := []) (fun _ h => absurd h List.not_mem_nil) kc_H_mark
def w_H_dropOldest : List Cond := Cond.code y_H_dropOldest b_H_dropOldest 2 none :: gA
theorem kc_H_dropOldest : Cond.code y_H_dropOldest b_H_dropOldest 2 none ∈ gA := kw179
theorem gn_H_dropOldest : GoodIn gA w_H_dropOldest := gA_good (l := []) (fun _ h => absurd h List.not_mem_nil) kc_H_dropOldest
def w_P_fund : List Cond := Cond.code y_P_fund b_P_fund 4 (some .boolean) :: gA
theorem kc_P_fund : Cond.code y_P_fund b_P_fund 4 (some .boolean) ∈ gA := kw183
theorem gn_P_fund : GoodIn gA w_P_fund := gA_good (l := []) (fun _ h => absurd h List.not_mem_nil) kc_P_fund
def w_P_isOwner : List Cond := Cond.code y_P_isOwner b_P_isOwner 1 (some .boolean) :: gA
theorem kc_P_isOwner : Cond.code y_P_isOwner b_P_isOwner 1 (some .boolean) ∈ gA := kw186
theorem gn_P_isOwner : GoodIn gA w_P_isOwner := gA_good (l := []) (fun _ h => absurd h List.not_mem_nil) kc_P_isOwner
def w_P_isToken : List Cond := Cond.code y_P_isToken b_P_isToken 1 (some .boolean) :: gA
theorem kc_P_isToken : Cond.code y_P_isToken b_P_isToken 1 (some .boolean) ∈ gA := kw189
theorem gn_P_isToken : GoodIn gA w_P_isToken := gA_good (l := []) (fun _ h => absurd h List.not_mem_nil) kc_P_isToken
def w_P_mint : List Cond := Cond.code y_P_mint b_P_mint 10 (some .long) :: gA
theorem kc_P_mint : Cond.code y_P_mint b_P_mint 10 (some .long) ∈ gA := kw194
theorem gn_P_mint : GoodIn gA w_P_mint := gA_good (l := []) (fun _ h => absurd h List.not_mem_nil) kc_P_mint
def w_P_isRange : List Cond := Cond.code y_P_isRange b_P_isRange 3 (some .boolean) :: gA
theorem kc_P_isRange : Cond.code y_P_isRange b_P_isRange 3 (some .boolean) ∈ gA := kw199
theorem gn_P_isRange : GoodIn gA w_P_isRange := gA_good (l := []) (fun _ h => absurd h List.not_mem_nil) kc_P_isRange
def w_B_findOrFree : List Cond := Cond.code y_B_findOrFree b_B_findOrFree 6 (some (.object "RangedPool$Lot")) :: gA
theorem kc_B_findOrFree : Cond.code y_B_findOrFree b_B_findOrFree 6 (some (.object "RangedPool$Lot")) ∈ gA := kw205
theorem gn_B_findOrFree : GoodIn gA w_B_findOrFree := gA_good (l := []) (fun _ h => absurd h List.not_mem_nil) kc_B_findOrFree
def w_B_find : List Cond := Cond.code y_B_find b_B_find 8 (some (.object "RangedPool$Lot")) :: gA
theorem kc_B_find : Cond.code y_B_find b_B_find 8 (some (.object "RangedPool$Lot")) ∈ gA := kw209
theorem gn_B_find : GoodIn gA w_B_find := gA_good (l := []) (fun _ h => absurd h List.not_mem_nil) kc_B_find
def w_T_isThere : List Cond := Cond.code y_T_isThere b_T_isThere 1 (some .boolean) :: gA
theorem kc_T_isThere : Cond.code y_T_isThere b_T_isThere 1 (some .boolean) ∈ gA := kw213
theorem gn_T_isThere : GoodIn gA w_T_isThere := gA_good (l := []) (fun _ h => absurd h List.not_mem_nil) kc_T_isThere
def w_T_isFor : List Cond := Cond.code y_T_isFor b_T_isFor 4 (some .boolean) :: gA
theorem kc_T_isFor : Cond.code y_T_isFor b_T_isFor 4 (some .boolean) ∈ gA := kw217
theorem gn_T_isFor : GoodIn gA w_T_isFor := gA_good (l := []) (fun _ h => absurd h List.not_mem_nil) kc_T_isFor
def w_B_totalLiquidity : List Cond := Cond.code y_B_totalLiquidity b_B_totalLiquidity 7 (some .long) :: gA
theorem kc_B_totalLiquidity : Cond.code y_B_totalLiquidity b_B_totalLiquidity 7 (some .long) ∈ gA := kw221
theorem gn_B_totalLiquidity : GoodIn gA w_B_totalLiquidity := gA_good (l := []) (fun _ h => absurd h List.not_mem_nil) kc_B_totalLiquidity
def w_P_zeroOfRange : List Cond := Cond.code y_P_zeroOfRange b_P_zeroOfRange 7 (some .long) :: gA
theorem kc_P_zeroOfRange : Cond.code y_P_zeroOfRange b_P_zeroOfRange 7 (some .long) ∈ gA := kw227
theorem gn_P_zeroOfRange : GoodIn gA w_P_zeroOfRange := gA_good (l := []) (fun _ h => absurd h List.not_mem_nil) kc_P_zeroOfRange
def w_P_zeroBetween : List Cond := Cond.code y_P_zeroBetween b_P_zeroBetween 7 (some .long) :: gA
theorem kc_P_zeroBetween : Cond.code y_P_zeroBetween b_P_zeroBetween 7 (some .long) ∈ gA := kw230
theorem gn_P_zeroBetween : GoodIn gA w_P_zeroBetween := gA_good (l := []) (fun _ h => absurd h List.not_mem_nil) kc_P_zeroBetween
def w_P_quotient : List Cond := Cond.code y_P_quotient b_P_quotient 7 (some .long) :: gA
theorem kc_P_quotient : Cond.code y_P_quotient b_P_quotient 7 (some .long) ∈ gA := kw234
theorem gn_P_quotient : GoodIn gA w_P_quotient := gA_good (l := []) (fun _ h => absurd h List.not_mem_nil) kc_P_quotient
def w_P_oneOfRange : List Cond := Cond.code y_P_oneOfRange b_P_oneOfRange 7 (some .long) :: gA
theorem kc_P_oneOfRange : Cond.code y_P_oneOfRange b_P_oneOfRange 7 (some .long) ∈ gA := kw238
theorem gn_P_oneOfRange : GoodIn gA w_P_oneOfRange := gA_good (l := []) (fun _ h => absurd h List.not_mem_nil) kc_P_oneOfRange
def w_P_oneBetween : List Cond := Cond.code y_P_oneBetween b_P_oneBetween 7 (some .long) :: gA
theorem kc_P_oneBetween : Cond.code y_P_oneBetween b_P_oneBetween 7 (some .long) ∈ gA := kw241
theorem gn_P_oneBetween : GoodIn gA w_P_oneBetween := gA_good (l := []) (fun _ h => absurd h List.not_mem_nil) kc_P_oneBetween
def w_P_canPay : List Cond := Cond.code y_P_canPay b_P_canPay 6 (some .boolean) :: gA
theorem kc_P_canPay : Cond.code y_P_canPay b_P_canPay 6 (some .boolean) ∈ gA := kw245
theorem gn_P_canPay : GoodIn gA w_P_canPay := gA_good (l := []) (fun _ h => absurd h List.not_mem_nil) kc_P_canPay
def w_P_pay : List Cond := Cond.code y_P_pay b_P_pay 6 none :: gA
theorem kc_P_pay : Cond.code y_P_pay b_P_pay 6 none ∈ gA := kw250
theorem gn_P_pay : GoodIn gA w_P_pay := gA_good (l := []) (fun _ h => absurd h List.not_mem_nil) kc_P_pay
def w_P_transfer : List Cond := Cond.code y_P_transfer b_P_transfer 5 none :: gA
theorem kc_P_transfer : Cond.code y_P_transfer b_P_transfer 5 none ∈ gA := kw254
theorem gn_P_transfer : GoodIn gA w_P_transfer := gA_good (l := []) (fun _ h => absurd h List.not_mem_nil) kc_P_transfer
def w_T_begin : List Cond := Cond.code y_T_begin b_T_begin 4 none :: gA
theorem kc_T_begin : Cond.code y_T_begin b_T_begin 4 none ∈ gA := kw259
theorem gn_T_begin : GoodIn gA w_T_begin := gA_good (l := []) (fun _ h => absurd h List.not_mem_nil) kc_T_begin
def w_T_settle : List Cond := Cond.code y_T_settle b_T_settle 2 none :: gA
theorem kc_T_settle : Cond.code y_T_settle b_T_settle 2 none ∈ gA := kw263
theorem gn_T_settle : GoodIn gA w_T_settle := gA_good (l := []) (fun _ h => absurd h List.not_mem_nil) kc_T_settle
def w_P_pair : List Cond := Cond.code y_P_pair b_P_pair 4 (some .long) :: gA
theorem kc_P_pair : Cond.code y_P_pair b_P_pair 4 (some .long) ∈ gA := kw267
theorem gn_P_pair : GoodIn gA w_P_pair := gA_good (l := []) (fun _ h => absurd h List.not_mem_nil) kc_P_pair
def w_P_burn : List Cond := Cond.code y_P_burn b_P_burn 10 (some .long) :: gA
theorem kc_P_burn : Cond.code y_P_burn b_P_burn 10 (some .long) ∈ gA := kw272
theorem gn_P_burn : GoodIn gA w_P_burn := gA_good (l := []) (fun _ h => absurd h List.not_mem_nil) kc_P_burn
def w_P_collect : List Cond := Cond.code y_P_collect b_P_collect 9 (some .long) :: gA
theorem kc_P_collect : Cond.code y_P_collect b_P_collect 9 (some .long) ∈ gA := kw278
theorem gn_P_collect : GoodIn gA w_P_collect := gA_good (l := []) (fun _ h => absurd h List.not_mem_nil) kc_P_collect
def w_P_swap : List Cond := Cond.code y_P_swap b_P_swap 6 (some .long) :: gA
theorem kc_P_swap : Cond.code y_P_swap b_P_swap 6 (some .long) ∈ gA := kw282
theorem gn_P_swap : GoodIn gA w_P_swap := gA_good (l := []) (fun _ h => absurd h List.not_mem_nil) kc_P_swap
def w_P_isTrade : List Cond := Cond.code y_P_isTrade b_P_isTrade 4 (some .boolean) :: gA
theorem kc_P_isTrade : Cond.code y_P_isTrade b_P_isTrade 4 (some .boolean) ∈ gA := kw286
theorem gn_P_isTrade : GoodIn gA w_P_isTrade := gA_good (l := []) (fun _ h => absurd h List.not_mem_nil) kc_P_isTrade
def w_D_startAt : List Cond := Cond.code y_D_startAt b_D_startAt 4 none :: gA
theorem kc_D_startAt : Cond.code y_D_startAt b_D_startAt 4 none ∈ gA := kw291
theorem gn_D_startAt : GoodIn gA w_D_startAt := gA_good (l := []) (fun _ h => absurd h List.not_mem_nil) kc_D_startAt
def w_D_workOut : List Cond := Cond.code y_D_workOut b_D_workOut 5 none :: gA
theorem kc_D_workOut : Cond.code y_D_workOut b_D_workOut 5 none ∈ gA := kw295
theorem gn_D_workOut : GoodIn gA w_D_workOut := gA_good (l := []) (fun _ h => absurd h List.not_mem_nil) kc_D_workOut
def w_B_clearPendingGrowth : List Cond := Cond.code y_B_clearPendingGrowth b_B_clearPendingGrowth 5 none :: gA
theorem kc_B_clearPendingGrowth : Cond.code y_B_clearPendingGrowth b_B_clearPendingGrowth 5 none ∈ gA := kw299
theorem gn_B_clearPendingGrowth : GoodIn gA w_B_clearPendingGrowth := gA_good (l := []) (fun _ h => absurd h List.not_mem_nil) kc_B_clearPendingGrowth
def w_D_goOneLeg : List Cond := Cond.code y_D_goOneLeg b_D_goOneLeg 14 none :: gA
theorem kc_D_goOneLeg : Cond.code y_D_goOneLeg b_D_goOneLeg 14 none ∈ gA := kw303
theorem gn_D_goOneLeg : GoodIn gA w_D_goOneLeg := gA_good (l := []) (fun _ h => absurd h List.not_mem_nil) kc_D_goOneLeg
def w_B_markedAtOrBelow : List Cond := Cond.code y_B_markedAtOrBelow b_B_markedAtOrBelow 8 (some .int) :: gA
theorem kc_B_markedAtOrBelow : Cond.code y_B_markedAtOrBelow b_B_markedAtOrBelow 8 (some .int) ∈ gA := kw307
theorem gn_B_markedAtOrBelow : GoodIn gA w_B_markedAtOrBelow := gA_good (l := []) (fun _ h => absurd h List.not_mem_nil) kc_B_markedAtOrBelow
def w_B_markedAbove : List Cond := Cond.code y_B_markedAbove b_B_markedAbove 8 (some .int) :: gA
theorem kc_B_markedAbove : Cond.code y_B_markedAbove b_B_markedAbove 8 (some .int) ∈ gA := kw311
theorem gn_B_markedAbove : GoodIn gA w_B_markedAbove := gA_good (l := []) (fun _ h => absurd h List.not_mem_nil) kc_B_markedAbove
def w_D_targetBefore : List Cond := Cond.code y_D_targetBefore b_D_targetBefore 2 (some .int) :: gA
theorem kc_D_targetBefore : Cond.code y_D_targetBefore b_D_targetBefore 2 (some .int) ∈ gA := kw315
theorem gn_D_targetBefore : GoodIn gA w_D_targetBefore := gA_good (l := []) (fun _ h => absurd h List.not_mem_nil) kc_D_targetBefore
def w_B_depthAt : List Cond := Cond.code y_B_depthAt b_B_depthAt 8 (some .long) :: gA
theorem kc_B_depthAt : Cond.code y_B_depthAt b_B_depthAt 8 (some .long) ∈ gA := kw326
theorem gn_B_depthAt : GoodIn gA w_B_depthAt := gA_good (l := []) (fun _ h => absurd h List.not_mem_nil) kc_B_depthAt
def w_T_isInRange : List Cond := Cond.code y_T_isInRange b_T_isInRange 2 (some .boolean) :: gA
theorem kc_T_isInRange : Cond.code y_T_isInRange b_T_isInRange 2 (some .boolean) ∈ gA := kw330
theorem gn_T_isInRange : GoodIn gA w_T_isInRange := gA_good (l := []) (fun _ h => absurd h List.not_mem_nil) kc_T_isInRange
def w_D_priceAfterPaying : List Cond := Cond.code y_D_priceAfterPaying b_D_priceAfterPaying 6 (some .int) :: gA
theorem kc_D_priceAfterPaying : Cond.code y_D_priceAfterPaying b_D_priceAfterPaying 6 (some .int) ∈ gA := kw334
theorem gn_D_priceAfterPaying : GoodIn gA w_D_priceAfterPaying := gA_good (l := []) (fun _ h => absurd h List.not_mem_nil) kc_D_priceAfterPaying
def w_D_amountIn : List Cond := Cond.code y_D_amountIn b_D_amountIn 4 (some .long) :: gA
theorem kc_D_amountIn : Cond.code y_D_amountIn b_D_amountIn 4 (some .long) ∈ gA := kw339
theorem gn_D_amountIn : GoodIn gA w_D_amountIn := gA_good (l := []) (fun _ h => absurd h List.not_mem_nil) kc_D_amountIn
def w_D_priceAfterTaking : List Cond := Cond.code y_D_priceAfterTaking b_D_priceAfterTaking 6 (some .int) :: gA
theorem kc_D_priceAfterTaking : Cond.code y_D_priceAfterTaking b_D_priceAfterTaking 6 (some .int) ∈ gA := kw347
theorem gn_D_priceAfterTaking : GoodIn gA w_D_priceAfterTaking := gA_good (l := []) (fun _ h => absurd h List.not_mem_nil) kc_D_priceAfterTaking
def w_D_amountOut : List Cond := Cond.code y_D_amountOut b_D_amountOut 4 (some .long) :: gA
theorem kc_D_amountOut : Cond.code y_D_amountOut b_D_amountOut 4 (some .long) ∈ gA := kw351
theorem gn_D_amountOut : GoodIn gA w_D_amountOut := gA_good (l := []) (fun _ h => absurd h List.not_mem_nil) kc_D_amountOut
def w_B_growPending : List Cond := Cond.code y_B_growPending b_B_growPending 12 none :: gA
theorem kc_B_growPending : Cond.code y_B_growPending b_B_growPending 12 none ∈ gA := kw358
theorem gn_B_growPending : GoodIn gA w_B_growPending := gA_good (l := []) (fun _ h => absurd h List.not_mem_nil) kc_B_growPending
def w_D_moveTo : List Cond := Cond.code y_D_moveTo b_D_moveTo 4 none :: gA
theorem kc_D_moveTo : Cond.code y_D_moveTo b_D_moveTo 4 none ∈ gA := kw364
theorem gn_D_moveTo : GoodIn gA w_D_moveTo := gA_good (l := []) (fun _ h => absurd h List.not_mem_nil) kc_D_moveTo
def w_P_greatestStepAt : List Cond := Cond.code y_P_greatestStepAt b_P_greatestStepAt 2 (some .int) :: gA
theorem kc_P_greatestStepAt : Cond.code y_P_greatestStepAt b_P_greatestStepAt 2 (some .int) ∈ gA := kw367
theorem gn_P_greatestStepAt : GoodIn gA w_P_greatestStepAt := gA_good (l := []) (fun _ h => absurd h List.not_mem_nil) kc_P_greatestStepAt
def w_D_tokenIn : List Cond := Cond.code y_D_tokenIn b_D_tokenIn 1 (some .int) :: gA
theorem kc_D_tokenIn : Cond.code y_D_tokenIn b_D_tokenIn 1 (some .int) ∈ gA := kw371
theorem gn_D_tokenIn : GoodIn gA w_D_tokenIn := gA_good (l := []) (fun _ h => absurd h List.not_mem_nil) kc_D_tokenIn
def w_B_keepPendingGrowth : List Cond := Cond.code y_B_keepPendingGrowth b_B_keepPendingGrowth 6 none :: gA
theorem kc_B_keepPendingGrowth : Cond.code y_B_keepPendingGrowth b_B_keepPendingGrowth 6 none ∈ gA := kw375
theorem gn_B_keepPendingGrowth : GoodIn gA w_B_keepPendingGrowth := gA_good (l := []) (fun _ h => absurd h List.not_mem_nil) kc_B_keepPendingGrowth
def w_P_quote : List Cond := Cond.code y_P_quote b_P_quote 4 (some .long) :: gA
theorem kc_P_quote : Cond.code y_P_quote b_P_quote 4 (some .long) ∈ gA := kw379
theorem gn_P_quote : GoodIn gA w_P_quote := gA_good (l := []) (fun _ h => absurd h List.not_mem_nil) kc_P_quote
def w_P_flash : List Cond := Cond.code y_P_flash b_P_flash 10 (some .long) :: gA
theorem kc_P_flash : Cond.code y_P_flash b_P_flash 10 (some .long) ∈ gA := kw383
theorem gn_P_flash : GoodIn gA w_P_flash := gA_good (l := []) (fun _ h => absurd h List.not_mem_nil) kc_P_flash
def w_P_canLend : List Cond := Cond.code y_P_canLend b_P_canLend 3 (some .boolean) :: gA
theorem kc_P_canLend : Cond.code y_P_canLend b_P_canLend 3 (some .boolean) ∈ gA := kw388
theorem gn_P_canLend : GoodIn gA w_P_canLend := gA_good (l := []) (fun _ h => absurd h List.not_mem_nil) kc_P_canLend
def w_P_takeFee : List Cond := Cond.code y_P_takeFee b_P_takeFee 6 none :: gA
theorem kc_P_takeFee : Cond.code y_P_takeFee b_P_takeFee 6 none ∈ gA := kw393
theorem gn_P_takeFee : GoodIn gA w_P_takeFee := gA_good (l := []) (fun _ h => absurd h List.not_mem_nil) kc_P_takeFee
def w_P_advance : List Cond := Cond.code y_P_advance b_P_advance 2 (some .boolean) :: gA
theorem kc_P_advance : Cond.code y_P_advance b_P_advance 2 (some .boolean) ∈ gA := kw399
theorem gn_P_advance : GoodIn gA w_P_advance := gA_good (l := []) (fun _ h => absurd h List.not_mem_nil) kc_P_advance
def w_H_tick : List Cond := Cond.code y_H_tick b_H_tick 3 none :: gA
theorem kc_H_tick : Cond.code y_H_tick b_H_tick 3 none ∈ gA := kw403
theorem gn_H_tick : GoodIn gA w_H_tick := gA_good (l := []) (fun _ h => absurd h List.not_mem_nil) kc_H_tick
def w_P_observe : List Cond := Cond.code y_P_observe b_P_observe 4 (some .long) :: gA
theorem kc_P_observe : Cond.code y_P_observe b_P_observe 4 (some .long) ∈ gA := kw407
theorem gn_P_observe : GoodIn gA w_P_observe := gA_good (l := []) (fun _ h => absurd h List.not_mem_nil) kc_P_observe
def w_H_reaches : List Cond := Cond.code y_H_reaches b_H_reaches 3 (some .boolean) :: gA
theorem kc_H_reaches : Cond.code y_H_reaches b_H_reaches 3 (some .boolean) ∈ gA := kw411
theorem gn_H_reaches : GoodIn gA w_H_reaches := gA_good (l := []) (fun _ h => absurd h List.not_mem_nil) kc_H_reaches
def w_H_sumAt : List Cond := Cond.code y_H_sumAt b_H_sumAt 10 (some .long) :: gA
theorem kc_H_sumAt : Cond.code y_H_sumAt b_H_sumAt 10 (some .long) ∈ gA := kw415
theorem gn_H_sumAt : GoodIn gA w_H_sumAt := gA_good (l := []) (fun _ h => absurd h List.not_mem_nil) kc_H_sumAt
def w_P_price : List Cond := Cond.code y_P_price b_P_price 1 (some .int) :: gA
theorem kc_P_price : Cond.code y_P_price b_P_price 1 (some .int) ∈ gA := kw420
theorem gn_P_price : GoodIn gA w_P_price := gA_good (l := []) (fun _ h => absurd h List.not_mem_nil) kc_P_price
def w_P_step : List Cond := Cond.code y_P_step b_P_step 1 (some .int) :: gA
theorem kc_P_step : Cond.code y_P_step b_P_step 1 (some .int) ∈ gA := kw424
theorem gn_P_step : GoodIn gA w_P_step := gA_good (l := []) (fun _ h => absurd h List.not_mem_nil) kc_P_step
def w_P_depth : List Cond := Cond.code y_P_depth b_P_depth 1 (some .int) :: gA
theorem kc_P_depth : Cond.code y_P_depth b_P_depth 1 (some .int) ∈ gA := kw428
theorem gn_P_depth : GoodIn gA w_P_depth := gA_good (l := []) (fun _ h => absurd h List.not_mem_nil) kc_P_depth
def w_P_wallet : List Cond := Cond.code y_P_wallet b_P_wallet 3 (some .long) :: gA
theorem kc_P_wallet : Cond.code y_P_wallet b_P_wallet 3 (some .long) ∈ gA := kw432
theorem gn_P_wallet : GoodIn gA w_P_wallet := gA_good (l := []) (fun _ h => absurd h List.not_mem_nil) kc_P_wallet
def w_P_reserve : List Cond := Cond.code y_P_reserve b_P_reserve 2 (some .long) :: gA
theorem kc_P_reserve : Cond.code y_P_reserve b_P_reserve 2 (some .long) ∈ gA := kw436
theorem gn_P_reserve : GoodIn gA w_P_reserve := gA_good (l := []) (fun _ h => absurd h List.not_mem_nil) kc_P_reserve
def w_P_lot : List Cond := Cond.code y_P_lot b_P_lot 6 (some .long) :: gA
theorem kc_P_lot : Cond.code y_P_lot b_P_lot 6 (some .long) ∈ gA := kw440
theorem gn_P_lot : GoodIn gA w_P_lot := gA_good (l := []) (fun _ h => absurd h List.not_mem_nil) kc_P_lot
def w_P_net : List Cond := Cond.code y_P_net b_P_net 2 (some .int) :: gA
theorem kc_P_net : Cond.code y_P_net b_P_net 2 (some .int) ∈ gA := kw444
theorem gn_P_net : GoodIn gA w_P_net := gA_good (l := []) (fun _ h => absurd h List.not_mem_nil) kc_P_net
def w_B_netAt : List Cond := Cond.code y_B_netAt b_B_netAt 8 (some .long) :: gA
theorem kc_B_netAt : Cond.code y_B_netAt b_B_netAt 8 (some .long) ∈ gA := kw448
theorem gn_B_netAt : GoodIn gA w_B_netAt := gA_good (l := []) (fun _ h => absurd h List.not_mem_nil) kc_B_netAt
def w_L_cell : List Cond := Cond.code y_L_cell b_L_cell 2 (some .int) :: gA
theorem kc_L_cell : Cond.code y_L_cell b_L_cell 2 (some .int) ∈ gA := kw451
theorem gn_L_cell : GoodIn gA w_L_cell := gA_good (l := []) (fun _ h => absurd h List.not_mem_nil) kc_L_cell
def w_M_init : List Cond := Cond.code y_M_init b_M_init 5 none :: gA
theorem kc_M_init : Cond.code y_M_init b_M_init 5 none ∈ gA := kw456
theorem gn_M_init : GoodIn gA w_M_init := gA_good (l := []) (fun _ h => absurd h List.not_mem_nil) kc_M_init
def w_M_open : List Cond := Cond.code y_M_open b_M_open 2 (some .boolean) :: gA
theorem kc_M_open : Cond.code y_M_open b_M_open 2 (some .boolean) ∈ gA := kw544
theorem gn_M_open : GoodIn gA w_M_open := gA_good (l := []) (fun _ h => absurd h List.not_mem_nil) kc_M_open
def w_M_isStep : List Cond := Cond.code y_M_isStep b_M_isStep 1 (some .boolean) :: gA
theorem kc_M_isStep : Cond.code y_M_isStep b_M_isStep 1 (some .boolean) ∈ gA := kw547
theorem gn_M_isStep : GoodIn gA w_M_isStep := gA_good (l := []) (fun _ h => absurd h List.not_mem_nil) kc_M_isStep
def w_M_price : List Cond := Cond.code y_M_price b_M_price 2 (some .long) :: gA
theorem kc_M_price : Cond.code y_M_price b_M_price 2 (some .long) ∈ gA := kw551
theorem gn_M_price : GoodIn gA w_M_price := gA_good (l := []) (fun _ h => absurd h List.not_mem_nil) kc_M_price
def w_M_note : List Cond := Cond.code y_M_note b_M_note 2 none :: gA
theorem kc_M_note : Cond.code y_M_note b_M_note 2 none ∈ gA := kw555
theorem gn_M_note : GoodIn gA w_M_note := gA_good (l := []) (fun _ h => absurd h List.not_mem_nil) kc_M_note
def w_M_fund : List Cond := Cond.code y_M_fund b_M_fund 4 (some .boolean) :: gA
theorem kc_M_fund : Cond.code y_M_fund b_M_fund 4 (some .boolean) ∈ gA := kw559
theorem gn_M_fund : GoodIn gA w_M_fund := gA_good (l := []) (fun _ h => absurd h List.not_mem_nil) kc_M_fund
def w_M_isOwner : List Cond := Cond.code y_M_isOwner b_M_isOwner 1 (some .boolean) :: gA
theorem kc_M_isOwner : Cond.code y_M_isOwner b_M_isOwner 1 (some .boolean) ∈ gA := kw562
theorem gn_M_isOwner : GoodIn gA w_M_isOwner := gA_good (l := []) (fun _ h => absurd h List.not_mem_nil) kc_M_isOwner
def w_M_mint : List Cond := Cond.code y_M_mint b_M_mint 13 (some .long) :: gA
theorem kc_M_mint : Cond.code y_M_mint b_M_mint 13 (some .long) ∈ gA := kw567
theorem gn_M_mint : GoodIn gA w_M_mint := gA_good (l := []) (fun _ h => absurd h List.not_mem_nil) kc_M_mint
def w_M_isRange : List Cond := Cond.code y_M_isRange b_M_isRange 3 (some .boolean) :: gA
theorem kc_M_isRange : Cond.code y_M_isRange b_M_isRange 3 (some .boolean) ∈ gA := kw572
theorem gn_M_isRange : GoodIn gA w_M_isRange := gA_good (l := []) (fun _ h => absurd h List.not_mem_nil) kc_M_isRange
def w_M_find : List Cond := Cond.code y_M_find b_M_find 5 (some .int) :: gA
theorem kc_M_find : Cond.code y_M_find b_M_find 5 (some .int) ∈ gA := kw578
theorem gn_M_find : GoodIn gA w_M_find := gA_good (l := []) (fun _ h => absurd h List.not_mem_nil) kc_M_find
def w_M_worthZero : List Cond := Cond.code y_M_worthZero b_M_worthZero 6 (some .long) :: gA
theorem kc_M_worthZero : Cond.code y_M_worthZero b_M_worthZero 6 (some .long) ∈ gA := kw584
theorem gn_M_worthZero : GoodIn gA w_M_worthZero := gA_good (l := []) (fun _ h => absurd h List.not_mem_nil) kc_M_worthZero
def w_M_zero : List Cond := Cond.code y_M_zero b_M_zero 7 (some .long) :: gA
theorem kc_M_zero : Cond.code y_M_zero b_M_zero 7 (some .long) ∈ gA := kw587
theorem gn_M_zero : GoodIn gA w_M_zero := gA_good (l := []) (fun _ h => absurd h List.not_mem_nil) kc_M_zero
def w_M_quotient : List Cond := Cond.code y_M_quotient b_M_quotient 5 (some .long) :: gA
theorem kc_M_quotient : Cond.code y_M_quotient b_M_quotient 5 (some .long) ∈ gA := kw590
theorem gn_M_quotient : GoodIn gA w_M_quotient := gA_good (l := []) (fun _ h => absurd h List.not_mem_nil) kc_M_quotient
def w_M_worthOne : List Cond := Cond.code y_M_worthOne b_M_worthOne 6 (some .long) :: gA
theorem kc_M_worthOne : Cond.code y_M_worthOne b_M_worthOne 6 (some .long) ∈ gA := kw594
theorem gn_M_worthOne : GoodIn gA w_M_worthOne := gA_good (l := []) (fun _ h => absurd h List.not_mem_nil) kc_M_worthOne
def w_M_one : List Cond := Cond.code y_M_one b_M_one 7 (some .long) :: gA
theorem kc_M_one : Cond.code y_M_one b_M_one 7 (some .long) ∈ gA := kw597
theorem gn_M_one : GoodIn gA w_M_one := gA_good (l := []) (fun _ h => absurd h List.not_mem_nil) kc_M_one
def w_M_settle : List Cond := Cond.code y_M_settle b_M_settle 3 none :: gA
theorem kc_M_settle : Cond.code y_M_settle b_M_settle 3 none ∈ gA := kw602
theorem gn_M_settle : GoodIn gA w_M_settle := gA_good (l := []) (fun _ h => absurd h List.not_mem_nil) kc_M_settle
def w_M_pay : List Cond := Cond.code y_M_pay b_M_pay 6 none :: gA
theorem kc_M_pay : Cond.code y_M_pay b_M_pay 6 none ∈ gA := kw607
theorem gn_M_pay : GoodIn gA w_M_pay := gA_good (l := []) (fun _ h => absurd h List.not_mem_nil) kc_M_pay
def w_M_burn : List Cond := Cond.code y_M_burn b_M_burn 10 (some .long) :: gA
theorem kc_M_burn : Cond.code y_M_burn b_M_burn 10 (some .long) ∈ gA := kw611
theorem gn_M_burn : GoodIn gA w_M_burn := gA_good (l := []) (fun _ h => absurd h List.not_mem_nil) kc_M_burn
def w_M_sweep : List Cond := Cond.code y_M_sweep b_M_sweep 2 none :: gA
theorem kc_M_sweep : Cond.code y_M_sweep b_M_sweep 2 none ∈ gA := kw616
theorem gn_M_sweep : GoodIn gA w_M_sweep := gA_good (l := []) (fun _ h => absurd h List.not_mem_nil) kc_M_sweep
def w_M_collect : List Cond := Cond.code y_M_collect b_M_collect 9 (some .long) :: gA
theorem kc_M_collect : Cond.code y_M_collect b_M_collect 9 (some .long) ∈ gA := kw620
theorem gn_M_collect : GoodIn gA w_M_collect := gA_good (l := []) (fun _ h => absurd h List.not_mem_nil) kc_M_collect
def w_M_swap : List Cond := Cond.code y_M_swap b_M_swap 7 (some .long) :: gA
theorem kc_M_swap : Cond.code y_M_swap b_M_swap 7 (some .long) ∈ gA := kw624
theorem gn_M_swap : GoodIn gA w_M_swap := gA_good (l := []) (fun _ h => absurd h List.not_mem_nil) kc_M_swap
def w_M_work : List Cond := Cond.code y_M_work b_M_work 5 (some .boolean) :: gA
theorem kc_M_work : Cond.code y_M_work b_M_work 5 (some .boolean) ∈ gA := kw628
theorem gn_M_work : GoodIn gA w_M_work := gA_good (l := []) (fun _ h => absurd h List.not_mem_nil) kc_M_work
def w_M_leg : List Cond := Cond.code y_M_leg b_M_leg 24 none :: gA
theorem kc_M_leg : Cond.code y_M_leg b_M_leg 24 none ∈ gA := kw633
theorem gn_M_leg : GoodIn gA w_M_leg := gA_good (l := []) (fun _ h => absurd h List.not_mem_nil) kc_M_leg
def w_M_nextStep : List Cond := Cond.code y_M_nextStep b_M_nextStep 5 (some .int) :: gA
theorem kc_M_nextStep : Cond.code y_M_nextStep b_M_nextStep 5 (some .int) ∈ gA := kw637
theorem gn_M_nextStep : GoodIn gA w_M_nextStep := gA_good (l := []) (fun _ h => absurd h List.not_mem_nil) kc_M_nextStep
def w_M_marked : List Cond := Cond.code y_M_marked b_M_marked 4 (some .boolean) :: gA
theorem kc_M_marked : Cond.code y_M_marked b_M_marked 4 (some .boolean) ∈ gA := kw641
theorem gn_M_marked : GoodIn gA w_M_marked := gA_good (l := []) (fun _ h => absurd h List.not_mem_nil) kc_M_marked
def w_M_depthAt : List Cond := Cond.code y_M_depthAt b_M_depthAt 5 (some .long) :: gA
theorem kc_M_depthAt : Cond.code y_M_depthAt b_M_depthAt 5 (some .long) ∈ gA := kw645
theorem gn_M_depthAt : GoodIn gA w_M_depthAt := gA_good (l := []) (fun _ h => absurd h List.not_mem_nil) kc_M_depthAt
def w_M_in : List Cond := Cond.code y_M_in b_M_in 7 (some .long) :: gA
theorem kc_M_in : Cond.code y_M_in b_M_in 7 (some .long) ∈ gA := kw648
theorem gn_M_in : GoodIn gA w_M_in := gA_good (l := []) (fun _ h => absurd h List.not_mem_nil) kc_M_in
def w_M_goesOut : List Cond := Cond.code y_M_goesOut b_M_goesOut 7 (some .long) :: gA
theorem kc_M_goesOut : Cond.code y_M_goesOut b_M_goesOut 7 (some .long) ∈ gA := kw651
theorem gn_M_goesOut : GoodIn gA w_M_goesOut := gA_good (l := []) (fun _ h => absurd h List.not_mem_nil) kc_M_goesOut
def w_M_onTheWay : List Cond := Cond.code y_M_onTheWay b_M_onTheWay 10 (some .long) :: gA
theorem kc_M_onTheWay : Cond.code y_M_onTheWay b_M_onTheWay 10 (some .long) ∈ gA := kw655
theorem gn_M_onTheWay : GoodIn gA w_M_onTheWay := gA_good (l := []) (fun _ h => absurd h List.not_mem_nil) kc_M_onTheWay
def w_M_quote : List Cond := Cond.code y_M_quote b_M_quote 4 (some .long) :: gA
theorem kc_M_quote : Cond.code y_M_quote b_M_quote 4 (some .long) ∈ gA := kw659
theorem gn_M_quote : GoodIn gA w_M_quote := gA_good (l := []) (fun _ h => absurd h List.not_mem_nil) kc_M_quote
def w_M_flash : List Cond := Cond.code y_M_flash b_M_flash 13 (some .long) :: gA
theorem kc_M_flash : Cond.code y_M_flash b_M_flash 13 (some .long) ∈ gA := kw663
theorem gn_M_flash : GoodIn gA w_M_flash := gA_good (l := []) (fun _ h => absurd h List.not_mem_nil) kc_M_flash
def w_M_advance : List Cond := Cond.code y_M_advance b_M_advance 2 (some .boolean) :: gA
theorem kc_M_advance : Cond.code y_M_advance b_M_advance 2 (some .boolean) ∈ gA := kw667
theorem gn_M_advance : GoodIn gA w_M_advance := gA_good (l := []) (fun _ h => absurd h List.not_mem_nil) kc_M_advance
def w_M_observe : List Cond := Cond.code y_M_observe b_M_observe 7 (some .long) :: gA
theorem kc_M_observe : Cond.code y_M_observe b_M_observe 7 (some .long) ∈ gA := kw671
theorem gn_M_observe : GoodIn gA w_M_observe := gA_good (l := []) (fun _ h => absurd h List.not_mem_nil) kc_M_observe
def w_M_price0 : List Cond := Cond.code y_M_price0 b_M_price0 1 (some .int) :: gA
theorem kc_M_price0 : Cond.code y_M_price0 b_M_price0 1 (some .int) ∈ gA := kw676
theorem gn_M_price0 : GoodIn gA w_M_price0 := gA_good (l := []) (fun _ h => absurd h List.not_mem_nil) kc_M_price0
def w_M_step : List Cond := Cond.code y_M_step b_M_step 1 (some .int) :: gA
theorem kc_M_step : Cond.code y_M_step b_M_step 1 (some .int) ∈ gA := kw680
theorem gn_M_step : GoodIn gA w_M_step := gA_good (l := []) (fun _ h => absurd h List.not_mem_nil) kc_M_step
def w_M_depth : List Cond := Cond.code y_M_depth b_M_depth 1 (some .int) :: gA
theorem kc_M_depth : Cond.code y_M_depth b_M_depth 1 (some .int) ∈ gA := kw684
theorem gn_M_depth : GoodIn gA w_M_depth := gA_good (l := []) (fun _ h => absurd h List.not_mem_nil) kc_M_depth
def w_M_wallet : List Cond := Cond.code y_M_wallet b_M_wallet 3 (some .long) :: gA
theorem kc_M_wallet : Cond.code y_M_wallet b_M_wallet 3 (some .long) ∈ gA := kw688
theorem gn_M_wallet : GoodIn gA w_M_wallet := gA_good (l := []) (fun _ h => absurd h List.not_mem_nil) kc_M_wallet
def w_M_reserve : List Cond := Cond.code y_M_reserve b_M_reserve 2 (some .long) :: gA
theorem kc_M_reserve : Cond.code y_M_reserve b_M_reserve 2 (some .long) ∈ gA := kw692
theorem gn_M_reserve : GoodIn gA w_M_reserve := gA_good (l := []) (fun _ h => absurd h List.not_mem_nil) kc_M_reserve
def w_M_lot : List Cond := Cond.code y_M_lot b_M_lot 6 (some .long) :: gA
theorem kc_M_lot : Cond.code y_M_lot b_M_lot 6 (some .long) ∈ gA := kw696
theorem gn_M_lot : GoodIn gA w_M_lot := gA_good (l := []) (fun _ h => absurd h List.not_mem_nil) kc_M_lot
def w_M_net : List Cond := Cond.code y_M_net b_M_net 5 (some .int) :: gA
theorem kc_M_net : Cond.code y_M_net b_M_net 5 (some .int) ∈ gA := kw700
theorem gn_M_net : GoodIn gA w_M_net := gA_good (l := []) (fun _ h => absurd h List.not_mem_nil) kc_M_net
def F_H : u_T := fun k => match k with
  | 0 => ("RangedPool$History", "clock", "J", false)
  | 1 => ("RangedPool$History", "sum", "J", false)
  | 2 => ("RangedPool$History", "marks", "I", false)
  | 3 => ("RangedPool$History", "times", "[J", true)
  | 4 => ("RangedPool$History", "sums", "[J", true)
  | _ => ("RangedPool$History", "stepsBefore", "[I", true)
def yt_H : Nat → FieldType := fun k => match k with
  | 0 => .long
  | 1 => .long
  | 2 => .int
  | 3 => (.array .long)
  | 4 => (.array .long)
  | _ => (.array .int)
theorem n_H : ∀ a, a < 6 → ∀ b, b < 6 → a ≠ b → (F_H a).2.1 ≠ (F_H b).2.1 := by decide +kernel
theorem yt_H_ok : ∀ k, k < 6 → parseFieldDescriptor (F_H k).2.2.1 = some (yt_H k) := by decide +kernel
theorem in_H : ∀ w ∈ u_ws "RangedPool$History" F_H 6, w ∈ gA := by decide +kernel
def F_T : u_T := fun k => match k with
  | 0 => ("RangedPool$Lot", "owner", "I", false)
  | 1 => ("RangedPool$Lot", "lo", "I", false)
  | 2 => ("RangedPool$Lot", "hi", "I", false)
  | 3 => ("RangedPool$Lot", "liquidity", "J", false)
  | 4 => ("RangedPool$Lot", "owed", "[J", true)
  | 5 => ("RangedPool$Lot", "growth", "[J", true)
  | _ => ("RangedPool$Lot", "pending", "J", false)
def yt_T : Nat → FieldType := fun k => match k with
  | 0 => .int
  | 1 => .int
  | 2 => .int
  | 3 => .long
  | 4 => (.array .long)
  | 5 => (.array .long)
  | _ => .long
theorem n_T : ∀ a, a < 7 → ∀ b, b < 7 → a ≠ b → (F_T a).2.1 ≠ (F_T b).2.1 := by decide +kernel
theorem yt_T_ok : ∀ k, k < 7 → parseFieldDescriptor (F_T k).2.2.1 = some (yt_T k) := by decide +kernel
theorem in_T : ∀ w ∈ u_ws "RangedPool$Lot" F_T 7, w ∈ gA := by decide +kernel
def F_B : u_T := fun k => match k with
  | _ => ("RangedPool$LotBook", "lots", "[LRangedPool$Lot;", true)
def yt_B : Nat → FieldType := fun k => match k with
  | _ => (.array (.object "RangedPool$Lot"))
theorem n_B : ∀ a, a < 1 → ∀ b, b < 1 → a ≠ b → (F_B a).2.1 ≠ (F_B b).2.1 := by decide +kernel
theorem yt_B_ok : ∀ k, k < 1 → parseFieldDescriptor (F_B k).2.2.1 = some (yt_B k) := by decide +kernel
theorem in_B : ∀ w ∈ u_ws "RangedPool$LotBook" F_B 1, w ∈ gA := by decide +kernel
def F_D : u_T := fun k => match k with
  | 0 => ("RangedPool$Trade", "fee", "I", true)
  | 1 => ("RangedPool$Trade", "down", "Z", false)
  | 2 => ("RangedPool$Trade", "limit", "I", false)
  | 3 => ("RangedPool$Trade", "left", "J", false)
  | 4 => ("RangedPool$Trade", "price", "I", false)
  | 5 => ("RangedPool$Trade", "step", "I", false)
  | 6 => ("RangedPool$Trade", "paid", "J", false)
  | _ => ("RangedPool$Trade", "given", "J", false)
def yt_D : Nat → FieldType := fun k => match k with
  | 0 => .int
  | 1 => .boolean
  | 2 => .int
  | 3 => .long
  | 4 => .int
  | 5 => .int
  | 6 => .long
  | _ => .long
theorem n_D : ∀ a, a < 8 → ∀ b, b < 8 → a ≠ b → (F_D a).2.1 ≠ (F_D b).2.1 := by decide +kernel
theorem yt_D_ok : ∀ k, k < 8 → parseFieldDescriptor (F_D k).2.2.1 = some (yt_D k) := by decide +kernel
theorem in_D : ∀ w ∈ u_ws "RangedPool$Trade" F_D 8, w ∈ gA := by decide +kernel
def F_P : u_T := fun k => match k with
  | 0 => ("RangedPool", "spacing", "I", true)
  | 1 => ("RangedPool", "fee", "I", true)
  | 2 => ("RangedPool", "wallets", "[[J", true)
  | 3 => ("RangedPool", "reserves", "[J", true)
  | 4 => ("RangedPool", "book", "LRangedPool$LotBook;", true)
  | 5 => ("RangedPool", "history", "LRangedPool$History;", true)
  | 6 => ("RangedPool", "trade", "LRangedPool$Trade;", true)
  | 7 => ("RangedPool", "opened", "Z", false)
  | 8 => ("RangedPool", "currentPrice", "I", false)
  | _ => ("RangedPool", "currentStep", "I", false)
def yt_P : Nat → FieldType := fun k => match k with
  | 0 => .int
  | 1 => .int
  | 2 => (.array (.array .long))
  | 3 => (.array .long)
  | 4 => (.object "RangedPool$LotBook")
  | 5 => (.object "RangedPool$History")
  | 6 => (.object "RangedPool$Trade")
  | 7 => .boolean
  | 8 => .int
  | _ => .int
theorem n_P : ∀ a, a < 10 → ∀ b, b < 10 → a ≠ b → (F_P a).2.1 ≠ (F_P b).2.1 := by decide +kernel
theorem yt_P_ok : ∀ k, k < 10 → parseFieldDescriptor (F_P k).2.2.1 = some (yt_P k) := by decide +kernel
theorem in_P : ∀ w ∈ u_ws "RangedPool" F_P 10, w ∈ gA := by decide +kernel
def F_M : u_T := fun k => match k with
  | 0 => ("RangedPoolModel", "spacing", "I", true)
  | 1 => ("RangedPoolModel", "fee", "I", true)
  | 2 => ("RangedPoolModel", "steps", "[J", true)
  | 3 => ("RangedPoolModel", "open", "Z", false)
  | 4 => ("RangedPoolModel", "p", "J", false)
  | 5 => ("RangedPoolModel", "c", "I", false)
  | 6 => ("RangedPoolModel", "wallets", "[J", true)
  | 7 => ("RangedPoolModel", "reserves", "[J", true)
  | 8 => ("RangedPoolModel", "there", "[Z", true)
  | 9 => ("RangedPoolModel", "owners", "[I", true)
  | 10 => ("RangedPoolModel", "lows", "[I", true)
  | 11 => ("RangedPoolModel", "highs", "[I", true)
  | 12 => ("RangedPoolModel", "liquidity", "[J", true)
  | 13 => ("RangedPoolModel", "owed", "[J", true)
  | 14 => ("RangedPoolModel", "growth", "[J", true)
  | 15 => ("RangedPoolModel", "clock", "J", false)
  | 16 => ("RangedPoolModel", "sum", "J", false)
  | 17 => ("RangedPoolModel", "marks", "I", false)
  | 18 => ("RangedPoolModel", "markTime", "[J", true)
  | 19 => ("RangedPoolModel", "markSum", "[J", true)
  | 20 => ("RangedPoolModel", "swapP", "J", false)
  | 21 => ("RangedPoolModel", "swapC", "I", false)
  | 22 => ("RangedPoolModel", "left", "J", false)
  | 23 => ("RangedPoolModel", "paid", "J", false)
  | 24 => ("RangedPoolModel", "out", "J", false)
  | _ => ("RangedPoolModel", "rise", "[J", true)
def yt_M : Nat → FieldType := fun k => match k with
  | 0 => .int
  | 1 => .int
  | 2 => (.array .long)
  | 3 => .boolean
  | 4 => .long
  | 5 => .int
  | 6 => (.array .long)
  | 7 => (.array .long)
  | 8 => (.array .boolean)
  | 9 => (.array .int)
  | 10 => (.array .int)
  | 11 => (.array .int)
  | 12 => (.array .long)
  | 13 => (.array .long)
  | 14 => (.array .long)
  | 15 => .long
  | 16 => .long
  | 17 => .int
  | 18 => (.array .long)
  | 19 => (.array .long)
  | 20 => .long
  | 21 => .int
  | 22 => .long
  | 23 => .long
  | 24 => .long
  | _ => (.array .long)
theorem n_M : ∀ a, a < 26 → ∀ b, b < 26 → a ≠ b → (F_M a).2.1 ≠ (F_M b).2.1 := by decide +kernel
theorem yt_M_ok : ∀ k, k < 26 → parseFieldDescriptor (F_M k).2.2.1 = some (yt_M k) := by decide +kernel
theorem in_M : ∀ w ∈ u_ws "RangedPoolModel" F_M 26, w ∈ gA := by decide +kernel
abbrev cls : List vw_C := [("RangedPool$History", F_H, 6), ("RangedPool$Lot", F_T, 7), ("RangedPool$LotBook", F_B, 1), ("RangedPool$Trade", F_D, 8), ("RangedPool", F_P, 10), ("RangedPoolModel", F_M, 26)]
def x_nest : List Cond := [Cond.methodLinkNest "RangedPool" 20 y_B_init "RangedPool", Cond.methodLinkNest "RangedPool$LotBook" 17 y_T_init "RangedPool", Cond.fieldLinkNest "RangedPool$LotBook" 38 "RangedPool$Lot" "lo" "I" "RangedPool", Cond.fieldLinkNest "RangedPool$LotBook" 42 "RangedPool$Lot" "hi" "I" "RangedPool", Cond.fieldLinkNest "RangedPool$LotBook" 30 "RangedPool$Lot" "liquidity" "J" "RangedPool", Cond.fieldLinkNest "RangedPool" 130 "RangedPool$Lot" "liquidity" "J" "RangedPool", Cond.fieldLinkNest "RangedPool" 143 "RangedPool$Lot" "owed" "[J" "RangedPool", Cond.fieldLinkNest "RangedPool$LotBook" 54 "RangedPool$Lot" "growth" "[J" "RangedPool", Cond.fieldLinkNest "RangedPool$LotBook" 45 "RangedPool$Lot" "pending" "J" "RangedPool", Cond.methodLinkNest "RangedPool" 27 y_H_init "RangedPool", Cond.fieldLinkNest "RangedPool" 201 "RangedPool$History" "clock" "J" "RangedPool", Cond.methodLinkNest "RangedPool" 45 y_D_init "RangedPool", Cond.fieldLinkNest "RangedPool" 175 "RangedPool$Trade" "price" "I" "RangedPool", Cond.fieldLinkNest "RangedPool" 178 "RangedPool$Trade" "step" "I" "RangedPool", Cond.fieldLinkNest "RangedPool" 162 "RangedPool$Trade" "paid" "J" "RangedPool", Cond.fieldLinkNest "RangedPool" 169 "RangedPool$Trade" "given" "J" "RangedPool", Cond.methodLinkNest "RangedPool" 69 y_H_mark "RangedPool", Cond.methodLinkNest "RangedPool" 88 y_B_findOrFree "RangedPool", Cond.methodLinkNest "RangedPool$LotBook" 18 y_T_isThere "RangedPool", Cond.methodLinkNest "RangedPool$LotBook" 22 y_T_isFor "RangedPool", Cond.methodLinkNest "RangedPool" 92 y_B_totalLiquidity "RangedPool", Cond.methodLinkNest "RangedPool" 117 y_T_isThere "RangedPool", Cond.methodLinkNest "RangedPool" 123 y_T_begin "RangedPool", Cond.methodLinkNest "RangedPool" 127 y_T_settle "RangedPool", Cond.methodLinkNest "RangedPool" 138 y_B_find "RangedPool", Cond.methodLinkNest "RangedPool" 150 y_D_startAt "RangedPool", Cond.methodLinkNest "RangedPool" 154 y_D_workOut "RangedPool", Cond.methodLinkNest "RangedPool$Trade" 38 y_B_clearPendingGrowth "RangedPool", Cond.methodLinkNest "RangedPool$Trade" 47 y_B_markedAtOrBelow "RangedPool", Cond.methodLinkNest "RangedPool$Trade" 51 y_B_markedAbove "RangedPool", Cond.methodLinkNest "RangedPool$Trade" 95 y_P_priceOf "RangedPool", Cond.methodLinkNest "RangedPool$Trade" 57 y_B_depthAt "RangedPool", Cond.methodLinkNest "RangedPool$LotBook" 34 y_T_isInRange "RangedPool", Cond.methodLinkNest "RangedPool$Trade" 106 y_P_zeroBetween "RangedPool", Cond.methodLinkNest "RangedPool$Trade" 110 y_P_oneBetween "RangedPool", Cond.methodLinkNest "RangedPool$Trade" 83 y_P_quotient "RangedPool", Cond.methodLinkNest "RangedPool$Trade" 87 y_B_growPending "RangedPool", Cond.methodLinkNest "RangedPool$LotBook" 50 y_P_quotient "RangedPool", Cond.methodLinkNest "RangedPool$Trade" 113 y_P_greatestStepAt "RangedPool", Cond.methodLinkNest "RangedPool" 158 y_D_tokenIn "RangedPool", Cond.methodLinkNest "RangedPool" 172 y_B_keepPendingGrowth "RangedPool", Cond.methodLinkNest "RangedPool" 181 y_B_depthAt "RangedPool", Cond.methodLinkNest "RangedPool" 218 y_B_clearPendingGrowth "RangedPool", Cond.methodLinkNest "RangedPool" 221 y_B_growPending "RangedPool", Cond.methodLinkNest "RangedPool" 197 y_H_tick "RangedPool", Cond.methodLinkNest "RangedPool" 204 y_H_reaches "RangedPool", Cond.methodLinkNest "RangedPool" 208 y_H_sumAt "RangedPool", Cond.methodLinkNest "RangedPool" 214 y_B_netAt "RangedPool"]
theorem nk20 : Cond.methodLinkNest "RangedPool" 20 y_B_init "RangedPool" ∈ x_nest := List.mem_of_getElem? (i := 0) rfl
theorem nk27 : Cond.methodLinkNest "RangedPool$LotBook" 17 y_T_init "RangedPool" ∈ x_nest := List.mem_of_getElem? (i := 1) rfl
theorem nk33 : Cond.fieldLinkNest "RangedPool$LotBook" 38 "RangedPool$Lot" "lo" "I" "RangedPool" ∈ x_nest := List.mem_of_getElem? (i := 2) rfl
theorem nk35 : Cond.fieldLinkNest "RangedPool$LotBook" 42 "RangedPool$Lot" "hi" "I" "RangedPool" ∈ x_nest := List.mem_of_getElem? (i := 3) rfl
theorem nk37 : Cond.fieldLinkNest "RangedPool$LotBook" 30 "RangedPool$Lot" "liquidity" "J" "RangedPool" ∈ x_nest := List.mem_of_getElem? (i := 4) rfl
theorem nk38 : Cond.fieldLinkNest "RangedPool" 130 "RangedPool$Lot" "liquidity" "J" "RangedPool" ∈ x_nest := List.mem_of_getElem? (i := 5) rfl
theorem nk40 : Cond.fieldLinkNest "RangedPool" 143 "RangedPool$Lot" "owed" "[J" "RangedPool" ∈ x_nest := List.mem_of_getElem? (i := 6) rfl
theorem nk42 : Cond.fieldLinkNest "RangedPool$LotBook" 54 "RangedPool$Lot" "growth" "[J" "RangedPool" ∈ x_nest := List.mem_of_getElem? (i := 7) rfl
theorem nk43 : Cond.fieldLinkNest "RangedPool$LotBook" 45 "RangedPool$Lot" "pending" "J" "RangedPool" ∈ x_nest := List.mem_of_getElem? (i := 8) rfl
theorem nk66 : Cond.methodLinkNest "RangedPool" 27 y_H_init "RangedPool" ∈ x_nest := List.mem_of_getElem? (i := 9) rfl
theorem nk71 : Cond.fieldLinkNest "RangedPool" 201 "RangedPool$History" "clock" "J" "RangedPool" ∈ x_nest := List.mem_of_getElem? (i := 10) rfl
theorem nk96 : Cond.methodLinkNest "RangedPool" 45 y_D_init "RangedPool" ∈ x_nest := List.mem_of_getElem? (i := 11) rfl
theorem nk105 : Cond.fieldLinkNest "RangedPool" 175 "RangedPool$Trade" "price" "I" "RangedPool" ∈ x_nest := List.mem_of_getElem? (i := 12) rfl
theorem nk107 : Cond.fieldLinkNest "RangedPool" 178 "RangedPool$Trade" "step" "I" "RangedPool" ∈ x_nest := List.mem_of_getElem? (i := 13) rfl
theorem nk109 : Cond.fieldLinkNest "RangedPool" 162 "RangedPool$Trade" "paid" "J" "RangedPool" ∈ x_nest := List.mem_of_getElem? (i := 14) rfl
theorem nk111 : Cond.fieldLinkNest "RangedPool" 169 "RangedPool$Trade" "given" "J" "RangedPool" ∈ x_nest := List.mem_of_getElem? (i := 15) rfl
theorem nk172 : Cond.methodLinkNest "RangedPool" 69 y_H_mark "RangedPool" ∈ x_nest := List.mem_of_getElem? (i := 16) rfl
theorem nk202 : Cond.methodLinkNest "RangedPool" 88 y_B_findOrFree "RangedPool" ∈ x_nest := List.mem_of_getElem? (i := 17) rfl
theorem nk210 : Cond.methodLinkNest "RangedPool$LotBook" 18 y_T_isThere "RangedPool" ∈ x_nest := List.mem_of_getElem? (i := 18) rfl
theorem nk214 : Cond.methodLinkNest "RangedPool$LotBook" 22 y_T_isFor "RangedPool" ∈ x_nest := List.mem_of_getElem? (i := 19) rfl
theorem nk218 : Cond.methodLinkNest "RangedPool" 92 y_B_totalLiquidity "RangedPool" ∈ x_nest := List.mem_of_getElem? (i := 20) rfl
theorem nk255 : Cond.methodLinkNest "RangedPool" 117 y_T_isThere "RangedPool" ∈ x_nest := List.mem_of_getElem? (i := 21) rfl
theorem nk256 : Cond.methodLinkNest "RangedPool" 123 y_T_begin "RangedPool" ∈ x_nest := List.mem_of_getElem? (i := 22) rfl
theorem nk260 : Cond.methodLinkNest "RangedPool" 127 y_T_settle "RangedPool" ∈ x_nest := List.mem_of_getElem? (i := 23) rfl
theorem nk273 : Cond.methodLinkNest "RangedPool" 138 y_B_find "RangedPool" ∈ x_nest := List.mem_of_getElem? (i := 24) rfl
theorem nk288 : Cond.methodLinkNest "RangedPool" 150 y_D_startAt "RangedPool" ∈ x_nest := List.mem_of_getElem? (i := 25) rfl
theorem nk292 : Cond.methodLinkNest "RangedPool" 154 y_D_workOut "RangedPool" ∈ x_nest := List.mem_of_getElem? (i := 26) rfl
theorem nk296 : Cond.methodLinkNest "RangedPool$Trade" 38 y_B_clearPendingGrowth "RangedPool" ∈ x_nest := List.mem_of_getElem? (i := 27) rfl
theorem nk304 : Cond.methodLinkNest "RangedPool$Trade" 47 y_B_markedAtOrBelow "RangedPool" ∈ x_nest := List.mem_of_getElem? (i := 28) rfl
theorem nk308 : Cond.methodLinkNest "RangedPool$Trade" 51 y_B_markedAbove "RangedPool" ∈ x_nest := List.mem_of_getElem? (i := 29) rfl
theorem nk316 : Cond.methodLinkNest "RangedPool$Trade" 95 y_P_priceOf "RangedPool" ∈ x_nest := List.mem_of_getElem? (i := 30) rfl
theorem nk323 : Cond.methodLinkNest "RangedPool$Trade" 57 y_B_depthAt "RangedPool" ∈ x_nest := List.mem_of_getElem? (i := 31) rfl
theorem nk327 : Cond.methodLinkNest "RangedPool$LotBook" 34 y_T_isInRange "RangedPool" ∈ x_nest := List.mem_of_getElem? (i := 32) rfl
theorem nk340 : Cond.methodLinkNest "RangedPool$Trade" 106 y_P_zeroBetween "RangedPool" ∈ x_nest := List.mem_of_getElem? (i := 33) rfl
theorem nk341 : Cond.methodLinkNest "RangedPool$Trade" 110 y_P_oneBetween "RangedPool" ∈ x_nest := List.mem_of_getElem? (i := 34) rfl
theorem nk343 : Cond.methodLinkNest "RangedPool$Trade" 83 y_P_quotient "RangedPool" ∈ x_nest := List.mem_of_getElem? (i := 35) rfl
theorem nk355 : Cond.methodLinkNest "RangedPool$Trade" 87 y_B_growPending "RangedPool" ∈ x_nest := List.mem_of_getElem? (i := 36) rfl
theorem nk360 : Cond.methodLinkNest "RangedPool$LotBook" 50 y_P_quotient "RangedPool" ∈ x_nest := List.mem_of_getElem? (i := 37) rfl
theorem nk365 : Cond.methodLinkNest "RangedPool$Trade" 113 y_P_greatestStepAt "RangedPool" ∈ x_nest := List.mem_of_getElem? (i := 38) rfl
theorem nk368 : Cond.methodLinkNest "RangedPool" 158 y_D_tokenIn "RangedPool" ∈ x_nest := List.mem_of_getElem? (i := 39) rfl
theorem nk372 : Cond.methodLinkNest "RangedPool" 172 y_B_keepPendingGrowth "RangedPool" ∈ x_nest := List.mem_of_getElem? (i := 40) rfl
theorem nk384 : Cond.methodLinkNest "RangedPool" 181 y_B_depthAt "RangedPool" ∈ x_nest := List.mem_of_getElem? (i := 41) rfl
theorem nk394 : Cond.methodLinkNest "RangedPool" 218 y_B_clearPendingGrowth "RangedPool" ∈ x_nest := List.mem_of_getElem? (i := 42) rfl
theorem nk395 : Cond.methodLinkNest "RangedPool" 221 y_B_growPending "RangedPool" ∈ x_nest := List.mem_of_getElem? (i := 43) rfl
theorem nk400 : Cond.methodLinkNest "RangedPool" 197 y_H_tick "RangedPool" ∈ x_nest := List.mem_of_getElem? (i := 44) rfl
theorem nk408 : Cond.methodLinkNest "RangedPool" 204 y_H_reaches "RangedPool" ∈ x_nest := List.mem_of_getElem? (i := 45) rfl
theorem nk412 : Cond.methodLinkNest "RangedPool" 208 y_H_sumAt "RangedPool" ∈ x_nest := List.mem_of_getElem? (i := 46) rfl
theorem nk445 : Cond.methodLinkNest "RangedPool" 214 y_B_netAt "RangedPool" ∈ x_nest := List.mem_of_getElem? (i := 47) rfl
theorem x_nest_in : ∀ w ∈ x_nest, w ∈ lw_tbl := by decide +kernel
theorem gc_P_32 : GoodIn gA (va_wsS "RangedPool" 32 y_P_isSpacing w_P_isSpacing) := gA_good (List.forall_mem_cons.mpr ⟨kw91, List.forall_mem_cons.mpr ⟨kw92, List.forall_mem_cons.mpr ⟨kw1, fun _ h => absurd h List.not_mem_nil⟩⟩⟩) kc_P_isSpacing
theorem gc_P_56 : GoodIn gA (va_wsS "RangedPool" 56 y_P_isStep w_P_isStep) := gA_good (List.forall_mem_cons.mpr ⟨kw164, List.forall_mem_cons.mpr ⟨kw165, List.forall_mem_cons.mpr ⟨kw1, fun _ h => absurd h List.not_mem_nil⟩⟩⟩) kc_P_isStep
theorem gc_P_59 : GoodIn gA (va_wsS "RangedPool" 59 y_P_priceOf w_P_priceOf) := gA_good (List.forall_mem_cons.mpr ⟨kw167, List.forall_mem_cons.mpr ⟨kw168, List.forall_mem_cons.mpr ⟨kw1, fun _ h => absurd h List.not_mem_nil⟩⟩⟩) kc_P_priceOf
theorem gc_P_72 : GoodIn gA (va_wsS "RangedPool" 72 y_P_isOwner w_P_isOwner) := gA_good (List.forall_mem_cons.mpr ⟨kw184, List.forall_mem_cons.mpr ⟨kw185, List.forall_mem_cons.mpr ⟨kw1, fun _ h => absurd h List.not_mem_nil⟩⟩⟩) kc_P_isOwner
theorem gc_P_75 : GoodIn gA (va_wsS "RangedPool" 75 y_P_isToken w_P_isToken) := gA_good (List.forall_mem_cons.mpr ⟨kw187, List.forall_mem_cons.mpr ⟨kw188, List.forall_mem_cons.mpr ⟨kw1, fun _ h => absurd h List.not_mem_nil⟩⟩⟩) kc_P_isToken
theorem gc_P_81 : GoodIn gA (wsV "RangedPool" 81 "RangedPool" y_P_isRange w_P_isRange) := gA_good (List.forall_mem_cons.mpr ⟨kw196, List.forall_mem_cons.mpr ⟨kw198, List.forall_mem_cons.mpr ⟨ks2, List.forall_mem_cons.mpr ⟨kw1, fun _ h => absurd h List.not_mem_nil⟩⟩⟩⟩) kc_P_isRange
theorem gc_P_100 : GoodIn gA (wsV "RangedPool" 100 "RangedPool" y_P_zeroOfRange w_P_zeroOfRange) := gA_good (List.forall_mem_cons.mpr ⟨kw224, List.forall_mem_cons.mpr ⟨kw226, List.forall_mem_cons.mpr ⟨ks8, List.forall_mem_cons.mpr ⟨kw1, fun _ h => absurd h List.not_mem_nil⟩⟩⟩⟩) kc_P_zeroOfRange
theorem gc_P_104 : GoodIn gA (wsV "RangedPool" 104 "RangedPool" y_P_oneOfRange w_P_oneOfRange) := gA_good (List.forall_mem_cons.mpr ⟨kw235, List.forall_mem_cons.mpr ⟨kw237, List.forall_mem_cons.mpr ⟨ks9, List.forall_mem_cons.mpr ⟨kw1, fun _ h => absurd h List.not_mem_nil⟩⟩⟩⟩) kc_P_oneOfRange
theorem gc_P_107 : GoodIn gA (wsV "RangedPool" 107 "RangedPool" y_P_canPay w_P_canPay) := gA_good (List.forall_mem_cons.mpr ⟨kw242, List.forall_mem_cons.mpr ⟨kw244, List.forall_mem_cons.mpr ⟨ks10, List.forall_mem_cons.mpr ⟨kw1, fun _ h => absurd h List.not_mem_nil⟩⟩⟩⟩) kc_P_canPay
theorem gc_P_113 : GoodIn gA (wsV "RangedPool" 113 "RangedPool" y_P_pay w_P_pay) := gA_good (List.forall_mem_cons.mpr ⟨kw247, List.forall_mem_cons.mpr ⟨kw249, List.forall_mem_cons.mpr ⟨ks11, List.forall_mem_cons.mpr ⟨kw1, fun _ h => absurd h List.not_mem_nil⟩⟩⟩⟩) kc_P_pay
theorem gc_P_134 : GoodIn gA (va_wsS "RangedPool" 134 y_P_pair w_P_pair) := gA_good (List.forall_mem_cons.mpr ⟨kw265, List.forall_mem_cons.mpr ⟨kw266, List.forall_mem_cons.mpr ⟨kw1, fun _ h => absurd h List.not_mem_nil⟩⟩⟩) kc_P_pair
theorem gc_P_146 : GoodIn gA (wsV "RangedPool" 146 "RangedPool" y_P_isTrade w_P_isTrade) := gA_good (List.forall_mem_cons.mpr ⟨kw283, List.forall_mem_cons.mpr ⟨kw285, List.forall_mem_cons.mpr ⟨ks15, List.forall_mem_cons.mpr ⟨kw1, fun _ h => absurd h List.not_mem_nil⟩⟩⟩⟩) kc_P_isTrade
theorem gc_P_165 : GoodIn gA (wsV "RangedPool" 165 "RangedPool" y_P_transfer w_P_transfer) := gA_good (List.forall_mem_cons.mpr ⟨kw251, List.forall_mem_cons.mpr ⟨kw253, List.forall_mem_cons.mpr ⟨ks12, List.forall_mem_cons.mpr ⟨kw1, fun _ h => absurd h List.not_mem_nil⟩⟩⟩⟩) kc_P_transfer
theorem gc_P_185 : GoodIn gA (wsV "RangedPool" 185 "RangedPool" y_P_canLend w_P_canLend) := gA_good (List.forall_mem_cons.mpr ⟨kw385, List.forall_mem_cons.mpr ⟨kw387, List.forall_mem_cons.mpr ⟨ks33, List.forall_mem_cons.mpr ⟨kw1, fun _ h => absurd h List.not_mem_nil⟩⟩⟩⟩) kc_P_canLend
theorem gc_P_190 : GoodIn gA (va_wsS "RangedPool" 190 y_P_quotient w_P_quotient) := gA_good (List.forall_mem_cons.mpr ⟨kw232, List.forall_mem_cons.mpr ⟨kw233, List.forall_mem_cons.mpr ⟨kw1, fun _ h => absurd h List.not_mem_nil⟩⟩⟩) kc_P_quotient
theorem gc_P_194 : GoodIn gA (wsV "RangedPool" 194 "RangedPool" y_P_takeFee w_P_takeFee) := gA_good (List.forall_mem_cons.mpr ⟨kw390, List.forall_mem_cons.mpr ⟨kw392, List.forall_mem_cons.mpr ⟨ks34, List.forall_mem_cons.mpr ⟨kw1, fun _ h => absurd h List.not_mem_nil⟩⟩⟩⟩) kc_P_takeFee
theorem gc_P_224 : GoodIn gA (va_wsS "RangedPool" 224 y_P_zeroBetween w_P_zeroBetween) := gA_good (List.forall_mem_cons.mpr ⟨kw228, List.forall_mem_cons.mpr ⟨kw229, List.forall_mem_cons.mpr ⟨kw1, fun _ h => absurd h List.not_mem_nil⟩⟩⟩) kc_P_zeroBetween
theorem gc_P_228 : GoodIn gA (va_wsS "RangedPool" 228 y_P_oneBetween w_P_oneBetween) := gA_good (List.forall_mem_cons.mpr ⟨kw239, List.forall_mem_cons.mpr ⟨kw240, List.forall_mem_cons.mpr ⟨kw1, fun _ h => absurd h List.not_mem_nil⟩⟩⟩) kc_P_oneBetween
theorem gc_B_26 : GoodIn gA (wsV "RangedPool$LotBook" 26 "RangedPool$LotBook" y_B_find w_B_find) := gA_good (List.forall_mem_cons.mpr ⟨kw206, List.forall_mem_cons.mpr ⟨kw208, List.forall_mem_cons.mpr ⟨ks4, List.forall_mem_cons.mpr ⟨kw2, fun _ h => absurd h List.not_mem_nil⟩⟩⟩⟩) kc_B_find
theorem gc_D_43 : GoodIn gA (wsV "RangedPool$Trade" 43 "RangedPool$Trade" y_D_goOneLeg w_D_goOneLeg) := gA_good (List.forall_mem_cons.mpr ⟨kw300, List.forall_mem_cons.mpr ⟨kw302, List.forall_mem_cons.mpr ⟨ks19, List.forall_mem_cons.mpr ⟨kw5, fun _ h => absurd h List.not_mem_nil⟩⟩⟩⟩) kc_D_goOneLeg
theorem gc_D_54 : GoodIn gA (wsV "RangedPool$Trade" 54 "RangedPool$Trade" y_D_targetBefore w_D_targetBefore) := gA_good (List.forall_mem_cons.mpr ⟨kw312, List.forall_mem_cons.mpr ⟨kw314, List.forall_mem_cons.mpr ⟨ks22, List.forall_mem_cons.mpr ⟨kw5, fun _ h => absurd h List.not_mem_nil⟩⟩⟩⟩) kc_D_targetBefore
theorem gc_D_61 : GoodIn gA (wsV "RangedPool$Trade" 61 "RangedPool$Trade" y_D_priceAfterPaying w_D_priceAfterPaying) := gA_good (List.forall_mem_cons.mpr ⟨kw331, List.forall_mem_cons.mpr ⟨kw333, List.forall_mem_cons.mpr ⟨ks25, List.forall_mem_cons.mpr ⟨kw5, fun _ h => absurd h List.not_mem_nil⟩⟩⟩⟩) kc_D_priceAfterPaying
theorem gc_D_65 : GoodIn gA (wsV "RangedPool$Trade" 65 "RangedPool$Trade" y_D_priceAfterTaking w_D_priceAfterTaking) := gA_good (List.forall_mem_cons.mpr ⟨kw344, List.forall_mem_cons.mpr ⟨kw346, List.forall_mem_cons.mpr ⟨ks27, List.forall_mem_cons.mpr ⟨kw5, fun _ h => absurd h List.not_mem_nil⟩⟩⟩⟩) kc_D_priceAfterTaking
theorem gc_D_68 : GoodIn gA (wsV "RangedPool$Trade" 68 "RangedPool$Trade" y_D_amountIn w_D_amountIn) := gA_good (List.forall_mem_cons.mpr ⟨kw336, List.forall_mem_cons.mpr ⟨kw338, List.forall_mem_cons.mpr ⟨ks26, List.forall_mem_cons.mpr ⟨kw5, fun _ h => absurd h List.not_mem_nil⟩⟩⟩⟩) kc_D_amountIn
theorem gc_D_72 : GoodIn gA (wsV "RangedPool$Trade" 72 "RangedPool$Trade" y_D_amountOut w_D_amountOut) := gA_good (List.forall_mem_cons.mpr ⟨kw348, List.forall_mem_cons.mpr ⟨kw350, List.forall_mem_cons.mpr ⟨ks28, List.forall_mem_cons.mpr ⟨kw5, fun _ h => absurd h List.not_mem_nil⟩⟩⟩⟩) kc_D_amountOut
theorem gc_D_91 : GoodIn gA (wsV "RangedPool$Trade" 91 "RangedPool$Trade" y_D_moveTo w_D_moveTo) := gA_good (List.forall_mem_cons.mpr ⟨kw361, List.forall_mem_cons.mpr ⟨kw363, List.forall_mem_cons.mpr ⟨ks30, List.forall_mem_cons.mpr ⟨kw5, fun _ h => absurd h List.not_mem_nil⟩⟩⟩⟩) kc_D_moveTo
theorem gc_H_33 : GoodIn gA (wsV "RangedPool$History" 33 "RangedPool$History" y_H_dropOldest w_H_dropOldest) := gA_good (List.forall_mem_cons.mpr ⟨kw176, List.forall_mem_cons.mpr ⟨kw178, List.forall_mem_cons.mpr ⟨ks1, List.forall_mem_cons.mpr ⟨kw4, fun _ h => absurd h List.not_mem_nil⟩⟩⟩⟩) kc_H_dropOldest
theorem gc_M_64 : GoodIn gA (va_wsS "RangedPoolModel" 64 y_M_quotient w_M_quotient) := gA_good (List.forall_mem_cons.mpr ⟨kw588, List.forall_mem_cons.mpr ⟨kw589, List.forall_mem_cons.mpr ⟨kw6, fun _ h => absurd h List.not_mem_nil⟩⟩⟩) kc_M_quotient
theorem gc_M_82 : GoodIn gA (va_wsS "RangedPoolModel" 82 y_M_isStep w_M_isStep) := gA_good (List.forall_mem_cons.mpr ⟨kw545, List.forall_mem_cons.mpr ⟨kw546, List.forall_mem_cons.mpr ⟨kw6, fun _ h => absurd h List.not_mem_nil⟩⟩⟩) kc_M_isStep
theorem gc_M_89 : GoodIn gA (wsV "RangedPoolModel" 89 "RangedPoolModel" y_M_price w_M_price) := gA_good (List.forall_mem_cons.mpr ⟨kw548, List.forall_mem_cons.mpr ⟨kw550, List.forall_mem_cons.mpr ⟨ks39, List.forall_mem_cons.mpr ⟨kw6, fun _ h => absurd h List.not_mem_nil⟩⟩⟩⟩) kc_M_price
theorem gc_M_96 : GoodIn gA (wsV "RangedPoolModel" 96 "RangedPoolModel" y_M_note w_M_note) := gA_good (List.forall_mem_cons.mpr ⟨kw552, List.forall_mem_cons.mpr ⟨kw554, List.forall_mem_cons.mpr ⟨ks40, List.forall_mem_cons.mpr ⟨kw6, fun _ h => absurd h List.not_mem_nil⟩⟩⟩⟩) kc_M_note
theorem gc_M_99 : GoodIn gA (va_wsS "RangedPoolModel" 99 y_M_isOwner w_M_isOwner) := gA_good (List.forall_mem_cons.mpr ⟨kw560, List.forall_mem_cons.mpr ⟨kw561, List.forall_mem_cons.mpr ⟨kw6, fun _ h => absurd h List.not_mem_nil⟩⟩⟩) kc_M_isOwner
theorem gc_M_105 : GoodIn gA (va_wsS "RangedPoolModel" 105 y_M_zero w_M_zero) := gA_good (List.forall_mem_cons.mpr ⟨kw585, List.forall_mem_cons.mpr ⟨kw586, List.forall_mem_cons.mpr ⟨kw6, fun _ h => absurd h List.not_mem_nil⟩⟩⟩) kc_M_zero
theorem gc_M_109 : GoodIn gA (va_wsS "RangedPoolModel" 109 y_M_one w_M_one) := gA_good (List.forall_mem_cons.mpr ⟨kw595, List.forall_mem_cons.mpr ⟨kw596, List.forall_mem_cons.mpr ⟨kw6, fun _ h => absurd h List.not_mem_nil⟩⟩⟩) kc_M_one
theorem gc_M_114 : GoodIn gA (wsV "RangedPoolModel" 114 "RangedPoolModel" y_M_isRange w_M_isRange) := gA_good (List.forall_mem_cons.mpr ⟨kw569, List.forall_mem_cons.mpr ⟨kw571, List.forall_mem_cons.mpr ⟨ks41, List.forall_mem_cons.mpr ⟨kw6, fun _ h => absurd h List.not_mem_nil⟩⟩⟩⟩) kc_M_isRange
theorem gc_M_121 : GoodIn gA (wsV "RangedPoolModel" 121 "RangedPoolModel" y_M_find w_M_find) := gA_good (List.forall_mem_cons.mpr ⟨kw575, List.forall_mem_cons.mpr ⟨kw577, List.forall_mem_cons.mpr ⟨ks42, List.forall_mem_cons.mpr ⟨kw6, fun _ h => absurd h List.not_mem_nil⟩⟩⟩⟩) kc_M_find
theorem gc_M_129 : GoodIn gA (wsV "RangedPoolModel" 129 "RangedPoolModel" y_M_worthZero w_M_worthZero) := gA_good (List.forall_mem_cons.mpr ⟨kw581, List.forall_mem_cons.mpr ⟨kw583, List.forall_mem_cons.mpr ⟨ks43, List.forall_mem_cons.mpr ⟨kw6, fun _ h => absurd h List.not_mem_nil⟩⟩⟩⟩) kc_M_worthZero
theorem gc_M_133 : GoodIn gA (wsV "RangedPoolModel" 133 "RangedPoolModel" y_M_worthOne w_M_worthOne) := gA_good (List.forall_mem_cons.mpr ⟨kw591, List.forall_mem_cons.mpr ⟨kw593, List.forall_mem_cons.mpr ⟨ks44, List.forall_mem_cons.mpr ⟨kw6, fun _ h => absurd h List.not_mem_nil⟩⟩⟩⟩) kc_M_worthOne
theorem gc_M_138 : GoodIn gA (wsV "RangedPoolModel" 138 "RangedPoolModel" y_M_settle w_M_settle) := gA_good (List.forall_mem_cons.mpr ⟨kw599, List.forall_mem_cons.mpr ⟨kw601, List.forall_mem_cons.mpr ⟨ks45, List.forall_mem_cons.mpr ⟨kw6, fun _ h => absurd h List.not_mem_nil⟩⟩⟩⟩) kc_M_settle
theorem gc_M_142 : GoodIn gA (wsV "RangedPoolModel" 142 "RangedPoolModel" y_M_pay w_M_pay) := gA_good (List.forall_mem_cons.mpr ⟨kw604, List.forall_mem_cons.mpr ⟨kw606, List.forall_mem_cons.mpr ⟨ks46, List.forall_mem_cons.mpr ⟨kw6, fun _ h => absurd h List.not_mem_nil⟩⟩⟩⟩) kc_M_pay
theorem gc_M_148 : GoodIn gA (wsV "RangedPoolModel" 148 "RangedPoolModel" y_M_sweep w_M_sweep) := gA_good (List.forall_mem_cons.mpr ⟨kw613, List.forall_mem_cons.mpr ⟨kw615, List.forall_mem_cons.mpr ⟨ks47, List.forall_mem_cons.mpr ⟨kw6, fun _ h => absurd h List.not_mem_nil⟩⟩⟩⟩) kc_M_sweep
theorem gc_M_151 : GoodIn gA (wsV "RangedPoolModel" 151 "RangedPoolModel" y_M_marked w_M_marked) := gA_good (List.forall_mem_cons.mpr ⟨kw638, List.forall_mem_cons.mpr ⟨kw640, List.forall_mem_cons.mpr ⟨ks51, List.forall_mem_cons.mpr ⟨kw6, fun _ h => absurd h List.not_mem_nil⟩⟩⟩⟩) kc_M_marked
theorem gc_M_163 : GoodIn gA (wsV "RangedPoolModel" 163 "RangedPoolModel" y_M_nextStep w_M_nextStep) := gA_good (List.forall_mem_cons.mpr ⟨kw634, List.forall_mem_cons.mpr ⟨kw636, List.forall_mem_cons.mpr ⟨ks50, List.forall_mem_cons.mpr ⟨kw6, fun _ h => absurd h List.not_mem_nil⟩⟩⟩⟩) kc_M_nextStep
theorem gc_M_167 : GoodIn gA (wsV "RangedPoolModel" 167 "RangedPoolModel" y_M_depthAt w_M_depthAt) := gA_good (List.forall_mem_cons.mpr ⟨kw642, List.forall_mem_cons.mpr ⟨kw644, List.forall_mem_cons.mpr ⟨ks52, List.forall_mem_cons.mpr ⟨kw6, fun _ h => absurd h List.not_mem_nil⟩⟩⟩⟩) kc_M_depthAt
theorem gc_M_170 : GoodIn gA (va_wsS "RangedPoolModel" 170 y_M_in w_M_in) := gA_good (List.forall_mem_cons.mpr ⟨kw646, List.forall_mem_cons.mpr ⟨kw647, List.forall_mem_cons.mpr ⟨kw6, fun _ h => absurd h List.not_mem_nil⟩⟩⟩) kc_M_in
theorem gc_M_174 : GoodIn gA (va_wsS "RangedPoolModel" 174 y_M_goesOut w_M_goesOut) := gA_good (List.forall_mem_cons.mpr ⟨kw649, List.forall_mem_cons.mpr ⟨kw650, List.forall_mem_cons.mpr ⟨kw6, fun _ h => absurd h List.not_mem_nil⟩⟩⟩) kc_M_goesOut
theorem gc_M_177 : GoodIn gA (wsV "RangedPoolModel" 177 "RangedPoolModel" y_M_onTheWay w_M_onTheWay) := gA_good (List.forall_mem_cons.mpr ⟨kw652, List.forall_mem_cons.mpr ⟨kw654, List.forall_mem_cons.mpr ⟨ks53, List.forall_mem_cons.mpr ⟨kw6, fun _ h => absurd h List.not_mem_nil⟩⟩⟩⟩) kc_M_onTheWay
theorem gc_M_187 : GoodIn gA (wsV "RangedPoolModel" 187 "RangedPoolModel" y_M_leg w_M_leg) := gA_good (List.forall_mem_cons.mpr ⟨kw630, List.forall_mem_cons.mpr ⟨kw632, List.forall_mem_cons.mpr ⟨ks49, List.forall_mem_cons.mpr ⟨kw6, fun _ h => absurd h List.not_mem_nil⟩⟩⟩⟩) kc_M_leg
theorem gc_M_191 : GoodIn gA (wsV "RangedPoolModel" 191 "RangedPoolModel" y_M_work w_M_work) := gA_good (List.forall_mem_cons.mpr ⟨kw625, List.forall_mem_cons.mpr ⟨kw627, List.forall_mem_cons.mpr ⟨ks48, List.forall_mem_cons.mpr ⟨kw6, fun _ h => absurd h List.not_mem_nil⟩⟩⟩⟩) kc_M_work
theorem gc_L_9 : GoodIn gA (va_wsS "RangedPoolLaw" 9 y_L_cell w_L_cell) := gA_good (List.forall_mem_cons.mpr ⟨kw449, List.forall_mem_cons.mpr ⟨kw450, List.forall_mem_cons.mpr ⟨kw0, fun _ h => absurd h List.not_mem_nil⟩⟩⟩) kc_L_cell
theorem gc_L_21 : GoodIn gA (wsV "RangedPoolLaw" 21 "RangedPool" y_P_open w_P_open) := gA_good (List.forall_mem_cons.mpr ⟨kw160, List.forall_mem_cons.mpr ⟨kw161, List.forall_mem_cons.mpr ⟨kw162, List.forall_mem_cons.mpr ⟨kw1, fun _ h => absurd h List.not_mem_nil⟩⟩⟩⟩) kc_P_open
theorem gc_L_25 : GoodIn gA (wsV "RangedPoolLaw" 25 "RangedPoolModel" y_M_open w_M_open) := gA_good (List.forall_mem_cons.mpr ⟨kw541, List.forall_mem_cons.mpr ⟨kw542, List.forall_mem_cons.mpr ⟨kw543, List.forall_mem_cons.mpr ⟨kw6, fun _ h => absurd h List.not_mem_nil⟩⟩⟩⟩) kc_M_open
theorem gc_L_26 : GoodIn gA (wsV "RangedPoolLaw" 26 "RangedPool" y_P_fund w_P_fund) := gA_good (List.forall_mem_cons.mpr ⟨kw180, List.forall_mem_cons.mpr ⟨kw181, List.forall_mem_cons.mpr ⟨kw182, List.forall_mem_cons.mpr ⟨kw1, fun _ h => absurd h List.not_mem_nil⟩⟩⟩⟩) kc_P_fund
theorem gc_L_30 : GoodIn gA (wsV "RangedPoolLaw" 30 "RangedPoolModel" y_M_fund w_M_fund) := gA_good (List.forall_mem_cons.mpr ⟨kw556, List.forall_mem_cons.mpr ⟨kw557, List.forall_mem_cons.mpr ⟨kw558, List.forall_mem_cons.mpr ⟨kw6, fun _ h => absurd h List.not_mem_nil⟩⟩⟩⟩) kc_M_fund
theorem gc_L_31 : GoodIn gA (wsV "RangedPoolLaw" 31 "RangedPool" y_P_mint w_P_mint) := gA_good (List.forall_mem_cons.mpr ⟨kw191, List.forall_mem_cons.mpr ⟨kw192, List.forall_mem_cons.mpr ⟨kw193, List.forall_mem_cons.mpr ⟨kw1, fun _ h => absurd h List.not_mem_nil⟩⟩⟩⟩) kc_P_mint
theorem gc_L_35 : GoodIn gA (wsV "RangedPoolLaw" 35 "RangedPoolModel" y_M_mint w_M_mint) := gA_good (List.forall_mem_cons.mpr ⟨kw564, List.forall_mem_cons.mpr ⟨kw565, List.forall_mem_cons.mpr ⟨kw566, List.forall_mem_cons.mpr ⟨kw6, fun _ h => absurd h List.not_mem_nil⟩⟩⟩⟩) kc_M_mint
theorem gc_L_36 : GoodIn gA (wsV "RangedPoolLaw" 36 "RangedPool" y_P_burn w_P_burn) := gA_good (List.forall_mem_cons.mpr ⟨kw269, List.forall_mem_cons.mpr ⟨kw270, List.forall_mem_cons.mpr ⟨kw271, List.forall_mem_cons.mpr ⟨kw1, fun _ h => absurd h List.not_mem_nil⟩⟩⟩⟩) kc_P_burn
theorem gc_L_39 : GoodIn gA (wsV "RangedPoolLaw" 39 "RangedPoolModel" y_M_burn w_M_burn) := gA_good (List.forall_mem_cons.mpr ⟨kw608, List.forall_mem_cons.mpr ⟨kw609, List.forall_mem_cons.mpr ⟨kw610, List.forall_mem_cons.mpr ⟨kw6, fun _ h => absurd h List.not_mem_nil⟩⟩⟩⟩) kc_M_burn
theorem gc_L_40 : GoodIn gA (wsV "RangedPoolLaw" 40 "RangedPool" y_P_collect w_P_collect) := gA_good (List.forall_mem_cons.mpr ⟨kw275, List.forall_mem_cons.mpr ⟨kw276, List.forall_mem_cons.mpr ⟨kw277, List.forall_mem_cons.mpr ⟨kw1, fun _ h => absurd h List.not_mem_nil⟩⟩⟩⟩) kc_P_collect
theorem gc_L_44 : GoodIn gA (wsV "RangedPoolLaw" 44 "RangedPoolModel" y_M_collect w_M_collect) := gA_good (List.forall_mem_cons.mpr ⟨kw617, List.forall_mem_cons.mpr ⟨kw618, List.forall_mem_cons.mpr ⟨kw619, List.forall_mem_cons.mpr ⟨kw6, fun _ h => absurd h List.not_mem_nil⟩⟩⟩⟩) kc_M_collect
theorem gc_L_45 : GoodIn gA (wsV "RangedPoolLaw" 45 "RangedPool" y_P_swap w_P_swap) := gA_good (List.forall_mem_cons.mpr ⟨kw279, List.forall_mem_cons.mpr ⟨kw280, List.forall_mem_cons.mpr ⟨kw281, List.forall_mem_cons.mpr ⟨kw1, fun _ h => absurd h List.not_mem_nil⟩⟩⟩⟩) kc_P_swap
theorem gc_L_49 : GoodIn gA (wsV "RangedPoolLaw" 49 "RangedPoolModel" y_M_swap w_M_swap) := gA_good (List.forall_mem_cons.mpr ⟨kw621, List.forall_mem_cons.mpr ⟨kw622, List.forall_mem_cons.mpr ⟨kw623, List.forall_mem_cons.mpr ⟨kw6, fun _ h => absurd h List.not_mem_nil⟩⟩⟩⟩) kc_M_swap
theorem gc_L_50 : GoodIn gA (wsV "RangedPoolLaw" 50 "RangedPool" y_P_quote w_P_quote) := gA_good (List.forall_mem_cons.mpr ⟨kw376, List.forall_mem_cons.mpr ⟨kw377, List.forall_mem_cons.mpr ⟨kw378, List.forall_mem_cons.mpr ⟨kw1, fun _ h => absurd h List.not_mem_nil⟩⟩⟩⟩) kc_P_quote
theorem gc_L_54 : GoodIn gA (wsV "RangedPoolLaw" 54 "RangedPoolModel" y_M_quote w_M_quote) := gA_good (List.forall_mem_cons.mpr ⟨kw656, List.forall_mem_cons.mpr ⟨kw657, List.forall_mem_cons.mpr ⟨kw658, List.forall_mem_cons.mpr ⟨kw6, fun _ h => absurd h List.not_mem_nil⟩⟩⟩⟩) kc_M_quote
theorem gc_L_55 : GoodIn gA (wsV "RangedPoolLaw" 55 "RangedPool" y_P_flash w_P_flash) := gA_good (List.forall_mem_cons.mpr ⟨kw380, List.forall_mem_cons.mpr ⟨kw381, List.forall_mem_cons.mpr ⟨kw382, List.forall_mem_cons.mpr ⟨kw1, fun _ h => absurd h List.not_mem_nil⟩⟩⟩⟩) kc_P_flash
theorem gc_L_58 : GoodIn gA (wsV "RangedPoolLaw" 58 "RangedPoolModel" y_M_flash w_M_flash) := gA_good (List.forall_mem_cons.mpr ⟨kw660, List.forall_mem_cons.mpr ⟨kw661, List.forall_mem_cons.mpr ⟨kw662, List.forall_mem_cons.mpr ⟨kw6, fun _ h => absurd h List.not_mem_nil⟩⟩⟩⟩) kc_M_flash
theorem gc_L_59 : GoodIn gA (wsV "RangedPoolLaw" 59 "RangedPool" y_P_advance w_P_advance) := gA_good (List.forall_mem_cons.mpr ⟨kw396, List.forall_mem_cons.mpr ⟨kw397, List.forall_mem_cons.mpr ⟨kw398, List.forall_mem_cons.mpr ⟨kw1, fun _ h => absurd h List.not_mem_nil⟩⟩⟩⟩) kc_P_advance
theorem gc_L_62 : GoodIn gA (wsV "RangedPoolLaw" 62 "RangedPoolModel" y_M_advance w_M_advance) := gA_good (List.forall_mem_cons.mpr ⟨kw664, List.forall_mem_cons.mpr ⟨kw665, List.forall_mem_cons.mpr ⟨kw666, List.forall_mem_cons.mpr ⟨kw6, fun _ h => absurd h List.not_mem_nil⟩⟩⟩⟩) kc_M_advance
theorem gc_L_63 : GoodIn gA (wsV "RangedPoolLaw" 63 "RangedPool" y_P_observe w_P_observe) := gA_good (List.forall_mem_cons.mpr ⟨kw404, List.forall_mem_cons.mpr ⟨kw405, List.forall_mem_cons.mpr ⟨kw406, List.forall_mem_cons.mpr ⟨kw1, fun _ h => absurd h List.not_mem_nil⟩⟩⟩⟩) kc_P_observe
theorem gc_L_67 : GoodIn gA (wsV "RangedPoolLaw" 67 "RangedPoolModel" y_M_observe w_M_observe) := gA_good (List.forall_mem_cons.mpr ⟨kw668, List.forall_mem_cons.mpr ⟨kw669, List.forall_mem_cons.mpr ⟨kw670, List.forall_mem_cons.mpr ⟨kw6, fun _ h => absurd h List.not_mem_nil⟩⟩⟩⟩) kc_M_observe
theorem gc_L_68 : GoodIn gA (wsV "RangedPoolLaw" 68 "RangedPool" y_P_price w_P_price) := gA_good (List.forall_mem_cons.mpr ⟨kw417, List.forall_mem_cons.mpr ⟨kw418, List.forall_mem_cons.mpr ⟨kw419, List.forall_mem_cons.mpr ⟨kw1, fun _ h => absurd h List.not_mem_nil⟩⟩⟩⟩) kc_P_price
theorem gc_L_72 : GoodIn gA (wsV "RangedPoolLaw" 72 "RangedPoolModel" y_M_price0 w_M_price0) := gA_good (List.forall_mem_cons.mpr ⟨kw673, List.forall_mem_cons.mpr ⟨kw674, List.forall_mem_cons.mpr ⟨kw675, List.forall_mem_cons.mpr ⟨kw6, fun _ h => absurd h List.not_mem_nil⟩⟩⟩⟩) kc_M_price0
theorem gc_L_73 : GoodIn gA (wsV "RangedPoolLaw" 73 "RangedPool" y_P_step w_P_step) := gA_good (List.forall_mem_cons.mpr ⟨kw421, List.forall_mem_cons.mpr ⟨kw422, List.forall_mem_cons.mpr ⟨kw423, List.forall_mem_cons.mpr ⟨kw1, fun _ h => absurd h List.not_mem_nil⟩⟩⟩⟩) kc_P_step
theorem gc_L_76 : GoodIn gA (wsV "RangedPoolLaw" 76 "RangedPoolModel" y_M_step w_M_step) := gA_good (List.forall_mem_cons.mpr ⟨kw677, List.forall_mem_cons.mpr ⟨kw678, List.forall_mem_cons.mpr ⟨kw679, List.forall_mem_cons.mpr ⟨kw6, fun _ h => absurd h List.not_mem_nil⟩⟩⟩⟩) kc_M_step
theorem gc_L_77 : GoodIn gA (wsV "RangedPoolLaw" 77 "RangedPool" y_P_depth w_P_depth) := gA_good (List.forall_mem_cons.mpr ⟨kw425, List.forall_mem_cons.mpr ⟨kw426, List.forall_mem_cons.mpr ⟨kw427, List.forall_mem_cons.mpr ⟨kw1, fun _ h => absurd h List.not_mem_nil⟩⟩⟩⟩) kc_P_depth
theorem gc_L_80 : GoodIn gA (wsV "RangedPoolLaw" 80 "RangedPoolModel" y_M_depth w_M_depth) := gA_good (List.forall_mem_cons.mpr ⟨kw681, List.forall_mem_cons.mpr ⟨kw682, List.forall_mem_cons.mpr ⟨kw683, List.forall_mem_cons.mpr ⟨kw6, fun _ h => absurd h List.not_mem_nil⟩⟩⟩⟩) kc_M_depth
theorem gc_L_81 : GoodIn gA (wsV "RangedPoolLaw" 81 "RangedPool" y_P_wallet w_P_wallet) := gA_good (List.forall_mem_cons.mpr ⟨kw429, List.forall_mem_cons.mpr ⟨kw430, List.forall_mem_cons.mpr ⟨kw431, List.forall_mem_cons.mpr ⟨kw1, fun _ h => absurd h List.not_mem_nil⟩⟩⟩⟩) kc_P_wallet
theorem gc_L_85 : GoodIn gA (wsV "RangedPoolLaw" 85 "RangedPoolModel" y_M_wallet w_M_wallet) := gA_good (List.forall_mem_cons.mpr ⟨kw685, List.forall_mem_cons.mpr ⟨kw686, List.forall_mem_cons.mpr ⟨kw687, List.forall_mem_cons.mpr ⟨kw6, fun _ h => absurd h List.not_mem_nil⟩⟩⟩⟩) kc_M_wallet
theorem gc_L_86 : GoodIn gA (wsV "RangedPoolLaw" 86 "RangedPool" y_P_reserve w_P_reserve) := gA_good (List.forall_mem_cons.mpr ⟨kw433, List.forall_mem_cons.mpr ⟨kw434, List.forall_mem_cons.mpr ⟨kw435, List.forall_mem_cons.mpr ⟨kw1, fun _ h => absurd h List.not_mem_nil⟩⟩⟩⟩) kc_P_reserve
theorem gc_L_89 : GoodIn gA (wsV "RangedPoolLaw" 89 "RangedPoolModel" y_M_reserve w_M_reserve) := gA_good (List.forall_mem_cons.mpr ⟨kw689, List.forall_mem_cons.mpr ⟨kw690, List.forall_mem_cons.mpr ⟨kw691, List.forall_mem_cons.mpr ⟨kw6, fun _ h => absurd h List.not_mem_nil⟩⟩⟩⟩) kc_M_reserve
theorem gc_L_90 : GoodIn gA (wsV "RangedPoolLaw" 90 "RangedPool" y_P_lot w_P_lot) := gA_good (List.forall_mem_cons.mpr ⟨kw437, List.forall_mem_cons.mpr ⟨kw438, List.forall_mem_cons.mpr ⟨kw439, List.forall_mem_cons.mpr ⟨kw1, fun _ h => absurd h List.not_mem_nil⟩⟩⟩⟩) kc_P_lot
theorem gc_L_93 : GoodIn gA (wsV "RangedPoolLaw" 93 "RangedPoolModel" y_M_lot w_M_lot) := gA_good (List.forall_mem_cons.mpr ⟨kw693, List.forall_mem_cons.mpr ⟨kw694, List.forall_mem_cons.mpr ⟨kw695, List.forall_mem_cons.mpr ⟨kw6, fun _ h => absurd h List.not_mem_nil⟩⟩⟩⟩) kc_M_lot
theorem gc_L_94 : GoodIn gA (wsV "RangedPoolLaw" 94 "RangedPool" y_P_net w_P_net) := gA_good (List.forall_mem_cons.mpr ⟨kw441, List.forall_mem_cons.mpr ⟨kw442, List.forall_mem_cons.mpr ⟨kw443, List.forall_mem_cons.mpr ⟨kw1, fun _ h => absurd h List.not_mem_nil⟩⟩⟩⟩) kc_P_net
theorem gc_L_98 : GoodIn gA (wsV "RangedPoolLaw" 98 "RangedPoolModel" y_M_net w_M_net) := gA_good (List.forall_mem_cons.mpr ⟨kw697, List.forall_mem_cons.mpr ⟨kw698, List.forall_mem_cons.mpr ⟨kw699, List.forall_mem_cons.mpr ⟨kw6, fun _ h => absurd h List.not_mem_nil⟩⟩⟩⟩) kc_M_net
end
section
/-! A world by a shape: the cells of one system at fixed addresses, its numbers by place and slot. -/
/-- the numbers: ints (booleans too) and longs, by the cell's place and the slot or index -/
abbrev g_S : Type := (Nat → Nat → Int32) × (Nat → Nat → Int64)
def g_2 {α : Type} (f : Nat → Nat → α) (p k : Nat) (v : α) : Nat → Nat → α := fun p' k' => if p' = p ∧ k' = k then v else f p' k'
theorem g_2_self {α : Type} (f : Nat → Nat → α) (p k : Nat) (v : α) : g_2 f p k v p k = v := by simp [g_2]
theorem g_2_ne {α : Type} (f : Nat → Nat → α) {p k p' k' : Nat} (v : α) (h : ¬ (p' = p ∧ k' = k)) : g_2 f p k v p' k' = f p' k' := by simp [g_2, h]
theorem g_2_p {α : Type} (f : Nat → Nat → α) {p k p' : Nat} (v : α) (h : p' ≠ p) : g_2 f p k v p' = f p' := by
  funext j
  simp [g_2, h]
theorem g_2_row {α : Type} (f : Nat → Nat → α) (p k : Nat) (v : α) : g_2 f p k v p = fun j => if j = k then v else f p j := by
  funext j
  simp [g_2]
def g_I (σ : g_S) (p k : Nat) (v : Int32) : g_S := (g_2 σ.1 p k v, σ.2)
def g_L (σ : g_S) (p k : Nat) (v : Int64) : g_S := (σ.1, g_2 σ.2 p k v)
/-- a cell's kind: 0, class, slots (0 an int, 1 a long, q + 2 the cell at place q); 1, 2, 3 and a length: ints, booleans, longs; t + 4, length, places: references, array class t + 3 -/
abbrev g_Sh : Type := List (Nat × Nat × List Nat)
def g_v (ad : Nat → Nat) (σ : g_S) (p k : Nat) : Nat → Value
  | 0 => .int (σ.1 p k)
  | 1 => .long (σ.2 p k)
  | q + 2 => .ref (ad q)
def g_fs (ad : Nat → Nat) (σ : g_S) (p : Nat) (cs : List Nat) : List Value := cs.mapIdx (fun k c => g_v ad σ p k c)
def g_e (dA : Nat → ClassId) (ad : Nat → Nat) (σ : g_S) (p : Nat) (c : Nat × Nat × List Nat) : va_E := match c.1 with
  | 0 => .inr (c.2.1, g_fs ad σ p c.2.2)
  | 1 => .inl (dA 0, c.2.1, .inl (σ.1 p))
  | 2 => .inl (dA 1, c.2.1, .inl (σ.1 p))
  | 3 => .inl (dA 2, c.2.1, .inr (.inl (σ.2 p)))
  | t + 4 => .inl (dA (t + 3), c.2.1, .inr (.inr (.inr (.inr (fun j => (c.2.2[j]?).map ad)))))
def g_w (sh : g_Sh) (dA : Nat → ClassId) (ad : Nat → Nat) (σ : g_S) : va_W := sh.mapIdx (fun p c => (ad p, g_e dA ad σ p c))
section GW
variable {sh : g_Sh} {dA : Nat → ClassId} {ad : Nat → Nat} {σ τ : g_S} {A : Nat → Prop}
theorem g_w_at {p : Nat} {c : Nat × Nat × List Nat} (h : sh[p]? = some c) : (g_w sh dA ad σ)[p]? = some (ad p, g_e dA ad σ p c) := by
  simp [g_w, List.getElem?_mapIdx, h]
theorem g_w_adr {p : Nat} {q : Nat × va_E} (h : (g_w sh dA ad σ)[p]? = some q) : ∃ c, sh[p]? = some c ∧ q = (ad p, g_e dA ad σ p c) := by
  simp only [g_w, List.getElem?_mapIdx, Option.map_eq_some_iff] at h
  obtain ⟨c, h1, h2⟩ := h
  exact ⟨c, h1, h2.symm⟩
theorem g_at_o {p ci : Nat} {cs : List Nat} (h : sh[p]? = some (0, ci, cs)) : (g_w sh dA ad σ)[p]? = some (ad p, .inr (ci, g_fs ad σ p cs)) := g_w_at h
theorem g_at_i {p n : Nat} {cs : List Nat} (h : sh[p]? = some (1, n, cs)) : (g_w sh dA ad σ)[p]? = some (ad p, .inl (dA 0, n, .inl (σ.1 p))) := g_w_at h
theorem g_at_z {p n : Nat} {cs : List Nat} (h : sh[p]? = some (2, n, cs)) : (g_w sh dA ad σ)[p]? = some (ad p, .inl (dA 1, n, .inl (σ.1 p))) := g_w_at h
theorem g_at_l {p n : Nat} {cs : List Nat} (h : sh[p]? = some (3, n, cs)) : (g_w sh dA ad σ)[p]? = some (ad p, .inl (dA 2, n, .inr (.inl (σ.2 p)))) := g_w_at h
theorem g_at_q {p n t : Nat} {cs : List Nat} (h : sh[p]? = some (t + 4, n, cs)) : (g_w sh dA ad σ)[p]? = some (ad p, .inl (dA (t + 3), n, .inr (.inr (.inr (.inr (fun j => (cs[j]?).map ad)))))) := g_w_at h
theorem g_fs_at {p k c : Nat} {cs : List Nat} (h : cs[k]? = some c) : (g_fs ad σ p cs)[k]? = some (g_v ad σ p k c) := by
  simp [g_fs, List.getElem?_mapIdx, h]
theorem g_fs_len {p : Nat} {cs : List Nat} : (g_fs ad σ p cs).length = cs.length := by simp [g_fs]
theorem g_D (h : va_D A (g_w sh dA ad σ)) : va_D A (g_w sh dA ad τ) := by
  refine ⟨fun i j p q hi hj e => ?_, fun k q hk => ?_⟩
  · obtain ⟨ci, h1, rfl⟩ := g_w_adr hi
    obtain ⟨cj, h2, rfl⟩ := g_w_adr hj
    exact h.1 i j _ _ (g_w_at h1) (g_w_at h2) e
  · obtain ⟨c, h1, rfl⟩ := g_w_adr hk
    exact h.2 k (ad k, g_e dA ad σ k c) (g_w_at h1)
theorem g_A {sz : Nat} : va_A (g_w sh dA ad σ) sz = va_A (g_w sh dA ad τ) sz := by
  have key : ∀ (σ τ : g_S) (q : Nat), va_A (g_w sh dA ad σ) sz q → va_A (g_w sh dA ad τ) sz q := by
    intro σ τ q h
    rcases h with ⟨k, e, h⟩ | h
    · obtain ⟨c, h1, h2⟩ := g_w_adr h
      obtain ⟨rfl, -⟩ := Prod.mk.inj h2
      exact Or.inl ⟨k, _, g_w_at h1⟩
    · exact Or.inr h
  funext q
  exact propext ⟨key σ τ q, key τ σ q⟩
theorem g_e_I {p k i : Nat} {v : Int32} {c : Nat × Nat × List Nat} (h : i ≠ p) : g_e dA ad (g_I σ p k v) i c = g_e dA ad σ i c := by
  have h1 : (g_I σ p k v).1 i = σ.1 i := g_2_p _ _ h
  have h2 : (g_I σ p k v).2 = σ.2 := rfl
  have h3 : g_fs ad (g_I σ p k v) i c.2.2 = g_fs ad σ i c.2.2 := by
    unfold g_fs
    congr 1
    funext k' c'
    match c' with
    | 0 => simp only [g_v, h1]
    | 1 => rfl
    | q + 2 => rfl
  unfold g_e
  simp only [h1, h2, h3]
theorem g_e_L {p k i : Nat} {v : Int64} {c : Nat × Nat × List Nat} (h : i ≠ p) : g_e dA ad (g_L σ p k v) i c = g_e dA ad σ i c := by
  have h1 : (g_L σ p k v).2 i = σ.2 i := g_2_p _ _ h
  have h2 : (g_L σ p k v).1 = σ.1 := rfl
  have h3 : g_fs ad (g_L σ p k v) i c.2.2 = g_fs ad σ i c.2.2 := by
    unfold g_fs
    congr 1
    funext k' c'
    match c' with
    | 0 => rfl
    | 1 => simp only [g_v, h1]
    | q + 2 => rfl
  unfold g_e
  simp only [h1, h2, h3]
theorem g_set {p : Nat} {c : Nat × Nat × List Nat} {e : va_E} (h : sh[p]? = some c) (hp : e = g_e dA ad τ p c) (ho : ∀ i c', i ≠ p → g_e dA ad τ i c' = g_e dA ad σ i c') : (g_w sh dA ad σ).set p (ad p, e) = g_w sh dA ad τ := by
  apply List.ext_getElem?
  intro i
  have hl : p < (g_w sh dA ad σ).length := (List.getElem?_eq_some_iff.mp (g_w_at h)).1
  by_cases hi : i = p
  · subst hi
    rw [List.getElem?_set_self hl, g_w_at h, hp]
  · rw [List.getElem?_set_ne (Ne.symm hi)]
    simp only [g_w, List.getElem?_mapIdx]
    cases hc : sh[i]? with
    | none => rfl
    | some c' => simp only [Option.map_some, ho i c' hi]
theorem g_fs_I {p k : Nat} {cs : List Nat} {v : Int32} (hk : cs[k]? = some 0) : (g_fs ad σ p cs).set k (.int v) = g_fs ad (g_I σ p k v) p cs := by
  apply List.ext_getElem?
  intro j
  have hl : k < (g_fs ad σ p cs).length := by rw [g_fs_len]; exact (List.getElem?_eq_some_iff.mp hk).1
  by_cases hj : j = k
  · subst hj
    rw [List.getElem?_set_self hl, g_fs_at hk]
    simp [g_v, g_I, g_2]
  · rw [List.getElem?_set_ne (Ne.symm hj)]
    simp only [g_fs, List.getElem?_mapIdx]
    cases hc : cs[j]? with
    | none => rfl
    | some c' =>
      simp only [Option.map_some]
      match c' with
      | 0 => simp [g_v, g_I, g_2, hj]
      | 1 => rfl
      | q + 2 => rfl
theorem g_fs_L {p k : Nat} {cs : List Nat} {v : Int64} (hk : cs[k]? = some 1) : (g_fs ad σ p cs).set k (.long v) = g_fs ad (g_L σ p k v) p cs := by
  apply List.ext_getElem?
  intro j
  have hl : k < (g_fs ad σ p cs).length := by rw [g_fs_len]; exact (List.getElem?_eq_some_iff.mp hk).1
  by_cases hj : j = k
  · subst hj
    rw [List.getElem?_set_self hl, g_fs_at hk]
    simp [g_v, g_L, g_2]
  · rw [List.getElem?_set_ne (Ne.symm hj)]
    simp only [g_fs, List.getElem?_mapIdx]
    cases hc : cs[j]? with
    | none => rfl
    | some c' =>
      simp only [Option.map_some]
      match c' with
      | 0 => rfl
      | 1 => simp [g_v, g_L, g_2, hj]
      | q + 2 => rfl
theorem g_set_oI {p ci k : Nat} {cs : List Nat} {v : Int32} (h : sh[p]? = some (0, ci, cs)) (hk : cs[k]? = some 0) : (g_w sh dA ad σ).set p (ad p, .inr (ci, (g_fs ad σ p cs).set k (.int v))) = g_w sh dA ad (g_I σ p k v) := by
  refine g_set h ?_ (fun i c' hi => g_e_I hi)
  rw [g_fs_I hk]
  rfl
theorem g_set_oL {p ci k : Nat} {cs : List Nat} {v : Int64} (h : sh[p]? = some (0, ci, cs)) (hk : cs[k]? = some 1) : (g_w sh dA ad σ).set p (ad p, .inr (ci, (g_fs ad σ p cs).set k (.long v))) = g_w sh dA ad (g_L σ p k v) := by
  refine g_set h ?_ (fun i c' hi => g_e_L hi)
  rw [g_fs_L hk]
  rfl
theorem g_set_i {p n k : Nat} {cs : List Nat} {v : Int32} (h : sh[p]? = some (1, n, cs)) : (g_w sh dA ad σ).set p (ad p, .inl (dA 0, n, .inl (upd (σ.1 p) k v))) = g_w sh dA ad (g_I σ p k v) := by
  refine g_set h ?_ (fun i c' hi => g_e_I hi)
  show _ = Sum.inl (dA 0, n, Sum.inl (g_2 σ.1 p k v p))
  rw [g_2_row]
  rfl
theorem g_set_z {p n k : Nat} {cs : List Nat} {v : Int32} (h : sh[p]? = some (2, n, cs)) : (g_w sh dA ad σ).set p (ad p, .inl (dA 1, n, .inl (upd (σ.1 p) k v))) = g_w sh dA ad (g_I σ p k v) := by
  refine g_set h ?_ (fun i c' hi => g_e_I hi)
  show _ = Sum.inl (dA 1, n, Sum.inl (g_2 σ.1 p k v p))
  rw [g_2_row]
  rfl
theorem g_set_l {p n k : Nat} {cs : List Nat} {v : Int64} (h : sh[p]? = some (3, n, cs)) : (g_w sh dA ad σ).set p (ad p, .inl (dA 2, n, .inr (.inl (vp_updL (σ.2 p) k v)))) = g_w sh dA ad (g_L σ p k v) := by
  refine g_set h ?_ (fun i c' hi => g_e_L hi)
  show _ = Sum.inl (dA 2, n, Sum.inr (Sum.inl (g_2 σ.2 p k v p)))
  rw [g_2_row]
  rfl
end GW
/-! rows: an instruction on such a world -/
section GR
variable {p : Program} {l : Launch} {e : Env} {R : Room} {s : State} {m : MethodId} {args : Array Value} {below : List Frame} {meth : Method} {c : Code} {H : Heap} {locs : List Loc} {cells slots : Nat} {Q : State → Prop}
variable {cc : ByteArray} {pc : Nat} {ls : Array Slot} {rest : List Value} {D : va_G} {cl : List vw_C} {A : Nat → Prop} {tys : List (ClassId × FieldType)} {H0 : Heap} {sh : g_Sh} {dA : Nat → ClassId} {ad : Nat → Nat} {σ : g_S}
theorem g_get (hexec : p.tables.exec = Jvm.exec) (hb : c.code = cc) {own ref C : String} {T : u_T} {N ci index : Nat} {Ts : List Cond} (hts : ∀ w ∈ Ts, w.before args s = true) (hin : ∀ w ∈ u_ws C T N, w ∈ Ts) (hown : s.vm.findClass own = some m.cls) (hK : va_K D cl tys s) (hP : va_P D cl (g_w sh dA ad σ) H) (q0 : Nat) {cs : List Nat} (hs : sh[q0]? = some (0, ci, cs)) (hc : cl[ci]? = some (C, T, N)) (k : Nat) (hk : k < N) {cd : Nat} (hcs : cs[k]? = some cd) (hlink : (Cond.fieldLink own index ref (T k).2.1 (T k).2.2.1).before args s = true) (hsame : ∀ x, s.fieldFound? (T k).1 (T k).2.1 (T k).2.2.1 = some x → s.fieldFound? ref (T k).2.1 (T k).2.2.1 = some x) {v : Value} (hv : g_v ad σ q0 k cd = v) (hdg : decode cc pc = .ok (.getfield index, 3))
    (kk : W p l e R s m args below meth c H locs cells slots Q (F0 m (pc + 3) ls (v :: rest))) : W p l e R s m args below meth c H locs cells slots Q (F0 m pc ls (.ref (ad q0) :: rest)) :=
  va_get hexec hb hts hin hown hK hP q0 (g_at_o hs) hc k hk hlink hsame ((g_fs_at hcs).trans (congrArg some hv)) hdg kk
theorem g_getN (hexec : p.tables.exec = Jvm.exec) (hb : c.code = cc) {own ref C host : String} {T : u_T} {N ci index : Nat} {Ts : List Cond} (hts : ∀ w ∈ Ts, w.before args s = true) (hin : ∀ w ∈ u_ws C T N, w ∈ Ts) (hown : s.vm.findClass own = some m.cls) (hK : va_K D cl tys s) (hP : va_P D cl (g_w sh dA ad σ) H) (q0 : Nat) {cs : List Nat} (hs : sh[q0]? = some (0, ci, cs)) (hc : cl[ci]? = some (C, T, N)) (k : Nat) (hk : k < N) {cd : Nat} (hcs : cs[k]? = some cd) (hlink : (Cond.fieldLinkNest own index ref (T k).2.1 (T k).2.2.1 host).before args s = true) (hsame : ∀ x, s.fieldFound? (T k).1 (T k).2.1 (T k).2.2.1 = some x → s.fieldFound? ref (T k).2.1 (T k).2.2.1 = some x) {v : Value} (hv : g_v ad σ q0 k cd = v) (hdg : decode cc pc = .ok (.getfield index, 3))
    (kk : W p l e R s m args below meth c H locs cells slots Q (F0 m (pc + 3) ls (v :: rest))) : W p l e R s m args below meth c H locs cells slots Q (F0 m pc ls (.ref (ad q0) :: rest)) :=
  va_getN hexec hb hts hin hown hK hP q0 (g_at_o hs) hc k hk hlink hsame ((g_fs_at hcs).trans (congrArg some hv)) hdg kk
theorem g_putI (hexec : p.tables.exec = Jvm.exec) (hb : c.code = cc) {own ref C : String} {T : u_T} {N ci index : Nat} {Ts : List Cond} (hts : ∀ w ∈ Ts, w.before args s = true) (hin : ∀ w ∈ u_ws C T N, w ∈ Ts) (ty0 : Nat → FieldType) (hty : ∀ k, k < N → parseFieldDescriptor (T k).2.2.1 = some (ty0 k)) (hnm : ∀ a, a < N → ∀ b, b < N → a ≠ b → (T a).2.1 ≠ (T b).2.1) (hown : s.vm.findClass own = some m.cls) (hK : va_K D cl tys s) (hP : va_P D cl (g_w sh dA ad σ) H) (hD : va_D A (g_w sh dA ad σ)) (hS0 : va_S A H0 H locs) (q0 : Nat) {cs : List Nat} (hs : sh[q0]? = some (0, ci, cs)) (hc : cl[ci]? = some (C, T, N)) (k : Nat) (hk : k < N) (hcs : cs[k]? = some 0) (hlink : (Cond.fieldLink own index ref (T k).2.1 (T k).2.2.1).before args s = true) (hsame : ∀ x, s.fieldFound? (T k).1 (T k).2.1 (T k).2.2.1 = some x → s.fieldFound? ref (T k).2.1 (T k).2.2.1 = some x) (hfin : (T k).2.2.2 = false) {ty : FieldType} {v : Int32} (hd : parseFieldDescriptor (T k).2.2.1 = some ty) (hn : narrow ty (.int v) = .int v) (hfit : fits ty (.int v) = true) (hdg : decode cc pc = .ok (.putfield index, 3))
    (kk : ∀ (H1 : Heap) (locs1 : List Loc), va_P D cl (g_w sh dA ad (g_I σ q0 k v)) H1 → va_D A (g_w sh dA ad (g_I σ q0 k v)) → va_S A H0 H1 locs1 → W p l e R s m args below meth c H1 locs1 cells slots Q (F0 m (pc + 3) ls rest)) : W p l e R s m args below meth c H locs cells slots Q (F0 m pc ls (.int v :: .ref (ad q0) :: rest)) := by
  refine va_put hexec hb hts hin ty0 hty hnm hown hK hP hD hS0 q0 (g_at_o hs) hc k hk hlink hsame hfin hd hn hfit (by rw [g_fs_len]; exact (List.getElem?_eq_some_iff.mp hcs).1) hdg (fun H1 locs1 a1 a2 a3 => ?_)
  rw [g_set_oI hs hcs] at a1 a2
  exact kk H1 locs1 a1 a2 a3
theorem g_putIN (hexec : p.tables.exec = Jvm.exec) (hb : c.code = cc) {own ref C host : String} {T : u_T} {N ci index : Nat} {Ts : List Cond} (hts : ∀ w ∈ Ts, w.before args s = true) (hin : ∀ w ∈ u_ws C T N, w ∈ Ts) (ty0 : Nat → FieldType) (hty : ∀ k, k < N → parseFieldDescriptor (T k).2.2.1 = some (ty0 k)) (hnm : ∀ a, a < N → ∀ b, b < N → a ≠ b → (T a).2.1 ≠ (T b).2.1) (hown : s.vm.findClass own = some m.cls) (hK : va_K D cl tys s) (hP : va_P D cl (g_w sh dA ad σ) H) (hD : va_D A (g_w sh dA ad σ)) (hS0 : va_S A H0 H locs) (q0 : Nat) {cs : List Nat} (hs : sh[q0]? = some (0, ci, cs)) (hc : cl[ci]? = some (C, T, N)) (k : Nat) (hk : k < N) (hcs : cs[k]? = some 0) (hlink : (Cond.fieldLinkNest own index ref (T k).2.1 (T k).2.2.1 host).before args s = true) (hsame : ∀ x, s.fieldFound? (T k).1 (T k).2.1 (T k).2.2.1 = some x → s.fieldFound? ref (T k).2.1 (T k).2.2.1 = some x) (hfin : (T k).2.2.2 = false) {ty : FieldType} {v : Int32} (hd : parseFieldDescriptor (T k).2.2.1 = some ty) (hn : narrow ty (.int v) = .int v) (hfit : fits ty (.int v) = true) (hdg : decode cc pc = .ok (.putfield index, 3))
    (kk : ∀ (H1 : Heap) (locs1 : List Loc), va_P D cl (g_w sh dA ad (g_I σ q0 k v)) H1 → va_D A (g_w sh dA ad (g_I σ q0 k v)) → va_S A H0 H1 locs1 → W p l e R s m args below meth c H1 locs1 cells slots Q (F0 m (pc + 3) ls rest)) : W p l e R s m args below meth c H locs cells slots Q (F0 m pc ls (.int v :: .ref (ad q0) :: rest)) := by
  refine va_putN hexec hb hts hin ty0 hty hnm hown hK hP hD hS0 q0 (g_at_o hs) hc k hk hlink hsame hfin hd hn hfit (by rw [g_fs_len]; exact (List.getElem?_eq_some_iff.mp hcs).1) hdg (fun H1 locs1 a1 a2 a3 => ?_)
  rw [g_set_oI hs hcs] at a1 a2
  exact kk H1 locs1 a1 a2 a3
theorem g_putL (hexec : p.tables.exec = Jvm.exec) (hb : c.code = cc) {own ref C : String} {T : u_T} {N ci index : Nat} {Ts : List Cond} (hts : ∀ w ∈ Ts, w.before args s = true) (hin : ∀ w ∈ u_ws C T N, w ∈ Ts) (ty0 : Nat → FieldType) (hty : ∀ k, k < N → parseFieldDescriptor (T k).2.2.1 = some (ty0 k)) (hnm : ∀ a, a < N → ∀ b, b < N → a ≠ b → (T a).2.1 ≠ (T b).2.1) (hown : s.vm.findClass own = some m.cls) (hK : va_K D cl tys s) (hP : va_P D cl (g_w sh dA ad σ) H) (hD : va_D A (g_w sh dA ad σ)) (hS0 : va_S A H0 H locs) (q0 : Nat) {cs : List Nat} (hs : sh[q0]? = some (0, ci, cs)) (hc : cl[ci]? = some (C, T, N)) (k : Nat) (hk : k < N) (hcs : cs[k]? = some 1) (hlink : (Cond.fieldLink own index ref (T k).2.1 (T k).2.2.1).before args s = true) (hsame : ∀ x, s.fieldFound? (T k).1 (T k).2.1 (T k).2.2.1 = some x → s.fieldFound? ref (T k).2.1 (T k).2.2.1 = some x) (hfin : (T k).2.2.2 = false) {ty : FieldType} {v : Int64} (hd : parseFieldDescriptor (T k).2.2.1 = some ty) (hn : narrow ty (.long v) = .long v) (hfit : fits ty (.long v) = true) (hdg : decode cc pc = .ok (.putfield index, 3))
    (kk : ∀ (H1 : Heap) (locs1 : List Loc), va_P D cl (g_w sh dA ad (g_L σ q0 k v)) H1 → va_D A (g_w sh dA ad (g_L σ q0 k v)) → va_S A H0 H1 locs1 → W p l e R s m args below meth c H1 locs1 cells slots Q (F0 m (pc + 3) ls rest)) : W p l e R s m args below meth c H locs cells slots Q (F0 m pc ls (.long v :: .ref (ad q0) :: rest)) := by
  refine va_put hexec hb hts hin ty0 hty hnm hown hK hP hD hS0 q0 (g_at_o hs) hc k hk hlink hsame hfin hd hn hfit (by rw [g_fs_len]; exact (List.getElem?_eq_some_iff.mp hcs).1) hdg (fun H1 locs1 a1 a2 a3 => ?_)
  rw [g_set_oL hs hcs] at a1 a2
  exact kk H1 locs1 a1 a2 a3
theorem g_putLN (hexec : p.tables.exec = Jvm.exec) (hb : c.code = cc) {own ref C host : String} {T : u_T} {N ci index : Nat} {Ts : List Cond} (hts : ∀ w ∈ Ts, w.before args s = true) (hin : ∀ w ∈ u_ws C T N, w ∈ Ts) (ty0 : Nat → FieldType) (hty : ∀ k, k < N → parseFieldDescriptor (T k).2.2.1 = some (ty0 k)) (hnm : ∀ a, a < N → ∀ b, b < N → a ≠ b → (T a).2.1 ≠ (T b).2.1) (hown : s.vm.findClass own = some m.cls) (hK : va_K D cl tys s) (hP : va_P D cl (g_w sh dA ad σ) H) (hD : va_D A (g_w sh dA ad σ)) (hS0 : va_S A H0 H locs) (q0 : Nat) {cs : List Nat} (hs : sh[q0]? = some (0, ci, cs)) (hc : cl[ci]? = some (C, T, N)) (k : Nat) (hk : k < N) (hcs : cs[k]? = some 1) (hlink : (Cond.fieldLinkNest own index ref (T k).2.1 (T k).2.2.1 host).before args s = true) (hsame : ∀ x, s.fieldFound? (T k).1 (T k).2.1 (T k).2.2.1 = some x → s.fieldFound? ref (T k).2.1 (T k).2.2.1 = some x) (hfin : (T k).2.2.2 = false) {ty : FieldType} {v : Int64} (hd : parseFieldDescriptor (T k).2.2.1 = some ty) (hn : narrow ty (.long v) = .long v) (hfit : fits ty (.long v) = true) (hdg : decode cc pc = .ok (.putfield index, 3))
    (kk : ∀ (H1 : Heap) (locs1 : List Loc), va_P D cl (g_w sh dA ad (g_L σ q0 k v)) H1 → va_D A (g_w sh dA ad (g_L σ q0 k v)) → va_S A H0 H1 locs1 → W p l e R s m args below meth c H1 locs1 cells slots Q (F0 m (pc + 3) ls rest)) : W p l e R s m args below meth c H locs cells slots Q (F0 m pc ls (.long v :: .ref (ad q0) :: rest)) := by
  refine va_putN hexec hb hts hin ty0 hty hnm hown hK hP hD hS0 q0 (g_at_o hs) hc k hk hlink hsame hfin hd hn hfit (by rw [g_fs_len]; exact (List.getElem?_eq_some_iff.mp hcs).1) hdg (fun H1 locs1 a1 a2 a3 => ?_)
  rw [g_set_oL hs hcs] at a1 a2
  exact kk H1 locs1 a1 a2 a3
theorem g_iald (hexec : p.tables.exec = Jvm.exec) (hb : c.code = cc) (hK : va_K D cl tys s) (hP : va_P D cl (g_w sh dA ad σ) H) (q0 : Nat) {n : Nat} {cs : List Nat} (hs : sh[q0]? = some (1, n, cs)) (ht : tys[0]? = some (dA 0, .int)) {i : Int32} (hin : vp_in i n) {j : Nat} (hj : i.toNatClampNeg = j) (hdg : decode cc pc = .ok (.iaload, 1))
    (kk : W p l e R s m args below meth c H locs cells slots Q (F0 m (pc + 1) ls (.int (σ.1 q0 j) :: rest))) : W p l e R s m args below meth c H locs cells slots Q (F0 m pc ls (.int i :: .ref (ad q0) :: rest)) := by
  subst hj
  exact va_iald hexec hb hK hP q0 0 (g_at_i hs) ht hin hdg kk
theorem g_zald (hexec : p.tables.exec = Jvm.exec) (hb : c.code = cc) (hK : va_K D cl tys s) (hP : va_P D cl (g_w sh dA ad σ) H) (q0 : Nat) {n : Nat} {cs : List Nat} (hs : sh[q0]? = some (2, n, cs)) (ht : tys[1]? = some (dA 1, .boolean)) {i : Int32} (hin : vp_in i n) {j : Nat} (hj : i.toNatClampNeg = j) (hdg : decode cc pc = .ok (.baload, 1))
    (kk : W p l e R s m args below meth c H locs cells slots Q (F0 m (pc + 1) ls (.int (σ.1 q0 j) :: rest))) : W p l e R s m args below meth c H locs cells slots Q (F0 m pc ls (.int i :: .ref (ad q0) :: rest)) := by
  subst hj
  exact va_zald hexec hb hK hP q0 1 (g_at_z hs) ht hin hdg kk
theorem g_lald (hexec : p.tables.exec = Jvm.exec) (hb : c.code = cc) (hK : va_K D cl tys s) (hP : va_P D cl (g_w sh dA ad σ) H) (q0 : Nat) {n : Nat} {cs : List Nat} (hs : sh[q0]? = some (3, n, cs)) (ht : tys[2]? = some (dA 2, .long)) {i : Int32} (hin : vp_in i n) {j : Nat} (hj : i.toNatClampNeg = j) (hdg : decode cc pc = .ok (.laload, 1))
    (kk : W p l e R s m args below meth c H locs cells slots Q (F0 m (pc + 1) ls (.long (σ.2 q0 j) :: rest))) : W p l e R s m args below meth c H locs cells slots Q (F0 m pc ls (.int i :: .ref (ad q0) :: rest)) := by
  subst hj
  exact va_lald hexec hb hK hP q0 2 (g_at_l hs) ht hin hdg kk
theorem g_iast (hexec : p.tables.exec = Jvm.exec) (hb : c.code = cc) (hK : va_K D cl tys s) (hP : va_P D cl (g_w sh dA ad σ) H) (hD : va_D A (g_w sh dA ad σ)) (hS : va_S A H0 H locs) (q0 : Nat) {n : Nat} {cs : List Nat} (hs : sh[q0]? = some (1, n, cs)) (ht : tys[0]? = some (dA 0, .int)) {i x : Int32} (hin : vp_in i n) {j : Nat} (hj : i.toNatClampNeg = j) (hdg : decode cc pc = .ok (.iastore, 1))
    (kk : ∀ (H1 : Heap) (locs1 : List Loc), va_P D cl (g_w sh dA ad (g_I σ q0 j x)) H1 → va_D A (g_w sh dA ad (g_I σ q0 j x)) → va_S A H0 H1 locs1 → W p l e R s m args below meth c H1 locs1 cells slots Q (F0 m (pc + 1) ls rest)) : W p l e R s m args below meth c H locs cells slots Q (F0 m pc ls (.int x :: .int i :: .ref (ad q0) :: rest)) := by
  subst hj
  refine va_iast hexec hb hK hP hD hS q0 0 (g_at_i hs) ht hin hdg (fun H1 locs1 a1 a2 a3 => ?_)
  rw [g_set_i hs] at a1 a2
  exact kk H1 locs1 a1 a2 a3
theorem g_zast (hexec : p.tables.exec = Jvm.exec) (hb : c.code = cc) (hK : va_K D cl tys s) (hP : va_P D cl (g_w sh dA ad σ) H) (hD : va_D A (g_w sh dA ad σ)) (hS : va_S A H0 H locs) (q0 : Nat) {n : Nat} {cs : List Nat} (hs : sh[q0]? = some (2, n, cs)) (ht : tys[1]? = some (dA 1, .boolean)) {i x : Int32} (hx : vp_nar .boolean x = x) (hin : vp_in i n) {j : Nat} (hj : i.toNatClampNeg = j) (hdg : decode cc pc = .ok (.bastore, 1))
    (kk : ∀ (H1 : Heap) (locs1 : List Loc), va_P D cl (g_w sh dA ad (g_I σ q0 j x)) H1 → va_D A (g_w sh dA ad (g_I σ q0 j x)) → va_S A H0 H1 locs1 → W p l e R s m args below meth c H1 locs1 cells slots Q (F0 m (pc + 1) ls rest)) : W p l e R s m args below meth c H locs cells slots Q (F0 m pc ls (.int x :: .int i :: .ref (ad q0) :: rest)) := by
  subst hj
  refine va_zast hexec hb hK hP hD hS q0 1 (g_at_z hs) ht hin hdg (fun H1 locs1 a1 a2 a3 => ?_)
  rw [hx, g_set_z hs] at a1 a2
  exact kk H1 locs1 a1 a2 a3
theorem g_last (hexec : p.tables.exec = Jvm.exec) (hb : c.code = cc) (hK : va_K D cl tys s) (hP : va_P D cl (g_w sh dA ad σ) H) (hD : va_D A (g_w sh dA ad σ)) (hS : va_S A H0 H locs) (q0 : Nat) {n : Nat} {cs : List Nat} (hs : sh[q0]? = some (3, n, cs)) (ht : tys[2]? = some (dA 2, .long)) {i : Int32} {x : Int64} (hin : vp_in i n) {j : Nat} (hj : i.toNatClampNeg = j) (hdg : decode cc pc = .ok (.lastore, 1))
    (kk : ∀ (H1 : Heap) (locs1 : List Loc), va_P D cl (g_w sh dA ad (g_L σ q0 j x)) H1 → va_D A (g_w sh dA ad (g_L σ q0 j x)) → va_S A H0 H1 locs1 → W p l e R s m args below meth c H1 locs1 cells slots Q (F0 m (pc + 1) ls rest)) : W p l e R s m args below meth c H locs cells slots Q (F0 m pc ls (.long x :: .int i :: .ref (ad q0) :: rest)) := by
  subst hj
  refine va_last hexec hb hK hP hD hS q0 2 (g_at_l hs) ht hin hdg (fun H1 locs1 a1 a2 a3 => ?_)
  rw [g_set_l hs] at a1 a2
  exact kk H1 locs1 a1 a2 a3
theorem g_alen (hexec : p.tables.exec = Jvm.exec) (hb : c.code = cc) (hK : va_K D cl tys s) (hP : va_P D cl (g_w sh dA ad σ) H) (q0 : Nat) {n t : Nat} {cs : List Nat} (hs : sh[q0]? = some (t + 4, n, cs)) {ty : FieldType} (ht : tys[t + 3]? = some (dA (t + 3), ty)) {v : Int32} (hv : Int32.ofNat n = v) (hdg : decode cc pc = .ok (.arraylength, 1))
    (kk : W p l e R s m args below meth c H locs cells slots Q (F0 m (pc + 1) ls (.int v :: rest))) : W p l e R s m args below meth c H locs cells slots Q (F0 m pc ls (.ref (ad q0) :: rest)) := va_alen hexec hb hK hP q0 (t + 3) (g_at_q hs) ht hv hdg kk
/-- an element of an array of references, known to be the cell at place z -/
theorem g_aald (hexec : p.tables.exec = Jvm.exec) (hb : c.code = cc) (hK : va_K D cl tys s) (hP : va_P D cl (g_w sh dA ad σ) H) (q0 : Nat) {n t : Nat} {cs : List Nat} (hs : sh[q0]? = some (t + 4, n, cs)) {ty : FieldType} (hty : ty.isReference = true) (ht : tys[t + 3]? = some (dA (t + 3), ty)) {i : Int32} (hin : vp_in i n) {z : Nat} (hz : cs[i.toNatClampNeg]? = some z) (hdg : decode cc pc = .ok (.aaload, 1))
    (kk : W p l e R s m args below meth c H locs cells slots Q (F0 m (pc + 1) ls (.ref (ad z) :: rest))) : W p l e R s m args below meth c H locs cells slots Q (F0 m pc ls (.int i :: .ref (ad q0) :: rest)) := by
  have hlt : i.toNatClampNeg < n := Nat.not_le.mp fun q => hin (Or.inr q)
  have hcell := hP q0 _ (g_at_q (dA := dA) (ad := ad) (σ := σ) hs)
  refine W.aald (v := .ref (ad z)) (ty := ty) hexec hb hcell ((hK.2 (t + 3) _ ht).1 n (fun j => va_rf ((cs[j]?).map ad))) hty (fun q => by cases q) (by show ¬ (i < 0 ∨ (arrV _ _ _).slots.size ≤ _); rw [arrV_size]; exact hin) (by show (arrV _ _ _).slots[_]? = _; rw [arrV_read _ _ hlt]; show some (va_rf ((cs[i.toNatClampNeg]?).map ad)) = _; rw [hz]; rfl) rfl rfl hdg kk
end GR
end
section
/-! contracts over such a world: what they ask, what they leave, and the calls -/
/-- Z: what a system needs besides its cells (static tables, nest words), for cells A that may change -/
def g_Zok (Z : (Nat → Prop) → State → Prop) : Prop :=
  (∀ (A : Nat → Prop) (U : State) (g : JFrame) (mk : MethodId) (a : Array Value), Z A U → Z A (U.calling g mk a)) ∧
  ∀ (A B : Nat → Prop) (s U : State), s.WarmedH U.vm → (∀ q : Nat, q < s.heap.size → ¬ A q → U.heap[q]? = s.heap[q]?) → (∀ q, B q → A q) → Z A s → Z B U
/-- a method that only reads -/
def g_R (D : va_G) (cl : List vw_C) (tys : List (ClassId × FieldType)) (w : va_W) (Z : (Nat → Prop) → State → Prop) (U : State) : Prop := va_P D cl w U.heap ∧ va_K D cl tys U ∧ Z (fun _ => False) U
/-- a method that writes -/
def g_W (D : va_G) (cl : List vw_C) (tys : List (ClassId × FieldType)) (w : va_W) (sz : Nat) (Z : (Nat → Prop) → State → Prop) (U : State) : Prop := U.heap.size = sz ∧ va_P D cl w U.heap ∧ va_K D cl tys U ∧ va_D (fun _ => True) w ∧ Z (va_A w sz) U
section GC
variable {p : Program} {l : Launch} {e : Env} {R : Room} {s : State} {m : MethodId} {args : Array Value} {below : List Frame} {meth : Method} {c : Code} {H : Heap} {locs : List Loc} {cells slots : Nat} {Q : State → Prop}
variable {pc : Nat} {ls : Array Slot} {rest st0 : List Value} {a : Array Value} {D : va_G} {cl : List vw_C} {A : Nat → Prop} {tys : List (ClassId × FieldType)} {H0 : Heap} {sh : g_Sh} {dA : Nat → ClassId} {ad : Nat → Nat} {σ : g_S} {Z : (Nat → Prop) → State → Prop}
theorem g_blR (hZ : g_Zok Z) (av : List Value) (w : va_W) : FrameBlind (va_Pc av (g_R D cl tys w Z)) := by
  intro a U g mk h
  obtain ⟨h1, h2, h3, h4⟩ := h
  exact ⟨h1, h2, va_K.moved (u := U) (U := U.calling g mk a) (Vm.Alike.refl U.vm) h3, hZ.1 _ U g mk a h4⟩
theorem g_blW (hZ : g_Zok Z) (av : List Value) (w : va_W) (sz : Nat) : FrameBlind (va_Pc av (g_W D cl tys w sz Z)) := by
  intro a U g mk h
  obtain ⟨h1, h0, h2, h3, h4, h5⟩ := h
  exact ⟨h1, h0, h2, va_K.moved (u := U) (U := U.calling g mk a) (Vm.Alike.refl U.vm) h3, h4, hZ.1 _ U g mk a h5⟩
theorem g_bl0 (av : List Value) : FrameBlind (va_Pc av (fun _ => True)) := fun _ _ _ _ h => h
theorem g_pr0 (av : List Value) : PreS s H (va_Pc av (fun _ => True)) av := ⟨g_bl0 av, fun _ _ _ => ⟨rfl, trivial⟩⟩
/-- statics alone -/
theorem g_blZ (hZ : g_Zok Z) (av : List Value) : FrameBlind (va_Pc av (Z (fun _ => False))) := fun a U g mk h => ⟨h.1, hZ.1 _ U g mk a h.2⟩
theorem g_prZ (hZ : g_Zok Z) (hS : va_S A s.heap H locs) (hz : Z A s) (av : List Value) : PreS s H (va_Pc av (Z (fun _ => False))) av :=
  ⟨g_blZ hZ av, fun U hU hW => ⟨rfl, hZ.2 A _ s U hW (fun q h1 h2 => by rw [hU]; exact hS.2.1 q h1 h2) (fun _ h => h.elim) hz⟩⟩
theorem g_prR (hZ : g_Zok Z) (hK : va_K D cl tys s) {w : va_W} (hP : va_P D cl w H) (hS : va_S A s.heap H locs) (hz : Z A s) (av : List Value) : PreS s H (va_Pc av (g_R D cl tys w Z)) av :=
  ⟨g_blR hZ av w, fun U hU hW => ⟨rfl, by rw [hU]; exact hP, va_K.moved hW.alike hK, hZ.2 A _ s U hW (fun q h1 h2 => by rw [hU]; exact hS.2.1 q h1 h2) (fun _ h => h.elim) hz⟩⟩
theorem g_freeW {w : va_W} (hD : va_D A w) (hS : va_S A H0 H locs) (hA : ∀ q : Nat, H0.size ≤ q → A q) : ∀ q, va_A w H.size q → A q := by
  intro q h
  rcases h with ⟨k, e, h⟩ | h
  · exact hD.2 k _ h
  · exact hA q (Nat.le_trans hS.1 h)
theorem g_prW (hZ : g_Zok Z) (hK : va_K D cl tys s) {w : va_W} (hP : va_P D cl w H) (hD : va_D A w) (hS : va_S A s.heap H locs) (hA : ∀ q : Nat, s.heap.size ≤ q → A q) (hz : Z A s) (av : List Value) : PreS s H (va_Pc av (g_W D cl tys w H.size Z)) av :=
  ⟨g_blW hZ av w H.size, fun U hU hW => ⟨rfl, by rw [hU], by rw [hU]; exact hP, va_K.moved hW.alike hK, hD.weaken (fun _ _ _ _ => trivial), hZ.2 A _ s U hW (fun q h1 h2 => by rw [hU]; exact hS.2.1 q h1 h2) (g_freeW hD hS hA) hz⟩⟩
/-- the receiver: an object of the world -/
theorem g_rc (hK : va_K D cl tys s) (hP : va_P D cl (g_w sh dA ad σ) H) (q0 : Nat) {ci : Nat} {cs : List Nat} {r : vw_C} (hs : sh[q0]? = some (0, ci, cs)) (hc : cl[ci]? = some r) : ∃ cell : Cell, H[ad q0]? = some cell ∧ cell.vm.isStatics = false ∧ s.vm.findClass r.1 = some cell.cls := va_recv hK hP hc (g_at_o hs)
theorem g_pV {b : Addr} {C : String} {Pc : Array Value → State → Prop} {As : List Value} (h : PreS s H Pc (.ref b :: As)) (hr : ∃ cell : Cell, H[b]? = some cell ∧ cell.vm.isStatics = false ∧ s.vm.findClass C = some cell.cls) : PreV s H C b Pc As := ⟨h.1, hr, h.2⟩
/-- calls that leave the heap as it is -/
theorem g_cSi {post : Int32 → Prop} (hr : va_Run p l e R s m args below meth c H locs cells slots 0 0 (F0 m pc ls st0) rest (vp_Si post a) (fun _ => False))
    (kk : ∀ r : Int32, post r → W p l e R s m args below meth c H locs cells slots Q (F0 m (pc + 3) ls (.int r :: rest))) : W p l e R s m args below meth c H locs cells slots Q (F0 m pc ls st0) := by
  intro T hT X
  obtain ⟨v, st₀, t, T', L, h0, X', hL, e1, e2, ⟨r, hv, hp, hh⟩, st⟩ := hr T hT X
  cases hv
  obtain ⟨t2, a1, b1⟩ := kk r hp T' (by rw [e1, hh, h0]) (Stand.forget X' (fun q h => (hL q h).elim))
  exact ⟨t2, st t2 a1, b1⟩
theorem g_cSl {post : Int64 → Prop} (hr : va_Run p l e R s m args below meth c H locs cells slots 0 0 (F0 m pc ls st0) rest (vp_Sl post a) (fun _ => False))
    (kk : ∀ r : Int64, post r → W p l e R s m args below meth c H locs cells slots Q (F0 m (pc + 3) ls (.long r :: rest))) : W p l e R s m args below meth c H locs cells slots Q (F0 m pc ls st0) := by
  intro T hT X
  obtain ⟨v, st₀, t, T', L, h0, X', hL, e1, e2, ⟨r, hv, hp, hh⟩, st⟩ := hr T hT X
  cases hv
  obtain ⟨t2, a1, b1⟩ := kk r hp T' (by rw [e1, hh, h0]) (Stand.forget X' (fun q h => (hL q h).elim))
  exact ⟨t2, st t2 a1, b1⟩
/-- an answer that is null or one of the cells from place b0 on -/
theorem g_cSq {f : Option Nat} {b0 : Nat} (hr : va_Run p l e R s m args below meth c H locs cells slots 0 0 (F0 m pc ls st0) rest (va_Sq (fun r => r = f.map (fun k => ad (k + b0))) a) (fun _ => False))
    (kn : f = none → W p l e R s m args below meth c H locs cells slots Q (F0 m (pc + 3) ls (.null :: rest)))
    (ks : ∀ k : Nat, f = some k → W p l e R s m args below meth c H locs cells slots Q (F0 m (pc + 3) ls (.ref (ad (k + b0)) :: rest))) : W p l e R s m args below meth c H locs cells slots Q (F0 m pc ls st0) := by
  intro T hT X
  obtain ⟨v, st₀, t, T', L, h0, X', hL, e1, e2, ⟨r, hv, hp, hh⟩, st⟩ := hr T hT X
  cases hv
  cases hf : f with
  | none =>
    rw [hf] at hp
    subst hp
    obtain ⟨t2, a1, b1⟩ := kn hf T' (by rw [e1, hh, h0]) (Stand.forget X' (fun q h => (hL q h).elim))
    exact ⟨t2, st t2 a1, b1⟩
  | some k =>
    rw [hf] at hp
    subst hp
    obtain ⟨t2, a1, b1⟩ := ks k hf T' (by rw [e1, hh, h0]) (Stand.forget X' (fun q h => (hL q h).elim))
    exact ⟨t2, st t2 a1, b1⟩
/-- calls that leave another state of the same cells -/
theorem g_cWi {post : Int32 → g_S → Prop} (hr : va_Run p l e R s m args below meth c H locs cells slots 0 0 (F0 m pc ls st0) rest (va_Qi post (fun τ t => va_P D cl (g_w sh dA ad τ) t.heap) (va_A (g_w sh dA ad σ) H.size) a) (va_A (g_w sh dA ad σ) H.size)) (hD : va_D A (g_w sh dA ad σ)) (hS : va_S A H0 H locs) (hA : ∀ q : Nat, H0.size ≤ q → A q)
    (kk : ∀ (r : Int32) (τ : g_S) (H1 : Heap) (locs1 : List Loc), post r τ → va_P D cl (g_w sh dA ad τ) H1 → va_D A (g_w sh dA ad τ) → va_S A H0 H1 locs1 → W p l e R s m args below meth c H1 locs1 cells slots Q (F0 m (pc + 3) ls (.int r :: rest))) : W p l e R s m args below meth c H locs cells slots Q (F0 m pc ls st0) := by
  refine va_calli hr hS (fun q _ h => g_freeW hD hS hA q h) (g_freeW hD hS hA) (fun r τ t H1 locs1 ht _ hp hB _ _ hS1 => ?_)
  rw [ht] at hB
  exact kk r τ H1 locs1 hp hB (g_D hD) hS1
theorem g_cWl {post : Int64 → g_S → Prop} (hr : va_Run p l e R s m args below meth c H locs cells slots 0 0 (F0 m pc ls st0) rest (va_Ql post (fun τ t => va_P D cl (g_w sh dA ad τ) t.heap) (va_A (g_w sh dA ad σ) H.size) a) (va_A (g_w sh dA ad σ) H.size)) (hD : va_D A (g_w sh dA ad σ)) (hS : va_S A H0 H locs) (hA : ∀ q : Nat, H0.size ≤ q → A q)
    (kk : ∀ (r : Int64) (τ : g_S) (H1 : Heap) (locs1 : List Loc), post r τ → va_P D cl (g_w sh dA ad τ) H1 → va_D A (g_w sh dA ad τ) → va_S A H0 H1 locs1 → W p l e R s m args below meth c H1 locs1 cells slots Q (F0 m (pc + 3) ls (.long r :: rest))) : W p l e R s m args below meth c H locs cells slots Q (F0 m pc ls st0) := by
  refine va_calll hr hS (fun q _ h => g_freeW hD hS hA q h) (g_freeW hD hS hA) (fun r τ t H1 locs1 ht _ hp hB _ _ hS1 => ?_)
  rw [ht] at hB
  exact kk r τ H1 locs1 hp hB (g_D hD) hS1
theorem g_cWv {post : g_S → Prop} (hr : va_Run p l e R s m args below meth c H locs cells slots 0 0 (F0 m pc ls st0) rest (va_Qv post (fun τ t => va_P D cl (g_w sh dA ad τ) t.heap) (va_A (g_w sh dA ad σ) H.size) a) (va_A (g_w sh dA ad σ) H.size)) (hD : va_D A (g_w sh dA ad σ)) (hS : va_S A H0 H locs) (hA : ∀ q : Nat, H0.size ≤ q → A q)
    (kk : ∀ (τ : g_S) (H1 : Heap) (locs1 : List Loc), post τ → va_P D cl (g_w sh dA ad τ) H1 → va_D A (g_w sh dA ad τ) → va_S A H0 H1 locs1 → W p l e R s m args below meth c H1 locs1 cells slots Q (F0 m (pc + 3) ls rest)) : W p l e R s m args below meth c H locs cells slots Q (F0 m pc ls st0) := by
  refine va_callv hr hS (fun q _ h => g_freeW hD hS hA q h) (g_freeW hD hS hA) (fun τ t H1 locs1 ht _ hp hB _ _ hS1 => ?_)
  rw [ht] at hB
  exact kk τ H1 locs1 hp hB (g_D hD) hS1
/-- the same, the answer put in its place -/
theorem g_cSiE {v : Int32} (hr : va_Run p l e R s m args below meth c H locs cells slots 0 0 (F0 m pc ls st0) rest (vp_Si (fun r => r = v) a) (fun _ => False))
    (kk : W p l e R s m args below meth c H locs cells slots Q (F0 m (pc + 3) ls (.int v :: rest))) : W p l e R s m args below meth c H locs cells slots Q (F0 m pc ls st0) := g_cSi hr (fun r h => by rw [h]; exact kk)
theorem g_cSlE {v : Int64} (hr : va_Run p l e R s m args below meth c H locs cells slots 0 0 (F0 m pc ls st0) rest (vp_Sl (fun r => r = v) a) (fun _ => False))
    (kk : W p l e R s m args below meth c H locs cells slots Q (F0 m (pc + 3) ls (.long v :: rest))) : W p l e R s m args below meth c H locs cells slots Q (F0 m pc ls st0) := g_cSl hr (fun r h => by rw [h]; exact kk)
theorem g_cWiE {v : Int32 × g_S} (hr : va_Run p l e R s m args below meth c H locs cells slots 0 0 (F0 m pc ls st0) rest (va_Qi (fun r τ => (r, τ) = v) (fun τ t => va_P D cl (g_w sh dA ad τ) t.heap) (va_A (g_w sh dA ad σ) H.size) a) (va_A (g_w sh dA ad σ) H.size)) (hD : va_D A (g_w sh dA ad σ)) (hS : va_S A H0 H locs) (hA : ∀ q : Nat, H0.size ≤ q → A q)
    (kk : ∀ (H1 : Heap) (locs1 : List Loc), va_P D cl (g_w sh dA ad v.2) H1 → va_D A (g_w sh dA ad v.2) → va_S A H0 H1 locs1 → W p l e R s m args below meth c H1 locs1 cells slots Q (F0 m (pc + 3) ls (.int v.1 :: rest))) : W p l e R s m args below meth c H locs cells slots Q (F0 m pc ls st0) := g_cWi hr hD hS hA (fun r τ H1 locs1 h a1 a2 a3 => by cases h; exact kk H1 locs1 a1 a2 a3)
theorem g_cWlE {v : Int64 × g_S} (hr : va_Run p l e R s m args below meth c H locs cells slots 0 0 (F0 m pc ls st0) rest (va_Ql (fun r τ => (r, τ) = v) (fun τ t => va_P D cl (g_w sh dA ad τ) t.heap) (va_A (g_w sh dA ad σ) H.size) a) (va_A (g_w sh dA ad σ) H.size)) (hD : va_D A (g_w sh dA ad σ)) (hS : va_S A H0 H locs) (hA : ∀ q : Nat, H0.size ≤ q → A q)
    (kk : ∀ (H1 : Heap) (locs1 : List Loc), va_P D cl (g_w sh dA ad v.2) H1 → va_D A (g_w sh dA ad v.2) → va_S A H0 H1 locs1 → W p l e R s m args below meth c H1 locs1 cells slots Q (F0 m (pc + 3) ls (.long v.1 :: rest))) : W p l e R s m args below meth c H locs cells slots Q (F0 m pc ls st0) := g_cWl hr hD hS hA (fun r τ H1 locs1 h a1 a2 a3 => by cases h; exact kk H1 locs1 a1 a2 a3)
theorem g_cWvE {v : g_S} (hr : va_Run p l e R s m args below meth c H locs cells slots 0 0 (F0 m pc ls st0) rest (va_Qv (fun τ => τ = v) (fun τ t => va_P D cl (g_w sh dA ad τ) t.heap) (va_A (g_w sh dA ad σ) H.size) a) (va_A (g_w sh dA ad σ) H.size)) (hD : va_D A (g_w sh dA ad σ)) (hS : va_S A H0 H locs) (hA : ∀ q : Nat, H0.size ≤ q → A q)
    (kk : ∀ (H1 : Heap) (locs1 : List Loc), va_P D cl (g_w sh dA ad v) H1 → va_D A (g_w sh dA ad v) → va_S A H0 H1 locs1 → W p l e R s m args below meth c H1 locs1 cells slots Q (F0 m (pc + 3) ls rest)) : W p l e R s m args below meth c H locs cells slots Q (F0 m pc ls st0) := g_cWv hr hD hS hA (fun τ H1 locs1 h a1 a2 a3 => by subst h; exact kk H1 locs1 a1 a2 a3)
end GC
end
section
/-! numbers that index; booleans; tests of loops -/
theorem g_nlt {i : Int32} {n : Nat} (h : vp_in i n) : i.toNatClampNeg < n := Nat.not_le.mp fun q => h (Or.inr q)
theorem g_nge {i : Int32} {n : Nat} (h : vp_in i n) : 0 ≤ i := by
  have h1 : ¬ i < 0 := fun q => h (Or.inl q)
  rw [Int32.lt_iff_toInt_lt] at h1
  rw [Int32.le_iff_toInt_le]
  omega
theorem g_eix {x : Int32} {j n : Nat} (h : x = Int32.ofNat j) (hj : j < n) (hn : n ≤ 2147483648) : vp_in x n := by
  subst h
  intro q
  rcases q with q | q
  · rw [Int32.lt_iff_toInt_lt, Int32.toInt_ofNat_of_lt (by omega)] at q
    have h0 : (0 : Int32).toInt = 0 := rfl
    omega
  · rw [Int32.toNatClampNeg_ofNat_of_lt (by omega)] at q
    omega
theorem g_ena {x : Int32} {j : Nat} (h : x = Int32.ofNat j) (hj : j < 2147483648) : x.toNatClampNeg = j := by
  subst h
  exact Int32.toNatClampNeg_ofNat_of_lt (by omega)
theorem g_eadd {x y : Int32} {a b : Nat} (h1 : x = Int32.ofNat a) (h2 : y = Int32.ofNat b) : x + y = Int32.ofNat (a + b) := by
  rw [h1, h2, Int32.ofNat_add]
theorem g_emul {x y : Int32} {a b : Nat} (h1 : x = Int32.ofNat a) (h2 : y = Int32.ofNat b) : x * y = Int32.ofNat (a * b) := by
  rw [h1, h2, Int32.ofNat_mul]
theorem g_esub {x y : Int32} {a b : Nat} (h1 : x = Int32.ofNat a) (h2 : y = Int32.ofNat b) (h : b ≤ a) : x - y = Int32.ofNat (a - b) := by
  rw [h1, h2, Int32.ofNat_sub _ _ h]
theorem g_lt {k N : Nat} (h : k < N) (hN : N < 2147483648) : ¬ Int32.ofNat N ≤ Int32.ofNat k := by
  rw [Int32.ofNat_le_iff_le (by omega) (by omega)]
  omega
theorem g_inc (k : Nat) : Int32.ofNat k + Int32.ofInt 1 = Int32.ofNat (k + 1) := by
  rw [Int32.ofNat_add]
  rfl
theorem g_inco (k : Nat) : Int32.ofNat k + (-24 : Int32) + Int32.ofInt 1 = Int32.ofNat (k + 1) + (-24 : Int32) := by
  rw [← g_inc, Int32.add_assoc, Int32.add_comm (-24 : Int32), ← Int32.add_assoc]
theorem g_dn (n : Nat) : Int32.ofNat (n + 1) + (-1 : Int32) = Int32.ofNat n := by
  rw [← g_inc, Int32.add_assoc]
  have h : Int32.ofInt 1 + (-1 : Int32) = 0 := by decide
  rw [h, Int32.add_zero]
theorem g_dno (n : Nat) : Int32.ofNat n + (-24 : Int32) + Int32.ofInt (-1) = Int32.ofNat n + (-1 : Int32) + (-24 : Int32) := by
  rw [Int32.add_assoc, Int32.add_comm (-24 : Int32), ← Int32.add_assoc]
  rfl
theorem g_nneg {n : Nat} (h : n < 2147483648) : ¬ Int32.ofNat n < 0 := by
  rw [Int32.lt_iff_toInt_lt, Int32.toInt_ofNat_of_lt (by omega)]
  have h0 : (0 : Int32).toInt = 0 := rfl
  omega
theorem g_c49a' : ∀ n : Fin 49, ¬ Int32.ofNat n.val + (-24 : Int32) < (-24 : Int32) := by decide +kernel
theorem g_c49a {n : Nat} (h : n < 49) : ¬ Int32.ofNat n + (-24 : Int32) < (-24 : Int32) := g_c49a' ⟨n, h⟩
theorem g_c49b' : ∀ n : Fin 49, ¬ (24 : Int32) < Int32.ofNat n.val + (-24 : Int32) := by decide +kernel
theorem g_c49b {n : Nat} (h : n < 49) : ¬ (24 : Int32) < Int32.ofNat n + (-24 : Int32) := g_c49b' ⟨n, h⟩
theorem g_nar {v : Int32} (h : v = 0 ∨ v = 1) : narrow .boolean (.int v) = .int v := by
  rcases h with rfl | rfl
  · decide
  · decide
theorem g_zr {v : Int32} (h : v = 0 ∨ v = 1) : narrow .boolean (.int v) = .int v := g_nar h
theorem g_narv {v : Int32} (h : v = 0 ∨ v = 1) : vp_nar .boolean v = v := by
  unfold vp_nar
  rw [g_nar h]
theorem g_out3 {x : Int32} (h0 : ¬ x = 0) (h1 : ¬ x = 1) (h2 : ¬ x = 2) : x.toInt < 0 ∨ (2 : Int) < x.toInt := by
  rw [← Int32.toInt_inj] at h0 h1 h2
  have e0 : (0 : Int32).toInt = 0 := rfl
  have e1 : (1 : Int32).toInt = 1 := rfl
  have e2 : (2 : Int32).toInt = 2 := rfl
  omega
theorem g_ob2 {m : Int32} (h : 0 < m ∧ m ≤ 8) : 1 ≤ m.toNatClampNeg ∧ m.toNatClampNeg ≤ 8 := by
  obtain ⟨h1, h2⟩ := h
  rw [Int32.lt_iff_toInt_lt] at h1
  rw [Int32.le_iff_toInt_le] at h2
  have e0 : (0 : Int32).toInt = 0 := rfl
  have e8 : (8 : Int32).toInt = 8 := rfl
  have e := Int32.toNat_toInt m
  omega
theorem g_ob0 {m : Int32} {k : Nat} (h : 0 < m ∧ m ≤ 8) (hk : k = m.toNatClampNeg - 1) : m ≤ Int32.ofNat k + (1 : Int32) := by
  have h1 := g_ob2 h
  have h2 : Int32.ofNat k + (1 : Int32) = m := by
    have h3 : Int32.ofNat k + Int32.ofInt 1 = Int32.ofNat (k + 1) := g_inc k
    have h4 : k + 1 = m.toNatClampNeg := by omega
    rw [h4, Int32.ofNat_toNatClampNeg m (Int32.le_of_lt h.1)] at h3
    exact h3
  rw [h2]
  exact Int32.le_refl _
theorem g_ob1 {m : Int32} {k : Nat} (h : 0 < m ∧ m ≤ 8) (hk : k + 1 < m.toNatClampNeg) : ¬ m ≤ Int32.ofNat k + (1 : Int32) := by
  have h1 := g_ob2 h
  have h3 : Int32.ofNat k + (1 : Int32) = Int32.ofNat (k + 1) := g_inc k
  have h4 : Int32.ofNat m.toNatClampNeg = m := Int32.ofNat_toNatClampNeg m (Int32.le_of_lt h.1)
  rw [h3]
  have h5 := g_lt (k := k + 1) (N := m.toNatClampNeg) hk (by omega)
  rw [h4] at h5
  exact h5
end
section
/-! the two systems' shapes -/
def x_sh : g_Sh := [(0, 4, [0, 0, 3, 4, 5, 7, 11, 0, 0, 0]), (5, 4, [10, 11, 12, 13]), (3, 2, []), (0, 2, [6]), (4, 10, [14, 15, 16, 17, 18, 19, 20, 21, 22, 23]), (0, 0, [1, 1, 0, 8, 9, 10]), (3, 8, []), (3, 8, []), (1, 8, []), (0, 3, [0, 0, 0, 1, 0, 0, 1, 1]), (3, 2, []), (3, 2, []), (3, 2, []), (3, 2, [])] ++ (List.range 10).map (fun k => (0, 1, [0, 0, 0, 1, k + 26, k + 36, 1])) ++ List.replicate 20 (3, 2, [])
theorem x_at0 : x_sh[0]? = some (0, 4, [0, 0, 3, 4, 5, 7, 11, 0, 0, 0]) := by decide
theorem x_at1 : x_sh[1]? = some (1 + 4, 4, [10, 11, 12, 13]) := by decide
theorem x_at2 : x_sh[2]? = some (3, 2, []) := by decide
theorem x_at3 : x_sh[3]? = some (0, 2, [6]) := by decide
theorem x_at4 : x_sh[4]? = some (0 + 4, 10, [14, 15, 16, 17, 18, 19, 20, 21, 22, 23]) := by decide
theorem x_at5 : x_sh[5]? = some (0, 0, [1, 1, 0, 8, 9, 10]) := by decide
theorem x_at6 : x_sh[6]? = some (3, 8, []) := by decide
theorem x_at7 : x_sh[7]? = some (3, 8, []) := by decide
theorem x_at8 : x_sh[8]? = some (1, 8, []) := by decide
theorem x_at9 : x_sh[9]? = some (0, 3, [0, 0, 0, 1, 0, 0, 1, 1]) := by decide
theorem x_at10' : ∀ k : Fin 4, x_sh[k.val + 10]? = some (3, 2, []) := by decide
theorem x_at10 {k : Nat} (h : k < 4) : x_sh[k + 10]? = some (3, 2, []) := x_at10' ⟨k, h⟩
theorem x_at14' : ∀ k : Fin 10, x_sh[k.val + 14]? = some (0, 1, [0, 0, 0, 1, k.val + 26, k.val + 36, 1]) := by decide
theorem x_at14 {k : Nat} (h : k < 10) : x_sh[k + 14]? = some (0, 1, [0, 0, 0, 1, k + 26, k + 36, 1]) := x_at14' ⟨k, h⟩
theorem x_at24' : ∀ k : Fin 10, x_sh[k.val + 24]? = some (3, 2, []) := by decide
theorem x_at24 {k : Nat} (h : k < 10) : x_sh[k + 24]? = some (3, 2, []) := x_at24' ⟨k, h⟩
theorem x_at34' : ∀ k : Fin 10, x_sh[k.val + 34]? = some (3, 2, []) := by decide
theorem x_at34 {k : Nat} (h : k < 10) : x_sh[k + 34]? = some (3, 2, []) := x_at34' ⟨k, h⟩
theorem x_el1' : ∀ k : Fin 4, ([10, 11, 12, 13] : List Nat)[k.val]? = some (k.val + 10) := by decide
theorem x_el1 {i : Int32} {j : Nat} (h : i.toNatClampNeg = j) (hj : j < 4) : ([10, 11, 12, 13] : List Nat)[i.toNatClampNeg]? = some (j + 10) := by
  rw [h]
  exact x_el1' ⟨j, hj⟩
theorem x_el4' : ∀ k : Fin 10, ([14, 15, 16, 17, 18, 19, 20, 21, 22, 23] : List Nat)[k.val]? = some (k.val + 14) := by decide
theorem x_el4 {i : Int32} {j : Nat} (h : i.toNatClampNeg = j) (hj : j < 10) : ([14, 15, 16, 17, 18, 19, 20, 21, 22, 23] : List Nat)[i.toNatClampNeg]? = some (j + 14) := by
  rw [h]
  exact x_el4' ⟨j, hj⟩
def x_tys (dA : Nat → ClassId) : List (ClassId × FieldType) := [(dA 0, .int), (dA 0, .int), (dA 2, .long), (dA 3, .object "RangedPool$Lot"), (dA 4, .array .long)]
def r_sh : g_Sh := [(0, 5, [0, 0, 3, 0, 1, 0, 4, 5, 6, 7, 8, 9, 10, 11, 12, 1, 1, 0, 13, 14, 1, 0, 1, 1, 1, 15]), (3, 49, []), (3, 8, []), (3, 2, []), (2, 10, []), (1, 10, []), (1, 10, []), (1, 10, []), (3, 10, []), (3, 20, []), (3, 20, []), (3, 8, []), (3, 8, []), (3, 10, [])]
theorem r_at0 : r_sh[0]? = some (0, 5, [0, 0, 3, 0, 1, 0, 4, 5, 6, 7, 8, 9, 10, 11, 12, 1, 1, 0, 13, 14, 1, 0, 1, 1, 1, 15]) := by decide
theorem r_at1 : r_sh[1]? = some (3, 49, []) := by decide
theorem r_at2 : r_sh[2]? = some (3, 8, []) := by decide
theorem r_at3 : r_sh[3]? = some (3, 2, []) := by decide
theorem r_at4 : r_sh[4]? = some (2, 10, []) := by decide
theorem r_at5 : r_sh[5]? = some (1, 10, []) := by decide
theorem r_at6 : r_sh[6]? = some (1, 10, []) := by decide
theorem r_at7 : r_sh[7]? = some (1, 10, []) := by decide
theorem r_at8 : r_sh[8]? = some (3, 10, []) := by decide
theorem r_at9 : r_sh[9]? = some (3, 20, []) := by decide
theorem r_at10 : r_sh[10]? = some (3, 20, []) := by decide
theorem r_at11 : r_sh[11]? = some (3, 8, []) := by decide
theorem r_at12 : r_sh[12]? = some (3, 8, []) := by decide
theorem r_at13 : r_sh[13]? = some (3, 10, []) := by decide
def r_tys (dA : Nat → ClassId) : List (ClassId × FieldType) := [(dA 0, .int), (dA 1, .boolean), (dA 2, .long)]
/-- P(-24) .. P(24) -/
def x_tab (j : Nat) : Int32 := ([36223, 37129, 38058, 39010, 39986, 40986, 42011, 43062, 44139, 45243, 46375, 47535, 48724, 49943, 51192, 52472, 53784, 55129, 56508, 57921, 59370, 60855, 62377, 63937, 65536, 67174, 68853, 70574, 72338, 74146, 75999, 77898, 79845, 81841, 83887, 85984, 88133, 90336, 92594, 94908, 97280, 99712, 102204, 104759, 107377, 110061, 112812, 115632, 118522] : List Int32).getD j 0
/-- what the class needs besides its cells: nest words, the static table at tb -/
def x_Z (tb : Nat) : (Nat → Prop) → State → Prop := fun A U => (∀ w ∈ x_nest, va_Nw w U) ∧ va_Z "RangedPool" "STEP_PRICES" "[I" (.ref tb) A U U.heap ∧ va_T .int tb 49 (fun j => .int (x_tab j)) A U U.heap
def r_Z : (Nat → Prop) → State → Prop := fun _ _ => True
def g_isN : Cond → Bool
  | .fieldLinkNest _ _ _ _ _ _ => true
  | .methodLinkNest _ _ _ _ => true
  | _ => false
theorem g_isN_tab {w : Cond} (h : g_isN w = true) : w.onTables = true := by
  cases w <;> first | rfl | cases h
theorem g_isN_warm {w : Cond} (h : g_isN w = true) {s U : State} (hW : s.WarmedH U.vm) (hZ : va_Nw w s) : va_Nw w U := by
  cases w <;> first | exact va_Nw.warmF hW hZ | exact va_Nw.warmM hW hZ | cases h
theorem x_nestN : ∀ w ∈ x_nest, g_isN w = true := by decide +kernel
theorem x_Zok {tb : Nat} : g_Zok (x_Z tb) := by
  refine ⟨fun A U g mk a h => ?_, fun A B s U hW hq hAB h => ?_⟩
  · obtain ⟨h1, h2, h3⟩ := h
    exact ⟨fun w hw => va_Nw.same (u := U) (U := U.calling g mk a) (g_isN_tab (x_nestN w hw)) rfl (h1 w hw), va_Z.moved (u := U) (U := U.calling g mk a) (Vm.Alike.refl U.vm) h2, va_T.moved (u := U) (U := U.calling g mk a) (Vm.Alike.refl U.vm) h3⟩
  · obtain ⟨h1, h2, h3⟩ := h
    exact ⟨fun w hw => g_isN_warm (x_nestN w hw) hW (h1 w hw), ((va_Z.moved hW.alike h2).kept hq).narrow hAB, ((va_T.moved hW.alike h3).kept hq).narrow hAB⟩
theorem r_Zok : g_Zok r_Z := ⟨fun _ _ _ _ _ _ => trivial, fun _ _ _ _ _ _ _ _ => trivial⟩
end
section
theorem d_B_init_0 : decode b_B_init 0 = .ok (.aload_n 0, 1) := by decide +kernel
theorem d_B_init_1 : decode b_B_init 1 = .ok (.invokespecial 3, 3) := by decide +kernel
theorem d_B_init_4 : decode b_B_init 4 = .ok (.aload_n 0, 1) := by decide +kernel
theorem d_B_init_5 : decode b_B_init 5 = .ok (.bipush 10, 2) := by decide +kernel
theorem d_B_init_7 : decode b_B_init 7 = .ok (.anewarray 9, 3) := by decide +kernel
theorem d_B_init_10 : decode b_B_init 10 = .ok (.putfield 11, 3) := by decide +kernel
theorem d_B_init_13 : decode b_B_init 13 = .ok (.iconst 0, 1) := by decide +kernel
theorem d_B_init_14 : decode b_B_init 14 = .ok (.istore_n 1, 1) := by decide +kernel
theorem d_B_init_15 : decode b_B_init 15 = .ok (.iload_n 1, 1) := by decide +kernel
theorem d_B_init_16 : decode b_B_init 16 = .ok (.bipush 10, 2) := by decide +kernel
theorem d_B_init_18 : decode b_B_init 18 = .ok (.if_icmp .ge 22, 3) := by decide +kernel
theorem d_B_init_21 : decode b_B_init 21 = .ok (.aload_n 0, 1) := by decide +kernel
theorem d_B_init_22 : decode b_B_init 22 = .ok (.getfield 11, 3) := by decide +kernel
theorem d_B_init_25 : decode b_B_init 25 = .ok (.iload_n 1, 1) := by decide +kernel
theorem d_B_init_26 : decode b_B_init 26 = .ok (.new 9, 3) := by decide +kernel
theorem d_B_init_29 : decode b_B_init 29 = .ok (.dup, 1) := by decide +kernel
theorem d_B_init_30 : decode b_B_init 30 = .ok (.invokespecial 17, 3) := by decide +kernel
theorem d_B_init_33 : decode b_B_init 33 = .ok (.aastore, 1) := by decide +kernel
theorem d_B_init_34 : decode b_B_init 34 = .ok (.iinc 1 1, 3) := by decide +kernel
theorem d_B_init_37 : decode b_B_init 37 = .ok (.goto (-22), 3) := by decide +kernel
theorem d_B_init_40 : decode b_B_init 40 = .ok (.return_, 1) := by decide +kernel
theorem d_B_find_0 : decode b_B_find 0 = .ok (.aload_n 0, 1) := by decide +kernel
theorem d_B_find_1 : decode b_B_find 1 = .ok (.getfield 11, 3) := by decide +kernel
theorem d_B_find_4 : decode b_B_find 4 = .ok (.astore 4, 2) := by decide +kernel
theorem d_B_find_6 : decode b_B_find 6 = .ok (.aload 4, 2) := by decide +kernel
theorem d_B_find_8 : decode b_B_find 8 = .ok (.arraylength, 1) := by decide +kernel
theorem d_B_find_9 : decode b_B_find 9 = .ok (.istore 5, 2) := by decide +kernel
theorem d_B_find_11 : decode b_B_find 11 = .ok (.iconst 0, 1) := by decide +kernel
theorem d_B_find_12 : decode b_B_find 12 = .ok (.istore 6, 2) := by decide +kernel
theorem d_B_find_14 : decode b_B_find 14 = .ok (.iload 6, 2) := by decide +kernel
theorem d_B_find_16 : decode b_B_find 16 = .ok (.iload 5, 2) := by decide +kernel
theorem d_B_find_18 : decode b_B_find 18 = .ok (.if_icmp .ge 38, 3) := by decide +kernel
theorem d_B_find_21 : decode b_B_find 21 = .ok (.aload 4, 2) := by decide +kernel
theorem d_B_find_23 : decode b_B_find 23 = .ok (.iload 6, 2) := by decide +kernel
theorem d_B_find_25 : decode b_B_find 25 = .ok (.aaload, 1) := by decide +kernel
theorem d_B_find_26 : decode b_B_find 26 = .ok (.astore 7, 2) := by decide +kernel
theorem d_B_find_28 : decode b_B_find 28 = .ok (.aload 7, 2) := by decide +kernel
theorem d_B_find_30 : decode b_B_find 30 = .ok (.invokevirtual 18, 3) := by decide +kernel
theorem d_B_find_33 : decode b_B_find 33 = .ok (.ifCond .eq 17, 3) := by decide +kernel
theorem d_B_find_36 : decode b_B_find 36 = .ok (.aload 7, 2) := by decide +kernel
theorem d_B_find_38 : decode b_B_find 38 = .ok (.iload_n 1, 1) := by decide +kernel
theorem d_B_find_39 : decode b_B_find 39 = .ok (.iload_n 2, 1) := by decide +kernel
theorem d_B_find_40 : decode b_B_find 40 = .ok (.iload_n 3, 1) := by decide +kernel
theorem d_B_find_41 : decode b_B_find 41 = .ok (.invokevirtual 22, 3) := by decide +kernel
theorem d_B_find_44 : decode b_B_find 44 = .ok (.ifCond .eq 6, 3) := by decide +kernel
theorem d_B_find_47 : decode b_B_find 47 = .ok (.aload 7, 2) := by decide +kernel
theorem d_B_find_49 : decode b_B_find 49 = .ok (.areturn, 1) := by decide +kernel
theorem d_B_find_50 : decode b_B_find 50 = .ok (.iinc 6 1, 3) := by decide +kernel
theorem d_B_find_53 : decode b_B_find 53 = .ok (.goto (-39), 3) := by decide +kernel
theorem d_B_find_56 : decode b_B_find 56 = .ok (.aconst_null, 1) := by decide +kernel
theorem d_B_find_57 : decode b_B_find 57 = .ok (.areturn, 1) := by decide +kernel
theorem d_B_findOrFree_0 : decode b_B_findOrFree 0 = .ok (.aload_n 0, 1) := by decide +kernel
theorem d_B_findOrFree_1 : decode b_B_findOrFree 1 = .ok (.iload_n 1, 1) := by decide +kernel
theorem d_B_findOrFree_2 : decode b_B_findOrFree 2 = .ok (.iload_n 2, 1) := by decide +kernel
theorem d_B_findOrFree_3 : decode b_B_findOrFree 3 = .ok (.iload_n 3, 1) := by decide +kernel
theorem d_B_findOrFree_4 : decode b_B_findOrFree 4 = .ok (.invokevirtual 26, 3) := by decide +kernel
theorem d_B_findOrFree_7 : decode b_B_findOrFree 7 = .ok (.astore 4, 2) := by decide +kernel
theorem d_B_findOrFree_9 : decode b_B_findOrFree 9 = .ok (.iconst 0, 1) := by decide +kernel
theorem d_B_findOrFree_10 : decode b_B_findOrFree 10 = .ok (.istore 5, 2) := by decide +kernel
theorem d_B_findOrFree_12 : decode b_B_findOrFree 12 = .ok (.iload 5, 2) := by decide +kernel
theorem d_B_findOrFree_14 : decode b_B_findOrFree 14 = .ok (.bipush 10, 2) := by decide +kernel
theorem d_B_findOrFree_16 : decode b_B_findOrFree 16 = .ok (.if_icmp .ge 36, 3) := by decide +kernel
theorem d_B_findOrFree_19 : decode b_B_findOrFree 19 = .ok (.aload 4, 2) := by decide +kernel
theorem d_B_findOrFree_21 : decode b_B_findOrFree 21 = .ok (.ifnonnull 31, 3) := by decide +kernel
theorem d_B_findOrFree_24 : decode b_B_findOrFree 24 = .ok (.aload_n 0, 1) := by decide +kernel
theorem d_B_findOrFree_25 : decode b_B_findOrFree 25 = .ok (.getfield 11, 3) := by decide +kernel
theorem d_B_findOrFree_28 : decode b_B_findOrFree 28 = .ok (.iload 5, 2) := by decide +kernel
theorem d_B_findOrFree_30 : decode b_B_findOrFree 30 = .ok (.aaload, 1) := by decide +kernel
theorem d_B_findOrFree_31 : decode b_B_findOrFree 31 = .ok (.invokevirtual 18, 3) := by decide +kernel
theorem d_B_findOrFree_34 : decode b_B_findOrFree 34 = .ok (.ifCond .ne 12, 3) := by decide +kernel
theorem d_B_findOrFree_37 : decode b_B_findOrFree 37 = .ok (.aload_n 0, 1) := by decide +kernel
theorem d_B_findOrFree_38 : decode b_B_findOrFree 38 = .ok (.getfield 11, 3) := by decide +kernel
theorem d_B_findOrFree_41 : decode b_B_findOrFree 41 = .ok (.iload 5, 2) := by decide +kernel
theorem d_B_findOrFree_43 : decode b_B_findOrFree 43 = .ok (.aaload, 1) := by decide +kernel
theorem d_B_findOrFree_44 : decode b_B_findOrFree 44 = .ok (.astore 4, 2) := by decide +kernel
theorem d_B_findOrFree_46 : decode b_B_findOrFree 46 = .ok (.iinc 5 1, 3) := by decide +kernel
theorem d_B_findOrFree_49 : decode b_B_findOrFree 49 = .ok (.goto (-37), 3) := by decide +kernel
theorem d_B_findOrFree_52 : decode b_B_findOrFree 52 = .ok (.aload 4, 2) := by decide +kernel
theorem d_B_findOrFree_54 : decode b_B_findOrFree 54 = .ok (.areturn, 1) := by decide +kernel
theorem d_B_totalLiquidity_0 : decode b_B_totalLiquidity 0 = .ok (.lconst 0, 1) := by decide +kernel
theorem d_B_totalLiquidity_1 : decode b_B_totalLiquidity 1 = .ok (.lstore_n 1, 1) := by decide +kernel
theorem d_B_totalLiquidity_2 : decode b_B_totalLiquidity 2 = .ok (.aload_n 0, 1) := by decide +kernel
theorem d_B_totalLiquidity_3 : decode b_B_totalLiquidity 3 = .ok (.getfield 11, 3) := by decide +kernel
theorem d_B_totalLiquidity_6 : decode b_B_totalLiquidity 6 = .ok (.astore_n 3, 1) := by decide +kernel
theorem d_B_totalLiquidity_7 : decode b_B_totalLiquidity 7 = .ok (.aload_n 3, 1) := by decide +kernel
theorem d_B_totalLiquidity_8 : decode b_B_totalLiquidity 8 = .ok (.arraylength, 1) := by decide +kernel
theorem d_B_totalLiquidity_9 : decode b_B_totalLiquidity 9 = .ok (.istore 4, 2) := by decide +kernel
theorem d_B_totalLiquidity_11 : decode b_B_totalLiquidity 11 = .ok (.iconst 0, 1) := by decide +kernel
theorem d_B_totalLiquidity_12 : decode b_B_totalLiquidity 12 = .ok (.istore 5, 2) := by decide +kernel
theorem d_B_totalLiquidity_14 : decode b_B_totalLiquidity 14 = .ok (.iload 5, 2) := by decide +kernel
theorem d_B_totalLiquidity_16 : decode b_B_totalLiquidity 16 = .ok (.iload 4, 2) := by decide +kernel
theorem d_B_totalLiquidity_18 : decode b_B_totalLiquidity 18 = .ok (.if_icmp .ge 23, 3) := by decide +kernel
theorem d_B_totalLiquidity_21 : decode b_B_totalLiquidity 21 = .ok (.aload_n 3, 1) := by decide +kernel
theorem d_B_totalLiquidity_22 : decode b_B_totalLiquidity 22 = .ok (.iload 5, 2) := by decide +kernel
theorem d_B_totalLiquidity_24 : decode b_B_totalLiquidity 24 = .ok (.aaload, 1) := by decide +kernel
theorem d_B_totalLiquidity_25 : decode b_B_totalLiquidity 25 = .ok (.astore 6, 2) := by decide +kernel
theorem d_B_totalLiquidity_27 : decode b_B_totalLiquidity 27 = .ok (.lload_n 1, 1) := by decide +kernel
theorem d_B_totalLiquidity_28 : decode b_B_totalLiquidity 28 = .ok (.aload 6, 2) := by decide +kernel
theorem d_B_totalLiquidity_30 : decode b_B_totalLiquidity 30 = .ok (.getfield 30, 3) := by decide +kernel
theorem d_B_totalLiquidity_33 : decode b_B_totalLiquidity 33 = .ok (.ladd, 1) := by decide +kernel
theorem d_B_totalLiquidity_34 : decode b_B_totalLiquidity 34 = .ok (.lstore_n 1, 1) := by decide +kernel
theorem d_B_totalLiquidity_35 : decode b_B_totalLiquidity 35 = .ok (.iinc 5 1, 3) := by decide +kernel
theorem d_B_totalLiquidity_38 : decode b_B_totalLiquidity 38 = .ok (.goto (-24), 3) := by decide +kernel
theorem d_B_totalLiquidity_41 : decode b_B_totalLiquidity 41 = .ok (.lload_n 1, 1) := by decide +kernel
theorem d_B_totalLiquidity_42 : decode b_B_totalLiquidity 42 = .ok (.lreturn, 1) := by decide +kernel
theorem d_B_depthAt_0 : decode b_B_depthAt 0 = .ok (.lconst 0, 1) := by decide +kernel
theorem d_B_depthAt_1 : decode b_B_depthAt 1 = .ok (.lstore_n 2, 1) := by decide +kernel
theorem d_B_depthAt_2 : decode b_B_depthAt 2 = .ok (.aload_n 0, 1) := by decide +kernel
theorem d_B_depthAt_3 : decode b_B_depthAt 3 = .ok (.getfield 11, 3) := by decide +kernel
theorem d_B_depthAt_6 : decode b_B_depthAt 6 = .ok (.astore 4, 2) := by decide +kernel
theorem d_B_depthAt_8 : decode b_B_depthAt 8 = .ok (.aload 4, 2) := by decide +kernel
theorem d_B_depthAt_10 : decode b_B_depthAt 10 = .ok (.arraylength, 1) := by decide +kernel
theorem d_B_depthAt_11 : decode b_B_depthAt 11 = .ok (.istore 5, 2) := by decide +kernel
theorem d_B_depthAt_13 : decode b_B_depthAt 13 = .ok (.iconst 0, 1) := by decide +kernel
theorem d_B_depthAt_14 : decode b_B_depthAt 14 = .ok (.istore 6, 2) := by decide +kernel
theorem d_B_depthAt_16 : decode b_B_depthAt 16 = .ok (.iload 6, 2) := by decide +kernel
theorem d_B_depthAt_18 : decode b_B_depthAt 18 = .ok (.iload 5, 2) := by decide +kernel
theorem d_B_depthAt_20 : decode b_B_depthAt 20 = .ok (.if_icmp .ge 33, 3) := by decide +kernel
theorem d_B_depthAt_23 : decode b_B_depthAt 23 = .ok (.aload 4, 2) := by decide +kernel
theorem d_B_depthAt_25 : decode b_B_depthAt 25 = .ok (.iload 6, 2) := by decide +kernel
theorem d_B_depthAt_27 : decode b_B_depthAt 27 = .ok (.aaload, 1) := by decide +kernel
theorem d_B_depthAt_28 : decode b_B_depthAt 28 = .ok (.astore 7, 2) := by decide +kernel
theorem d_B_depthAt_30 : decode b_B_depthAt 30 = .ok (.aload 7, 2) := by decide +kernel
theorem d_B_depthAt_32 : decode b_B_depthAt 32 = .ok (.iload_n 1, 1) := by decide +kernel
theorem d_B_depthAt_33 : decode b_B_depthAt 33 = .ok (.invokevirtual 34, 3) := by decide +kernel
theorem d_B_depthAt_36 : decode b_B_depthAt 36 = .ok (.ifCond .eq 11, 3) := by decide +kernel
theorem d_B_depthAt_39 : decode b_B_depthAt 39 = .ok (.lload_n 2, 1) := by decide +kernel
theorem d_B_depthAt_40 : decode b_B_depthAt 40 = .ok (.aload 7, 2) := by decide +kernel
theorem d_B_depthAt_42 : decode b_B_depthAt 42 = .ok (.getfield 30, 3) := by decide +kernel
theorem d_B_depthAt_45 : decode b_B_depthAt 45 = .ok (.ladd, 1) := by decide +kernel
theorem d_B_depthAt_46 : decode b_B_depthAt 46 = .ok (.lstore_n 2, 1) := by decide +kernel
theorem d_B_depthAt_47 : decode b_B_depthAt 47 = .ok (.iinc 6 1, 3) := by decide +kernel
theorem d_B_depthAt_50 : decode b_B_depthAt 50 = .ok (.goto (-34), 3) := by decide +kernel
theorem d_B_depthAt_53 : decode b_B_depthAt 53 = .ok (.lload_n 2, 1) := by decide +kernel
theorem d_B_depthAt_54 : decode b_B_depthAt 54 = .ok (.lreturn, 1) := by decide +kernel
theorem d_B_netAt_0 : decode b_B_netAt 0 = .ok (.lconst 0, 1) := by decide +kernel
theorem d_B_netAt_1 : decode b_B_netAt 1 = .ok (.lstore_n 2, 1) := by decide +kernel
theorem d_B_netAt_2 : decode b_B_netAt 2 = .ok (.aload_n 0, 1) := by decide +kernel
theorem d_B_netAt_3 : decode b_B_netAt 3 = .ok (.getfield 11, 3) := by decide +kernel
theorem d_B_netAt_6 : decode b_B_netAt 6 = .ok (.astore 4, 2) := by decide +kernel
theorem d_B_netAt_8 : decode b_B_netAt 8 = .ok (.aload 4, 2) := by decide +kernel
theorem d_B_netAt_10 : decode b_B_netAt 10 = .ok (.arraylength, 1) := by decide +kernel
theorem d_B_netAt_11 : decode b_B_netAt 11 = .ok (.istore 5, 2) := by decide +kernel
theorem d_B_netAt_13 : decode b_B_netAt 13 = .ok (.iconst 0, 1) := by decide +kernel
theorem d_B_netAt_14 : decode b_B_netAt 14 = .ok (.istore 6, 2) := by decide +kernel
theorem d_B_netAt_16 : decode b_B_netAt 16 = .ok (.iload 6, 2) := by decide +kernel
theorem d_B_netAt_18 : decode b_B_netAt 18 = .ok (.iload 5, 2) := by decide +kernel
theorem d_B_netAt_20 : decode b_B_netAt 20 = .ok (.if_icmp .ge 50, 3) := by decide +kernel
theorem d_B_netAt_23 : decode b_B_netAt 23 = .ok (.aload 4, 2) := by decide +kernel
theorem d_B_netAt_25 : decode b_B_netAt 25 = .ok (.iload 6, 2) := by decide +kernel
theorem d_B_netAt_27 : decode b_B_netAt 27 = .ok (.aaload, 1) := by decide +kernel
theorem d_B_netAt_28 : decode b_B_netAt 28 = .ok (.astore 7, 2) := by decide +kernel
theorem d_B_netAt_30 : decode b_B_netAt 30 = .ok (.aload 7, 2) := by decide +kernel
theorem d_B_netAt_32 : decode b_B_netAt 32 = .ok (.getfield 38, 3) := by decide +kernel
theorem d_B_netAt_35 : decode b_B_netAt 35 = .ok (.iload_n 1, 1) := by decide +kernel
theorem d_B_netAt_36 : decode b_B_netAt 36 = .ok (.if_icmp .ne 11, 3) := by decide +kernel
theorem d_B_netAt_39 : decode b_B_netAt 39 = .ok (.lload_n 2, 1) := by decide +kernel
theorem d_B_netAt_40 : decode b_B_netAt 40 = .ok (.aload 7, 2) := by decide +kernel
theorem d_B_netAt_42 : decode b_B_netAt 42 = .ok (.getfield 30, 3) := by decide +kernel
theorem d_B_netAt_45 : decode b_B_netAt 45 = .ok (.ladd, 1) := by decide +kernel
theorem d_B_netAt_46 : decode b_B_netAt 46 = .ok (.lstore_n 2, 1) := by decide +kernel
theorem d_B_netAt_47 : decode b_B_netAt 47 = .ok (.aload 7, 2) := by decide +kernel
theorem d_B_netAt_49 : decode b_B_netAt 49 = .ok (.getfield 42, 3) := by decide +kernel
theorem d_B_netAt_52 : decode b_B_netAt 52 = .ok (.iload_n 1, 1) := by decide +kernel
theorem d_B_netAt_53 : decode b_B_netAt 53 = .ok (.if_icmp .ne 11, 3) := by decide +kernel
theorem d_B_netAt_56 : decode b_B_netAt 56 = .ok (.lload_n 2, 1) := by decide +kernel
theorem d_B_netAt_57 : decode b_B_netAt 57 = .ok (.aload 7, 2) := by decide +kernel
theorem d_B_netAt_59 : decode b_B_netAt 59 = .ok (.getfield 30, 3) := by decide +kernel
theorem d_B_netAt_62 : decode b_B_netAt 62 = .ok (.lsub, 1) := by decide +kernel
theorem d_B_netAt_63 : decode b_B_netAt 63 = .ok (.lstore_n 2, 1) := by decide +kernel
theorem d_B_netAt_64 : decode b_B_netAt 64 = .ok (.iinc 6 1, 3) := by decide +kernel
theorem d_B_netAt_67 : decode b_B_netAt 67 = .ok (.goto (-51), 3) := by decide +kernel
theorem d_B_netAt_70 : decode b_B_netAt 70 = .ok (.lload_n 2, 1) := by decide +kernel
theorem d_B_netAt_71 : decode b_B_netAt 71 = .ok (.lreturn, 1) := by decide +kernel
theorem d_B_markedAtOrBelow_0 : decode b_B_markedAtOrBelow 0 = .ok (.sipush 1000, 3) := by decide +kernel
theorem d_B_markedAtOrBelow_3 : decode b_B_markedAtOrBelow 3 = .ok (.istore_n 2, 1) := by decide +kernel
theorem d_B_markedAtOrBelow_4 : decode b_B_markedAtOrBelow 4 = .ok (.aload_n 0, 1) := by decide +kernel
theorem d_B_markedAtOrBelow_5 : decode b_B_markedAtOrBelow 5 = .ok (.getfield 11, 3) := by decide +kernel
theorem d_B_markedAtOrBelow_8 : decode b_B_markedAtOrBelow 8 = .ok (.astore_n 3, 1) := by decide +kernel
theorem d_B_markedAtOrBelow_9 : decode b_B_markedAtOrBelow 9 = .ok (.aload_n 3, 1) := by decide +kernel
theorem d_B_markedAtOrBelow_10 : decode b_B_markedAtOrBelow 10 = .ok (.arraylength, 1) := by decide +kernel
theorem d_B_markedAtOrBelow_11 : decode b_B_markedAtOrBelow 11 = .ok (.istore 4, 2) := by decide +kernel
theorem d_B_markedAtOrBelow_13 : decode b_B_markedAtOrBelow 13 = .ok (.iconst 0, 1) := by decide +kernel
theorem d_B_markedAtOrBelow_14 : decode b_B_markedAtOrBelow 14 = .ok (.istore 5, 2) := by decide +kernel
theorem d_B_markedAtOrBelow_16 : decode b_B_markedAtOrBelow 16 = .ok (.iload 5, 2) := by decide +kernel
theorem d_B_markedAtOrBelow_18 : decode b_B_markedAtOrBelow 18 = .ok (.iload 4, 2) := by decide +kernel
theorem d_B_markedAtOrBelow_20 : decode b_B_markedAtOrBelow 20 = .ok (.if_icmp .ge 81, 3) := by decide +kernel
theorem d_B_markedAtOrBelow_23 : decode b_B_markedAtOrBelow 23 = .ok (.aload_n 3, 1) := by decide +kernel
theorem d_B_markedAtOrBelow_24 : decode b_B_markedAtOrBelow 24 = .ok (.iload 5, 2) := by decide +kernel
theorem d_B_markedAtOrBelow_26 : decode b_B_markedAtOrBelow 26 = .ok (.aaload, 1) := by decide +kernel
theorem d_B_markedAtOrBelow_27 : decode b_B_markedAtOrBelow 27 = .ok (.astore 6, 2) := by decide +kernel
theorem d_B_markedAtOrBelow_29 : decode b_B_markedAtOrBelow 29 = .ok (.aload 6, 2) := by decide +kernel
theorem d_B_markedAtOrBelow_31 : decode b_B_markedAtOrBelow 31 = .ok (.getfield 30, 3) := by decide +kernel
theorem d_B_markedAtOrBelow_34 : decode b_B_markedAtOrBelow 34 = .ok (.lconst 0, 1) := by decide +kernel
theorem d_B_markedAtOrBelow_35 : decode b_B_markedAtOrBelow 35 = .ok (.lcmp, 1) := by decide +kernel
theorem d_B_markedAtOrBelow_36 : decode b_B_markedAtOrBelow 36 = .ok (.ifCond .eq 59, 3) := by decide +kernel
theorem d_B_markedAtOrBelow_39 : decode b_B_markedAtOrBelow 39 = .ok (.aload 6, 2) := by decide +kernel
theorem d_B_markedAtOrBelow_41 : decode b_B_markedAtOrBelow 41 = .ok (.getfield 38, 3) := by decide +kernel
theorem d_B_markedAtOrBelow_44 : decode b_B_markedAtOrBelow 44 = .ok (.iload_n 1, 1) := by decide +kernel
theorem d_B_markedAtOrBelow_45 : decode b_B_markedAtOrBelow 45 = .ok (.if_icmp .le 6, 3) := by decide +kernel
theorem d_B_markedAtOrBelow_48 : decode b_B_markedAtOrBelow 48 = .ok (.goto 47, 3) := by decide +kernel
theorem d_B_markedAtOrBelow_51 : decode b_B_markedAtOrBelow 51 = .ok (.aload 6, 2) := by decide +kernel
theorem d_B_markedAtOrBelow_53 : decode b_B_markedAtOrBelow 53 = .ok (.getfield 42, 3) := by decide +kernel
theorem d_B_markedAtOrBelow_56 : decode b_B_markedAtOrBelow 56 = .ok (.iload_n 1, 1) := by decide +kernel
theorem d_B_markedAtOrBelow_57 : decode b_B_markedAtOrBelow 57 = .ok (.if_icmp .gt 11, 3) := by decide +kernel
theorem d_B_markedAtOrBelow_60 : decode b_B_markedAtOrBelow 60 = .ok (.aload 6, 2) := by decide +kernel
theorem d_B_markedAtOrBelow_62 : decode b_B_markedAtOrBelow 62 = .ok (.getfield 42, 3) := by decide +kernel
theorem d_B_markedAtOrBelow_65 : decode b_B_markedAtOrBelow 65 = .ok (.goto 8, 3) := by decide +kernel
theorem d_B_markedAtOrBelow_68 : decode b_B_markedAtOrBelow 68 = .ok (.aload 6, 2) := by decide +kernel
theorem d_B_markedAtOrBelow_70 : decode b_B_markedAtOrBelow 70 = .ok (.getfield 38, 3) := by decide +kernel
theorem d_B_markedAtOrBelow_73 : decode b_B_markedAtOrBelow 73 = .ok (.istore 7, 2) := by decide +kernel
theorem d_B_markedAtOrBelow_75 : decode b_B_markedAtOrBelow 75 = .ok (.iload_n 2, 1) := by decide +kernel
theorem d_B_markedAtOrBelow_76 : decode b_B_markedAtOrBelow 76 = .ok (.sipush 1000, 3) := by decide +kernel
theorem d_B_markedAtOrBelow_79 : decode b_B_markedAtOrBelow 79 = .ok (.if_icmp .eq 9, 3) := by decide +kernel
theorem d_B_markedAtOrBelow_82 : decode b_B_markedAtOrBelow 82 = .ok (.iload 7, 2) := by decide +kernel
theorem d_B_markedAtOrBelow_84 : decode b_B_markedAtOrBelow 84 = .ok (.iload_n 2, 1) := by decide +kernel
theorem d_B_markedAtOrBelow_85 : decode b_B_markedAtOrBelow 85 = .ok (.if_icmp .le 8, 3) := by decide +kernel
theorem d_B_markedAtOrBelow_88 : decode b_B_markedAtOrBelow 88 = .ok (.iload 7, 2) := by decide +kernel
theorem d_B_markedAtOrBelow_90 : decode b_B_markedAtOrBelow 90 = .ok (.goto 4, 3) := by decide +kernel
theorem d_B_markedAtOrBelow_93 : decode b_B_markedAtOrBelow 93 = .ok (.iload_n 2, 1) := by decide +kernel
theorem d_B_markedAtOrBelow_94 : decode b_B_markedAtOrBelow 94 = .ok (.istore_n 2, 1) := by decide +kernel
theorem d_B_markedAtOrBelow_95 : decode b_B_markedAtOrBelow 95 = .ok (.iinc 5 1, 3) := by decide +kernel
theorem d_B_markedAtOrBelow_98 : decode b_B_markedAtOrBelow 98 = .ok (.goto (-82), 3) := by decide +kernel
theorem d_B_markedAtOrBelow_101 : decode b_B_markedAtOrBelow 101 = .ok (.iload_n 2, 1) := by decide +kernel
theorem d_B_markedAtOrBelow_102 : decode b_B_markedAtOrBelow 102 = .ok (.ireturn, 1) := by decide +kernel
theorem d_B_markedAbove_0 : decode b_B_markedAbove 0 = .ok (.sipush 1000, 3) := by decide +kernel
theorem d_B_markedAbove_3 : decode b_B_markedAbove 3 = .ok (.istore_n 2, 1) := by decide +kernel
theorem d_B_markedAbove_4 : decode b_B_markedAbove 4 = .ok (.aload_n 0, 1) := by decide +kernel
theorem d_B_markedAbove_5 : decode b_B_markedAbove 5 = .ok (.getfield 11, 3) := by decide +kernel
theorem d_B_markedAbove_8 : decode b_B_markedAbove 8 = .ok (.astore_n 3, 1) := by decide +kernel
theorem d_B_markedAbove_9 : decode b_B_markedAbove 9 = .ok (.aload_n 3, 1) := by decide +kernel
theorem d_B_markedAbove_10 : decode b_B_markedAbove 10 = .ok (.arraylength, 1) := by decide +kernel
theorem d_B_markedAbove_11 : decode b_B_markedAbove 11 = .ok (.istore 4, 2) := by decide +kernel
theorem d_B_markedAbove_13 : decode b_B_markedAbove 13 = .ok (.iconst 0, 1) := by decide +kernel
theorem d_B_markedAbove_14 : decode b_B_markedAbove 14 = .ok (.istore 5, 2) := by decide +kernel
theorem d_B_markedAbove_16 : decode b_B_markedAbove 16 = .ok (.iload 5, 2) := by decide +kernel
theorem d_B_markedAbove_18 : decode b_B_markedAbove 18 = .ok (.iload 4, 2) := by decide +kernel
theorem d_B_markedAbove_20 : decode b_B_markedAbove 20 = .ok (.if_icmp .ge 81, 3) := by decide +kernel
theorem d_B_markedAbove_23 : decode b_B_markedAbove 23 = .ok (.aload_n 3, 1) := by decide +kernel
theorem d_B_markedAbove_24 : decode b_B_markedAbove 24 = .ok (.iload 5, 2) := by decide +kernel
theorem d_B_markedAbove_26 : decode b_B_markedAbove 26 = .ok (.aaload, 1) := by decide +kernel
theorem d_B_markedAbove_27 : decode b_B_markedAbove 27 = .ok (.astore 6, 2) := by decide +kernel
theorem d_B_markedAbove_29 : decode b_B_markedAbove 29 = .ok (.aload 6, 2) := by decide +kernel
theorem d_B_markedAbove_31 : decode b_B_markedAbove 31 = .ok (.getfield 30, 3) := by decide +kernel
theorem d_B_markedAbove_34 : decode b_B_markedAbove 34 = .ok (.lconst 0, 1) := by decide +kernel
theorem d_B_markedAbove_35 : decode b_B_markedAbove 35 = .ok (.lcmp, 1) := by decide +kernel
theorem d_B_markedAbove_36 : decode b_B_markedAbove 36 = .ok (.ifCond .eq 59, 3) := by decide +kernel
theorem d_B_markedAbove_39 : decode b_B_markedAbove 39 = .ok (.aload 6, 2) := by decide +kernel
theorem d_B_markedAbove_41 : decode b_B_markedAbove 41 = .ok (.getfield 42, 3) := by decide +kernel
theorem d_B_markedAbove_44 : decode b_B_markedAbove 44 = .ok (.iload_n 1, 1) := by decide +kernel
theorem d_B_markedAbove_45 : decode b_B_markedAbove 45 = .ok (.if_icmp .gt 6, 3) := by decide +kernel
theorem d_B_markedAbove_48 : decode b_B_markedAbove 48 = .ok (.goto 47, 3) := by decide +kernel
theorem d_B_markedAbove_51 : decode b_B_markedAbove 51 = .ok (.aload 6, 2) := by decide +kernel
theorem d_B_markedAbove_53 : decode b_B_markedAbove 53 = .ok (.getfield 38, 3) := by decide +kernel
theorem d_B_markedAbove_56 : decode b_B_markedAbove 56 = .ok (.iload_n 1, 1) := by decide +kernel
theorem d_B_markedAbove_57 : decode b_B_markedAbove 57 = .ok (.if_icmp .le 11, 3) := by decide +kernel
theorem d_B_markedAbove_60 : decode b_B_markedAbove 60 = .ok (.aload 6, 2) := by decide +kernel
theorem d_B_markedAbove_62 : decode b_B_markedAbove 62 = .ok (.getfield 38, 3) := by decide +kernel
theorem d_B_markedAbove_65 : decode b_B_markedAbove 65 = .ok (.goto 8, 3) := by decide +kernel
theorem d_B_markedAbove_68 : decode b_B_markedAbove 68 = .ok (.aload 6, 2) := by decide +kernel
theorem d_B_markedAbove_70 : decode b_B_markedAbove 70 = .ok (.getfield 42, 3) := by decide +kernel
theorem d_B_markedAbove_73 : decode b_B_markedAbove 73 = .ok (.istore 7, 2) := by decide +kernel
theorem d_B_markedAbove_75 : decode b_B_markedAbove 75 = .ok (.iload_n 2, 1) := by decide +kernel
theorem d_B_markedAbove_76 : decode b_B_markedAbove 76 = .ok (.sipush 1000, 3) := by decide +kernel
theorem d_B_markedAbove_79 : decode b_B_markedAbove 79 = .ok (.if_icmp .eq 9, 3) := by decide +kernel
theorem d_B_markedAbove_82 : decode b_B_markedAbove 82 = .ok (.iload 7, 2) := by decide +kernel
theorem d_B_markedAbove_84 : decode b_B_markedAbove 84 = .ok (.iload_n 2, 1) := by decide +kernel
theorem d_B_markedAbove_85 : decode b_B_markedAbove 85 = .ok (.if_icmp .ge 8, 3) := by decide +kernel
theorem d_B_markedAbove_88 : decode b_B_markedAbove 88 = .ok (.iload 7, 2) := by decide +kernel
theorem d_B_markedAbove_90 : decode b_B_markedAbove 90 = .ok (.goto 4, 3) := by decide +kernel
theorem d_B_markedAbove_93 : decode b_B_markedAbove 93 = .ok (.iload_n 2, 1) := by decide +kernel
theorem d_B_markedAbove_94 : decode b_B_markedAbove 94 = .ok (.istore_n 2, 1) := by decide +kernel
theorem d_B_markedAbove_95 : decode b_B_markedAbove 95 = .ok (.iinc 5 1, 3) := by decide +kernel
theorem d_B_markedAbove_98 : decode b_B_markedAbove 98 = .ok (.goto (-82), 3) := by decide +kernel
theorem d_B_markedAbove_101 : decode b_B_markedAbove 101 = .ok (.iload_n 2, 1) := by decide +kernel
theorem d_B_markedAbove_102 : decode b_B_markedAbove 102 = .ok (.ireturn, 1) := by decide +kernel
theorem d_B_clearPendingGrowth_0 : decode b_B_clearPendingGrowth 0 = .ok (.aload_n 0, 1) := by decide +kernel
theorem d_B_clearPendingGrowth_1 : decode b_B_clearPendingGrowth 1 = .ok (.getfield 11, 3) := by decide +kernel
theorem d_B_clearPendingGrowth_4 : decode b_B_clearPendingGrowth 4 = .ok (.astore_n 1, 1) := by decide +kernel
theorem d_B_clearPendingGrowth_5 : decode b_B_clearPendingGrowth 5 = .ok (.aload_n 1, 1) := by decide +kernel
theorem d_B_clearPendingGrowth_6 : decode b_B_clearPendingGrowth 6 = .ok (.arraylength, 1) := by decide +kernel
theorem d_B_clearPendingGrowth_7 : decode b_B_clearPendingGrowth 7 = .ok (.istore_n 2, 1) := by decide +kernel
theorem d_B_clearPendingGrowth_8 : decode b_B_clearPendingGrowth 8 = .ok (.iconst 0, 1) := by decide +kernel
theorem d_B_clearPendingGrowth_9 : decode b_B_clearPendingGrowth 9 = .ok (.istore_n 3, 1) := by decide +kernel
theorem d_B_clearPendingGrowth_10 : decode b_B_clearPendingGrowth 10 = .ok (.iload_n 3, 1) := by decide +kernel
theorem d_B_clearPendingGrowth_11 : decode b_B_clearPendingGrowth 11 = .ok (.iload_n 2, 1) := by decide +kernel
theorem d_B_clearPendingGrowth_12 : decode b_B_clearPendingGrowth 12 = .ok (.if_icmp .ge 20, 3) := by decide +kernel
theorem d_B_clearPendingGrowth_15 : decode b_B_clearPendingGrowth 15 = .ok (.aload_n 1, 1) := by decide +kernel
theorem d_B_clearPendingGrowth_16 : decode b_B_clearPendingGrowth 16 = .ok (.iload_n 3, 1) := by decide +kernel
theorem d_B_clearPendingGrowth_17 : decode b_B_clearPendingGrowth 17 = .ok (.aaload, 1) := by decide +kernel
theorem d_B_clearPendingGrowth_18 : decode b_B_clearPendingGrowth 18 = .ok (.astore 4, 2) := by decide +kernel
theorem d_B_clearPendingGrowth_20 : decode b_B_clearPendingGrowth 20 = .ok (.aload 4, 2) := by decide +kernel
theorem d_B_clearPendingGrowth_22 : decode b_B_clearPendingGrowth 22 = .ok (.lconst 0, 1) := by decide +kernel
theorem d_B_clearPendingGrowth_23 : decode b_B_clearPendingGrowth 23 = .ok (.putfield 45, 3) := by decide +kernel
theorem d_B_clearPendingGrowth_26 : decode b_B_clearPendingGrowth 26 = .ok (.iinc 3 1, 3) := by decide +kernel
theorem d_B_clearPendingGrowth_29 : decode b_B_clearPendingGrowth 29 = .ok (.goto (-19), 3) := by decide +kernel
theorem d_B_clearPendingGrowth_32 : decode b_B_clearPendingGrowth 32 = .ok (.return_, 1) := by decide +kernel
theorem d_B_growPending_0 : decode b_B_growPending 0 = .ok (.lload_n 2, 1) := by decide +kernel
theorem d_B_growPending_1 : decode b_B_growPending 1 = .ok (.ldc2_w 48, 3) := by decide +kernel
theorem d_B_growPending_4 : decode b_B_growPending 4 = .ok (.lmul, 1) := by decide +kernel
theorem d_B_growPending_5 : decode b_B_growPending 5 = .ok (.lload 4, 2) := by decide +kernel
theorem d_B_growPending_7 : decode b_B_growPending 7 = .ok (.iconst 0, 1) := by decide +kernel
theorem d_B_growPending_8 : decode b_B_growPending 8 = .ok (.invokestatic 50, 3) := by decide +kernel
theorem d_B_growPending_11 : decode b_B_growPending 11 = .ok (.lstore 6, 2) := by decide +kernel
theorem d_B_growPending_13 : decode b_B_growPending 13 = .ok (.aload_n 0, 1) := by decide +kernel
theorem d_B_growPending_14 : decode b_B_growPending 14 = .ok (.getfield 11, 3) := by decide +kernel
theorem d_B_growPending_17 : decode b_B_growPending 17 = .ok (.astore 8, 2) := by decide +kernel
theorem d_B_growPending_19 : decode b_B_growPending 19 = .ok (.aload 8, 2) := by decide +kernel
theorem d_B_growPending_21 : decode b_B_growPending 21 = .ok (.arraylength, 1) := by decide +kernel
theorem d_B_growPending_22 : decode b_B_growPending 22 = .ok (.istore 9, 2) := by decide +kernel
theorem d_B_growPending_24 : decode b_B_growPending 24 = .ok (.iconst 0, 1) := by decide +kernel
theorem d_B_growPending_25 : decode b_B_growPending 25 = .ok (.istore 10, 2) := by decide +kernel
theorem d_B_growPending_27 : decode b_B_growPending 27 = .ok (.iload 10, 2) := by decide +kernel
theorem d_B_growPending_29 : decode b_B_growPending 29 = .ok (.iload 9, 2) := by decide +kernel
theorem d_B_growPending_31 : decode b_B_growPending 31 = .ok (.if_icmp .ge 37, 3) := by decide +kernel
theorem d_B_growPending_34 : decode b_B_growPending 34 = .ok (.aload 8, 2) := by decide +kernel
theorem d_B_growPending_36 : decode b_B_growPending 36 = .ok (.iload 10, 2) := by decide +kernel
theorem d_B_growPending_38 : decode b_B_growPending 38 = .ok (.aaload, 1) := by decide +kernel
theorem d_B_growPending_39 : decode b_B_growPending 39 = .ok (.astore 11, 2) := by decide +kernel
theorem d_B_growPending_41 : decode b_B_growPending 41 = .ok (.aload 11, 2) := by decide +kernel
theorem d_B_growPending_43 : decode b_B_growPending 43 = .ok (.iload_n 1, 1) := by decide +kernel
theorem d_B_growPending_44 : decode b_B_growPending 44 = .ok (.invokevirtual 34, 3) := by decide +kernel
theorem d_B_growPending_47 : decode b_B_growPending 47 = .ok (.ifCond .eq 15, 3) := by decide +kernel
theorem d_B_growPending_50 : decode b_B_growPending 50 = .ok (.aload 11, 2) := by decide +kernel
theorem d_B_growPending_52 : decode b_B_growPending 52 = .ok (.dup, 1) := by decide +kernel
theorem d_B_growPending_53 : decode b_B_growPending 53 = .ok (.getfield 45, 3) := by decide +kernel
theorem d_B_growPending_56 : decode b_B_growPending 56 = .ok (.lload 6, 2) := by decide +kernel
theorem d_B_growPending_58 : decode b_B_growPending 58 = .ok (.ladd, 1) := by decide +kernel
theorem d_B_growPending_59 : decode b_B_growPending 59 = .ok (.putfield 45, 3) := by decide +kernel
theorem d_B_growPending_62 : decode b_B_growPending 62 = .ok (.iinc 10 1, 3) := by decide +kernel
theorem d_B_growPending_65 : decode b_B_growPending 65 = .ok (.goto (-38), 3) := by decide +kernel
theorem d_B_growPending_68 : decode b_B_growPending 68 = .ok (.return_, 1) := by decide +kernel
theorem d_B_keepPendingGrowth_0 : decode b_B_keepPendingGrowth 0 = .ok (.aload_n 0, 1) := by decide +kernel
theorem d_B_keepPendingGrowth_1 : decode b_B_keepPendingGrowth 1 = .ok (.getfield 11, 3) := by decide +kernel
theorem d_B_keepPendingGrowth_4 : decode b_B_keepPendingGrowth 4 = .ok (.astore_n 2, 1) := by decide +kernel
theorem d_B_keepPendingGrowth_5 : decode b_B_keepPendingGrowth 5 = .ok (.aload_n 2, 1) := by decide +kernel
theorem d_B_keepPendingGrowth_6 : decode b_B_keepPendingGrowth 6 = .ok (.arraylength, 1) := by decide +kernel
theorem d_B_keepPendingGrowth_7 : decode b_B_keepPendingGrowth 7 = .ok (.istore_n 3, 1) := by decide +kernel
theorem d_B_keepPendingGrowth_8 : decode b_B_keepPendingGrowth 8 = .ok (.iconst 0, 1) := by decide +kernel
theorem d_B_keepPendingGrowth_9 : decode b_B_keepPendingGrowth 9 = .ok (.istore 4, 2) := by decide +kernel
theorem d_B_keepPendingGrowth_11 : decode b_B_keepPendingGrowth 11 = .ok (.iload 4, 2) := by decide +kernel
theorem d_B_keepPendingGrowth_13 : decode b_B_keepPendingGrowth 13 = .ok (.iload_n 3, 1) := by decide +kernel
theorem d_B_keepPendingGrowth_14 : decode b_B_keepPendingGrowth 14 = .ok (.if_icmp .ge 30, 3) := by decide +kernel
theorem d_B_keepPendingGrowth_17 : decode b_B_keepPendingGrowth 17 = .ok (.aload_n 2, 1) := by decide +kernel
theorem d_B_keepPendingGrowth_18 : decode b_B_keepPendingGrowth 18 = .ok (.iload 4, 2) := by decide +kernel
theorem d_B_keepPendingGrowth_20 : decode b_B_keepPendingGrowth 20 = .ok (.aaload, 1) := by decide +kernel
theorem d_B_keepPendingGrowth_21 : decode b_B_keepPendingGrowth 21 = .ok (.astore 5, 2) := by decide +kernel
theorem d_B_keepPendingGrowth_23 : decode b_B_keepPendingGrowth 23 = .ok (.aload 5, 2) := by decide +kernel
theorem d_B_keepPendingGrowth_25 : decode b_B_keepPendingGrowth 25 = .ok (.getfield 54, 3) := by decide +kernel
theorem d_B_keepPendingGrowth_28 : decode b_B_keepPendingGrowth 28 = .ok (.iload_n 1, 1) := by decide +kernel
theorem d_B_keepPendingGrowth_29 : decode b_B_keepPendingGrowth 29 = .ok (.dup2, 1) := by decide +kernel
theorem d_B_keepPendingGrowth_30 : decode b_B_keepPendingGrowth 30 = .ok (.laload, 1) := by decide +kernel
theorem d_B_keepPendingGrowth_31 : decode b_B_keepPendingGrowth 31 = .ok (.aload 5, 2) := by decide +kernel
theorem d_B_keepPendingGrowth_33 : decode b_B_keepPendingGrowth 33 = .ok (.getfield 45, 3) := by decide +kernel
theorem d_B_keepPendingGrowth_36 : decode b_B_keepPendingGrowth 36 = .ok (.ladd, 1) := by decide +kernel
theorem d_B_keepPendingGrowth_37 : decode b_B_keepPendingGrowth 37 = .ok (.lastore, 1) := by decide +kernel
theorem d_B_keepPendingGrowth_38 : decode b_B_keepPendingGrowth 38 = .ok (.iinc 4 1, 3) := by decide +kernel
theorem d_B_keepPendingGrowth_41 : decode b_B_keepPendingGrowth 41 = .ok (.goto (-30), 3) := by decide +kernel
theorem d_B_keepPendingGrowth_44 : decode b_B_keepPendingGrowth 44 = .ok (.return_, 1) := by decide +kernel
end
section
theorem d_D_init_0 : decode b_D_init 0 = .ok (.aload_n 0, 1) := by decide +kernel
theorem d_D_init_1 : decode b_D_init 1 = .ok (.invokespecial 3, 3) := by decide +kernel
theorem d_D_init_4 : decode b_D_init 4 = .ok (.aload_n 0, 1) := by decide +kernel
theorem d_D_init_5 : decode b_D_init 5 = .ok (.iload_n 1, 1) := by decide +kernel
theorem d_D_init_6 : decode b_D_init 6 = .ok (.putfield 9, 3) := by decide +kernel
theorem d_D_init_9 : decode b_D_init 9 = .ok (.return_, 1) := by decide +kernel
theorem d_D_tokenIn_0 : decode b_D_tokenIn 0 = .ok (.aload_n 0, 1) := by decide +kernel
theorem d_D_tokenIn_1 : decode b_D_tokenIn 1 = .ok (.getfield 15, 3) := by decide +kernel
theorem d_D_tokenIn_4 : decode b_D_tokenIn 4 = .ok (.ifCond .eq 7, 3) := by decide +kernel
theorem d_D_tokenIn_7 : decode b_D_tokenIn 7 = .ok (.iconst 0, 1) := by decide +kernel
theorem d_D_tokenIn_8 : decode b_D_tokenIn 8 = .ok (.goto 4, 3) := by decide +kernel
theorem d_D_tokenIn_11 : decode b_D_tokenIn 11 = .ok (.iconst 1, 1) := by decide +kernel
theorem d_D_tokenIn_12 : decode b_D_tokenIn 12 = .ok (.ireturn, 1) := by decide +kernel
theorem d_D_startAt_0 : decode b_D_startAt 0 = .ok (.aload_n 0, 1) := by decide +kernel
theorem d_D_startAt_1 : decode b_D_startAt 1 = .ok (.iload_n 1, 1) := by decide +kernel
theorem d_D_startAt_2 : decode b_D_startAt 2 = .ok (.putfield 19, 3) := by decide +kernel
theorem d_D_startAt_5 : decode b_D_startAt 5 = .ok (.aload_n 0, 1) := by decide +kernel
theorem d_D_startAt_6 : decode b_D_startAt 6 = .ok (.iload_n 2, 1) := by decide +kernel
theorem d_D_startAt_7 : decode b_D_startAt 7 = .ok (.putfield 22, 3) := by decide +kernel
theorem d_D_startAt_10 : decode b_D_startAt 10 = .ok (.aload_n 0, 1) := by decide +kernel
theorem d_D_startAt_11 : decode b_D_startAt 11 = .ok (.iload_n 3, 1) := by decide +kernel
theorem d_D_startAt_12 : decode b_D_startAt 12 = .ok (.putfield 15, 3) := by decide +kernel
theorem d_D_startAt_15 : decode b_D_startAt 15 = .ok (.aload_n 0, 1) := by decide +kernel
theorem d_D_startAt_16 : decode b_D_startAt 16 = .ok (.lconst 0, 1) := by decide +kernel
theorem d_D_startAt_17 : decode b_D_startAt 17 = .ok (.putfield 25, 3) := by decide +kernel
theorem d_D_startAt_20 : decode b_D_startAt 20 = .ok (.aload_n 0, 1) := by decide +kernel
theorem d_D_startAt_21 : decode b_D_startAt 21 = .ok (.lconst 0, 1) := by decide +kernel
theorem d_D_startAt_22 : decode b_D_startAt 22 = .ok (.putfield 29, 3) := by decide +kernel
theorem d_D_startAt_25 : decode b_D_startAt 25 = .ok (.return_, 1) := by decide +kernel
theorem d_D_workOut_0 : decode b_D_workOut 0 = .ok (.aload_n 0, 1) := by decide +kernel
theorem d_D_workOut_1 : decode b_D_workOut 1 = .ok (.iload_n 2, 1) := by decide +kernel
theorem d_D_workOut_2 : decode b_D_workOut 2 = .ok (.i2l, 1) := by decide +kernel
theorem d_D_workOut_3 : decode b_D_workOut 3 = .ok (.putfield 32, 3) := by decide +kernel
theorem d_D_workOut_6 : decode b_D_workOut 6 = .ok (.aload_n 0, 1) := by decide +kernel
theorem d_D_workOut_7 : decode b_D_workOut 7 = .ok (.iload_n 3, 1) := by decide +kernel
theorem d_D_workOut_8 : decode b_D_workOut 8 = .ok (.putfield 35, 3) := by decide +kernel
theorem d_D_workOut_11 : decode b_D_workOut 11 = .ok (.aload_n 1, 1) := by decide +kernel
theorem d_D_workOut_12 : decode b_D_workOut 12 = .ok (.invokevirtual 38, 3) := by decide +kernel
theorem d_D_workOut_15 : decode b_D_workOut 15 = .ok (.iconst 0, 1) := by decide +kernel
theorem d_D_workOut_16 : decode b_D_workOut 16 = .ok (.istore 4, 2) := by decide +kernel
theorem d_D_workOut_18 : decode b_D_workOut 18 = .ok (.iload 4, 2) := by decide +kernel
theorem d_D_workOut_20 : decode b_D_workOut 20 = .ok (.bipush 64, 2) := by decide +kernel
theorem d_D_workOut_22 : decode b_D_workOut 22 = .ok (.if_icmp .ge 34, 3) := by decide +kernel
theorem d_D_workOut_25 : decode b_D_workOut 25 = .ok (.aload_n 0, 1) := by decide +kernel
theorem d_D_workOut_26 : decode b_D_workOut 26 = .ok (.getfield 32, 3) := by decide +kernel
theorem d_D_workOut_29 : decode b_D_workOut 29 = .ok (.lconst 0, 1) := by decide +kernel
theorem d_D_workOut_30 : decode b_D_workOut 30 = .ok (.lcmp, 1) := by decide +kernel
theorem d_D_workOut_31 : decode b_D_workOut 31 = .ok (.ifCond .eq 25, 3) := by decide +kernel
theorem d_D_workOut_34 : decode b_D_workOut 34 = .ok (.aload_n 0, 1) := by decide +kernel
theorem d_D_workOut_35 : decode b_D_workOut 35 = .ok (.getfield 19, 3) := by decide +kernel
theorem d_D_workOut_38 : decode b_D_workOut 38 = .ok (.aload_n 0, 1) := by decide +kernel
theorem d_D_workOut_39 : decode b_D_workOut 39 = .ok (.getfield 35, 3) := by decide +kernel
theorem d_D_workOut_42 : decode b_D_workOut 42 = .ok (.if_icmp .eq 14, 3) := by decide +kernel
theorem d_D_workOut_45 : decode b_D_workOut 45 = .ok (.aload_n 0, 1) := by decide +kernel
theorem d_D_workOut_46 : decode b_D_workOut 46 = .ok (.aload_n 1, 1) := by decide +kernel
theorem d_D_workOut_47 : decode b_D_workOut 47 = .ok (.invokevirtual 43, 3) := by decide +kernel
theorem d_D_workOut_50 : decode b_D_workOut 50 = .ok (.iinc 4 1, 3) := by decide +kernel
theorem d_D_workOut_53 : decode b_D_workOut 53 = .ok (.goto (-35), 3) := by decide +kernel
theorem d_D_workOut_56 : decode b_D_workOut 56 = .ok (.return_, 1) := by decide +kernel
theorem d_D_goOneLeg_0 : decode b_D_goOneLeg 0 = .ok (.aload_n 0, 1) := by decide +kernel
theorem d_D_goOneLeg_1 : decode b_D_goOneLeg 1 = .ok (.getfield 15, 3) := by decide +kernel
theorem d_D_goOneLeg_4 : decode b_D_goOneLeg 4 = .ok (.ifCond .eq 14, 3) := by decide +kernel
theorem d_D_goOneLeg_7 : decode b_D_goOneLeg 7 = .ok (.aload_n 1, 1) := by decide +kernel
theorem d_D_goOneLeg_8 : decode b_D_goOneLeg 8 = .ok (.aload_n 0, 1) := by decide +kernel
theorem d_D_goOneLeg_9 : decode b_D_goOneLeg 9 = .ok (.getfield 22, 3) := by decide +kernel
theorem d_D_goOneLeg_12 : decode b_D_goOneLeg 12 = .ok (.invokevirtual 47, 3) := by decide +kernel
theorem d_D_goOneLeg_15 : decode b_D_goOneLeg 15 = .ok (.goto 11, 3) := by decide +kernel
theorem d_D_goOneLeg_18 : decode b_D_goOneLeg 18 = .ok (.aload_n 1, 1) := by decide +kernel
theorem d_D_goOneLeg_19 : decode b_D_goOneLeg 19 = .ok (.aload_n 0, 1) := by decide +kernel
theorem d_D_goOneLeg_20 : decode b_D_goOneLeg 20 = .ok (.getfield 22, 3) := by decide +kernel
theorem d_D_goOneLeg_23 : decode b_D_goOneLeg 23 = .ok (.invokevirtual 51, 3) := by decide +kernel
theorem d_D_goOneLeg_26 : decode b_D_goOneLeg 26 = .ok (.istore_n 2, 1) := by decide +kernel
theorem d_D_goOneLeg_27 : decode b_D_goOneLeg 27 = .ok (.aload_n 0, 1) := by decide +kernel
theorem d_D_goOneLeg_28 : decode b_D_goOneLeg 28 = .ok (.iload_n 2, 1) := by decide +kernel
theorem d_D_goOneLeg_29 : decode b_D_goOneLeg 29 = .ok (.invokevirtual 54, 3) := by decide +kernel
theorem d_D_goOneLeg_32 : decode b_D_goOneLeg 32 = .ok (.istore_n 3, 1) := by decide +kernel
theorem d_D_goOneLeg_33 : decode b_D_goOneLeg 33 = .ok (.aload_n 1, 1) := by decide +kernel
theorem d_D_goOneLeg_34 : decode b_D_goOneLeg 34 = .ok (.aload_n 0, 1) := by decide +kernel
theorem d_D_goOneLeg_35 : decode b_D_goOneLeg 35 = .ok (.getfield 22, 3) := by decide +kernel
theorem d_D_goOneLeg_38 : decode b_D_goOneLeg 38 = .ok (.invokevirtual 57, 3) := by decide +kernel
theorem d_D_goOneLeg_41 : decode b_D_goOneLeg 41 = .ok (.lstore 4, 2) := by decide +kernel
theorem d_D_goOneLeg_43 : decode b_D_goOneLeg 43 = .ok (.aload_n 0, 1) := by decide +kernel
theorem d_D_goOneLeg_44 : decode b_D_goOneLeg 44 = .ok (.getfield 32, 3) := by decide +kernel
theorem d_D_goOneLeg_47 : decode b_D_goOneLeg 47 = .ok (.lconst 0, 1) := by decide +kernel
theorem d_D_goOneLeg_48 : decode b_D_goOneLeg 48 = .ok (.lcmp, 1) := by decide +kernel
theorem d_D_goOneLeg_49 : decode b_D_goOneLeg 49 = .ok (.ifCond .le 13, 3) := by decide +kernel
theorem d_D_goOneLeg_52 : decode b_D_goOneLeg 52 = .ok (.aload_n 0, 1) := by decide +kernel
theorem d_D_goOneLeg_53 : decode b_D_goOneLeg 53 = .ok (.lload 4, 2) := by decide +kernel
theorem d_D_goOneLeg_55 : decode b_D_goOneLeg 55 = .ok (.iload_n 3, 1) := by decide +kernel
theorem d_D_goOneLeg_56 : decode b_D_goOneLeg 56 = .ok (.invokevirtual 61, 3) := by decide +kernel
theorem d_D_goOneLeg_59 : decode b_D_goOneLeg 59 = .ok (.goto 10, 3) := by decide +kernel
theorem d_D_goOneLeg_62 : decode b_D_goOneLeg 62 = .ok (.aload_n 0, 1) := by decide +kernel
theorem d_D_goOneLeg_63 : decode b_D_goOneLeg 63 = .ok (.lload 4, 2) := by decide +kernel
theorem d_D_goOneLeg_65 : decode b_D_goOneLeg 65 = .ok (.iload_n 3, 1) := by decide +kernel
theorem d_D_goOneLeg_66 : decode b_D_goOneLeg 66 = .ok (.invokevirtual 65, 3) := by decide +kernel
theorem d_D_goOneLeg_69 : decode b_D_goOneLeg 69 = .ok (.istore 6, 2) := by decide +kernel
theorem d_D_goOneLeg_71 : decode b_D_goOneLeg 71 = .ok (.aload_n 0, 1) := by decide +kernel
theorem d_D_goOneLeg_72 : decode b_D_goOneLeg 72 = .ok (.lload 4, 2) := by decide +kernel
theorem d_D_goOneLeg_74 : decode b_D_goOneLeg 74 = .ok (.iload 6, 2) := by decide +kernel
theorem d_D_goOneLeg_76 : decode b_D_goOneLeg 76 = .ok (.invokevirtual 68, 3) := by decide +kernel
theorem d_D_goOneLeg_79 : decode b_D_goOneLeg 79 = .ok (.lstore 7, 2) := by decide +kernel
theorem d_D_goOneLeg_81 : decode b_D_goOneLeg 81 = .ok (.aload_n 0, 1) := by decide +kernel
theorem d_D_goOneLeg_82 : decode b_D_goOneLeg 82 = .ok (.lload 4, 2) := by decide +kernel
theorem d_D_goOneLeg_84 : decode b_D_goOneLeg 84 = .ok (.iload 6, 2) := by decide +kernel
theorem d_D_goOneLeg_86 : decode b_D_goOneLeg 86 = .ok (.invokevirtual 72, 3) := by decide +kernel
theorem d_D_goOneLeg_89 : decode b_D_goOneLeg 89 = .ok (.lstore 9, 2) := by decide +kernel
theorem d_D_goOneLeg_91 : decode b_D_goOneLeg 91 = .ok (.aload_n 0, 1) := by decide +kernel
theorem d_D_goOneLeg_92 : decode b_D_goOneLeg 92 = .ok (.getfield 32, 3) := by decide +kernel
theorem d_D_goOneLeg_95 : decode b_D_goOneLeg 95 = .ok (.lconst 0, 1) := by decide +kernel
theorem d_D_goOneLeg_96 : decode b_D_goOneLeg 96 = .ok (.lcmp, 1) := by decide +kernel
theorem d_D_goOneLeg_97 : decode b_D_goOneLeg 97 = .ok (.ifCond .ge 15, 3) := by decide +kernel
theorem d_D_goOneLeg_100 : decode b_D_goOneLeg 100 = .ok (.lload 9, 2) := by decide +kernel
theorem d_D_goOneLeg_102 : decode b_D_goOneLeg 102 = .ok (.aload_n 0, 1) := by decide +kernel
theorem d_D_goOneLeg_103 : decode b_D_goOneLeg 103 = .ok (.getfield 32, 3) := by decide +kernel
theorem d_D_goOneLeg_106 : decode b_D_goOneLeg 106 = .ok (.lneg, 1) := by decide +kernel
theorem d_D_goOneLeg_107 : decode b_D_goOneLeg 107 = .ok (.invokestatic 75, 3) := by decide +kernel
theorem d_D_goOneLeg_110 : decode b_D_goOneLeg 110 = .ok (.lstore 9, 2) := by decide +kernel
theorem d_D_goOneLeg_112 : decode b_D_goOneLeg 112 = .ok (.aload_n 0, 1) := by decide +kernel
theorem d_D_goOneLeg_113 : decode b_D_goOneLeg 113 = .ok (.getfield 32, 3) := by decide +kernel
theorem d_D_goOneLeg_116 : decode b_D_goOneLeg 116 = .ok (.lconst 0, 1) := by decide +kernel
theorem d_D_goOneLeg_117 : decode b_D_goOneLeg 117 = .ok (.lcmp, 1) := by decide +kernel
theorem d_D_goOneLeg_118 : decode b_D_goOneLeg 118 = .ok (.ifCond .le 13, 3) := by decide +kernel
theorem d_D_goOneLeg_121 : decode b_D_goOneLeg 121 = .ok (.iload 6, 2) := by decide +kernel
theorem d_D_goOneLeg_123 : decode b_D_goOneLeg 123 = .ok (.iload_n 3, 1) := by decide +kernel
theorem d_D_goOneLeg_124 : decode b_D_goOneLeg 124 = .ok (.if_icmp .eq 7, 3) := by decide +kernel
theorem d_D_goOneLeg_127 : decode b_D_goOneLeg 127 = .ok (.iconst 1, 1) := by decide +kernel
theorem d_D_goOneLeg_128 : decode b_D_goOneLeg 128 = .ok (.goto 4, 3) := by decide +kernel
theorem d_D_goOneLeg_131 : decode b_D_goOneLeg 131 = .ok (.iconst 0, 1) := by decide +kernel
theorem d_D_goOneLeg_132 : decode b_D_goOneLeg 132 = .ok (.istore 11, 2) := by decide +kernel
theorem d_D_goOneLeg_134 : decode b_D_goOneLeg 134 = .ok (.iload 11, 2) := by decide +kernel
theorem d_D_goOneLeg_136 : decode b_D_goOneLeg 136 = .ok (.ifCond .eq 13, 3) := by decide +kernel
theorem d_D_goOneLeg_139 : decode b_D_goOneLeg 139 = .ok (.aload_n 0, 1) := by decide +kernel
theorem d_D_goOneLeg_140 : decode b_D_goOneLeg 140 = .ok (.getfield 32, 3) := by decide +kernel
theorem d_D_goOneLeg_143 : decode b_D_goOneLeg 143 = .ok (.lload 7, 2) := by decide +kernel
theorem d_D_goOneLeg_145 : decode b_D_goOneLeg 145 = .ok (.lsub, 1) := by decide +kernel
theorem d_D_goOneLeg_146 : decode b_D_goOneLeg 146 = .ok (.goto 24, 3) := by decide +kernel
theorem d_D_goOneLeg_149 : decode b_D_goOneLeg 149 = .ok (.lload 7, 2) := by decide +kernel
theorem d_D_goOneLeg_151 : decode b_D_goOneLeg 151 = .ok (.aload_n 0, 1) := by decide +kernel
theorem d_D_goOneLeg_152 : decode b_D_goOneLeg 152 = .ok (.getfield 9, 3) := by decide +kernel
theorem d_D_goOneLeg_155 : decode b_D_goOneLeg 155 = .ok (.i2l, 1) := by decide +kernel
theorem d_D_goOneLeg_156 : decode b_D_goOneLeg 156 = .ok (.lmul, 1) := by decide +kernel
theorem d_D_goOneLeg_157 : decode b_D_goOneLeg 157 = .ok (.ldc2_w 81, 3) := by decide +kernel
theorem d_D_goOneLeg_160 : decode b_D_goOneLeg 160 = .ok (.aload_n 0, 1) := by decide +kernel
theorem d_D_goOneLeg_161 : decode b_D_goOneLeg 161 = .ok (.getfield 9, 3) := by decide +kernel
theorem d_D_goOneLeg_164 : decode b_D_goOneLeg 164 = .ok (.i2l, 1) := by decide +kernel
theorem d_D_goOneLeg_165 : decode b_D_goOneLeg 165 = .ok (.lsub, 1) := by decide +kernel
theorem d_D_goOneLeg_166 : decode b_D_goOneLeg 166 = .ok (.iconst 1, 1) := by decide +kernel
theorem d_D_goOneLeg_167 : decode b_D_goOneLeg 167 = .ok (.invokestatic 83, 3) := by decide +kernel
theorem d_D_goOneLeg_170 : decode b_D_goOneLeg 170 = .ok (.lstore 12, 2) := by decide +kernel
theorem d_D_goOneLeg_172 : decode b_D_goOneLeg 172 = .ok (.aload_n 0, 1) := by decide +kernel
theorem d_D_goOneLeg_173 : decode b_D_goOneLeg 173 = .ok (.dup, 1) := by decide +kernel
theorem d_D_goOneLeg_174 : decode b_D_goOneLeg 174 = .ok (.getfield 25, 3) := by decide +kernel
theorem d_D_goOneLeg_177 : decode b_D_goOneLeg 177 = .ok (.lload 7, 2) := by decide +kernel
theorem d_D_goOneLeg_179 : decode b_D_goOneLeg 179 = .ok (.lload 12, 2) := by decide +kernel
theorem d_D_goOneLeg_181 : decode b_D_goOneLeg 181 = .ok (.ladd, 1) := by decide +kernel
theorem d_D_goOneLeg_182 : decode b_D_goOneLeg 182 = .ok (.ladd, 1) := by decide +kernel
theorem d_D_goOneLeg_183 : decode b_D_goOneLeg 183 = .ok (.putfield 25, 3) := by decide +kernel
theorem d_D_goOneLeg_186 : decode b_D_goOneLeg 186 = .ok (.aload_n 0, 1) := by decide +kernel
theorem d_D_goOneLeg_187 : decode b_D_goOneLeg 187 = .ok (.dup, 1) := by decide +kernel
theorem d_D_goOneLeg_188 : decode b_D_goOneLeg 188 = .ok (.getfield 29, 3) := by decide +kernel
theorem d_D_goOneLeg_191 : decode b_D_goOneLeg 191 = .ok (.lload 9, 2) := by decide +kernel
theorem d_D_goOneLeg_193 : decode b_D_goOneLeg 193 = .ok (.ladd, 1) := by decide +kernel
theorem d_D_goOneLeg_194 : decode b_D_goOneLeg 194 = .ok (.putfield 29, 3) := by decide +kernel
theorem d_D_goOneLeg_197 : decode b_D_goOneLeg 197 = .ok (.aload_n 0, 1) := by decide +kernel
theorem d_D_goOneLeg_198 : decode b_D_goOneLeg 198 = .ok (.dup, 1) := by decide +kernel
theorem d_D_goOneLeg_199 : decode b_D_goOneLeg 199 = .ok (.getfield 32, 3) := by decide +kernel
theorem d_D_goOneLeg_202 : decode b_D_goOneLeg 202 = .ok (.aload_n 0, 1) := by decide +kernel
theorem d_D_goOneLeg_203 : decode b_D_goOneLeg 203 = .ok (.getfield 32, 3) := by decide +kernel
theorem d_D_goOneLeg_206 : decode b_D_goOneLeg 206 = .ok (.lconst 0, 1) := by decide +kernel
theorem d_D_goOneLeg_207 : decode b_D_goOneLeg 207 = .ok (.lcmp, 1) := by decide +kernel
theorem d_D_goOneLeg_208 : decode b_D_goOneLeg 208 = .ok (.ifCond .le 12, 3) := by decide +kernel
theorem d_D_goOneLeg_211 : decode b_D_goOneLeg 211 = .ok (.lload 7, 2) := by decide +kernel
theorem d_D_goOneLeg_213 : decode b_D_goOneLeg 213 = .ok (.lload 12, 2) := by decide +kernel
theorem d_D_goOneLeg_215 : decode b_D_goOneLeg 215 = .ok (.ladd, 1) := by decide +kernel
theorem d_D_goOneLeg_216 : decode b_D_goOneLeg 216 = .ok (.lneg, 1) := by decide +kernel
theorem d_D_goOneLeg_217 : decode b_D_goOneLeg 217 = .ok (.goto 5, 3) := by decide +kernel
theorem d_D_goOneLeg_220 : decode b_D_goOneLeg 220 = .ok (.lload 9, 2) := by decide +kernel
theorem d_D_goOneLeg_222 : decode b_D_goOneLeg 222 = .ok (.ladd, 1) := by decide +kernel
theorem d_D_goOneLeg_223 : decode b_D_goOneLeg 223 = .ok (.putfield 32, 3) := by decide +kernel
theorem d_D_goOneLeg_226 : decode b_D_goOneLeg 226 = .ok (.aload_n 1, 1) := by decide +kernel
theorem d_D_goOneLeg_227 : decode b_D_goOneLeg 227 = .ok (.aload_n 0, 1) := by decide +kernel
theorem d_D_goOneLeg_228 : decode b_D_goOneLeg 228 = .ok (.getfield 22, 3) := by decide +kernel
theorem d_D_goOneLeg_231 : decode b_D_goOneLeg 231 = .ok (.lload 12, 2) := by decide +kernel
theorem d_D_goOneLeg_233 : decode b_D_goOneLeg 233 = .ok (.lload 4, 2) := by decide +kernel
theorem d_D_goOneLeg_235 : decode b_D_goOneLeg 235 = .ok (.invokevirtual 87, 3) := by decide +kernel
theorem d_D_goOneLeg_238 : decode b_D_goOneLeg 238 = .ok (.aload_n 0, 1) := by decide +kernel
theorem d_D_goOneLeg_239 : decode b_D_goOneLeg 239 = .ok (.iload 6, 2) := by decide +kernel
theorem d_D_goOneLeg_241 : decode b_D_goOneLeg 241 = .ok (.iload_n 2, 1) := by decide +kernel
theorem d_D_goOneLeg_242 : decode b_D_goOneLeg 242 = .ok (.invokevirtual 91, 3) := by decide +kernel
theorem d_D_goOneLeg_245 : decode b_D_goOneLeg 245 = .ok (.return_, 1) := by decide +kernel
theorem d_D_targetBefore_0 : decode b_D_targetBefore 0 = .ok (.iload_n 1, 1) := by decide +kernel
theorem d_D_targetBefore_1 : decode b_D_targetBefore 1 = .ok (.sipush 1000, 3) := by decide +kernel
theorem d_D_targetBefore_4 : decode b_D_targetBefore 4 = .ok (.if_icmp .ne 8, 3) := by decide +kernel
theorem d_D_targetBefore_7 : decode b_D_targetBefore 7 = .ok (.aload_n 0, 1) := by decide +kernel
theorem d_D_targetBefore_8 : decode b_D_targetBefore 8 = .ok (.getfield 35, 3) := by decide +kernel
theorem d_D_targetBefore_11 : decode b_D_targetBefore 11 = .ok (.ireturn, 1) := by decide +kernel
theorem d_D_targetBefore_12 : decode b_D_targetBefore 12 = .ok (.aload_n 0, 1) := by decide +kernel
theorem d_D_targetBefore_13 : decode b_D_targetBefore 13 = .ok (.getfield 15, 3) := by decide +kernel
theorem d_D_targetBefore_16 : decode b_D_targetBefore 16 = .ok (.ifCond .eq 17, 3) := by decide +kernel
theorem d_D_targetBefore_19 : decode b_D_targetBefore 19 = .ok (.iload_n 1, 1) := by decide +kernel
theorem d_D_targetBefore_20 : decode b_D_targetBefore 20 = .ok (.invokestatic 95, 3) := by decide +kernel
theorem d_D_targetBefore_23 : decode b_D_targetBefore 23 = .ok (.aload_n 0, 1) := by decide +kernel
theorem d_D_targetBefore_24 : decode b_D_targetBefore 24 = .ok (.getfield 35, 3) := by decide +kernel
theorem d_D_targetBefore_27 : decode b_D_targetBefore 27 = .ok (.invokestatic 98, 3) := by decide +kernel
theorem d_D_targetBefore_30 : decode b_D_targetBefore 30 = .ok (.goto 14, 3) := by decide +kernel
theorem d_D_targetBefore_33 : decode b_D_targetBefore 33 = .ok (.iload_n 1, 1) := by decide +kernel
theorem d_D_targetBefore_34 : decode b_D_targetBefore 34 = .ok (.invokestatic 95, 3) := by decide +kernel
theorem d_D_targetBefore_37 : decode b_D_targetBefore 37 = .ok (.aload_n 0, 1) := by decide +kernel
theorem d_D_targetBefore_38 : decode b_D_targetBefore 38 = .ok (.getfield 35, 3) := by decide +kernel
theorem d_D_targetBefore_41 : decode b_D_targetBefore 41 = .ok (.invokestatic 102, 3) := by decide +kernel
theorem d_D_targetBefore_44 : decode b_D_targetBefore 44 = .ok (.ireturn, 1) := by decide +kernel
theorem d_D_priceAfterPaying_0 : decode b_D_priceAfterPaying 0 = .ok (.aload_n 0, 1) := by decide +kernel
theorem d_D_priceAfterPaying_1 : decode b_D_priceAfterPaying 1 = .ok (.getfield 32, 3) := by decide +kernel
theorem d_D_priceAfterPaying_4 : decode b_D_priceAfterPaying 4 = .ok (.ldc2_w 81, 3) := by decide +kernel
theorem d_D_priceAfterPaying_7 : decode b_D_priceAfterPaying 7 = .ok (.aload_n 0, 1) := by decide +kernel
theorem d_D_priceAfterPaying_8 : decode b_D_priceAfterPaying 8 = .ok (.getfield 9, 3) := by decide +kernel
theorem d_D_priceAfterPaying_11 : decode b_D_priceAfterPaying 11 = .ok (.i2l, 1) := by decide +kernel
theorem d_D_priceAfterPaying_12 : decode b_D_priceAfterPaying 12 = .ok (.lsub, 1) := by decide +kernel
theorem d_D_priceAfterPaying_13 : decode b_D_priceAfterPaying 13 = .ok (.lmul, 1) := by decide +kernel
theorem d_D_priceAfterPaying_14 : decode b_D_priceAfterPaying 14 = .ok (.ldc2_w 81, 3) := by decide +kernel
theorem d_D_priceAfterPaying_17 : decode b_D_priceAfterPaying 17 = .ok (.ldiv, 1) := by decide +kernel
theorem d_D_priceAfterPaying_18 : decode b_D_priceAfterPaying 18 = .ok (.lstore 4, 2) := by decide +kernel
theorem d_D_priceAfterPaying_20 : decode b_D_priceAfterPaying 20 = .ok (.lload 4, 2) := by decide +kernel
theorem d_D_priceAfterPaying_22 : decode b_D_priceAfterPaying 22 = .ok (.aload_n 0, 1) := by decide +kernel
theorem d_D_priceAfterPaying_23 : decode b_D_priceAfterPaying 23 = .ok (.lload_n 1, 1) := by decide +kernel
theorem d_D_priceAfterPaying_24 : decode b_D_priceAfterPaying 24 = .ok (.iload_n 3, 1) := by decide +kernel
theorem d_D_priceAfterPaying_25 : decode b_D_priceAfterPaying 25 = .ok (.invokevirtual 68, 3) := by decide +kernel
theorem d_D_priceAfterPaying_28 : decode b_D_priceAfterPaying 28 = .ok (.lcmp, 1) := by decide +kernel
theorem d_D_priceAfterPaying_29 : decode b_D_priceAfterPaying 29 = .ok (.ifCond .lt 5, 3) := by decide +kernel
theorem d_D_priceAfterPaying_32 : decode b_D_priceAfterPaying 32 = .ok (.iload_n 3, 1) := by decide +kernel
theorem d_D_priceAfterPaying_33 : decode b_D_priceAfterPaying 33 = .ok (.ireturn, 1) := by decide +kernel
theorem d_D_priceAfterPaying_34 : decode b_D_priceAfterPaying 34 = .ok (.aload_n 0, 1) := by decide +kernel
theorem d_D_priceAfterPaying_35 : decode b_D_priceAfterPaying 35 = .ok (.getfield 15, 3) := by decide +kernel
theorem d_D_priceAfterPaying_38 : decode b_D_priceAfterPaying 38 = .ok (.ifCond .eq 34, 3) := by decide +kernel
theorem d_D_priceAfterPaying_41 : decode b_D_priceAfterPaying 41 = .ok (.lload_n 1, 1) := by decide +kernel
theorem d_D_priceAfterPaying_42 : decode b_D_priceAfterPaying 42 = .ok (.ldc2_w 104, 3) := by decide +kernel
theorem d_D_priceAfterPaying_45 : decode b_D_priceAfterPaying 45 = .ok (.lmul, 1) := by decide +kernel
theorem d_D_priceAfterPaying_46 : decode b_D_priceAfterPaying 46 = .ok (.aload_n 0, 1) := by decide +kernel
theorem d_D_priceAfterPaying_47 : decode b_D_priceAfterPaying 47 = .ok (.getfield 19, 3) := by decide +kernel
theorem d_D_priceAfterPaying_50 : decode b_D_priceAfterPaying 50 = .ok (.i2l, 1) := by decide +kernel
theorem d_D_priceAfterPaying_51 : decode b_D_priceAfterPaying 51 = .ok (.lmul, 1) := by decide +kernel
theorem d_D_priceAfterPaying_52 : decode b_D_priceAfterPaying 52 = .ok (.lload_n 1, 1) := by decide +kernel
theorem d_D_priceAfterPaying_53 : decode b_D_priceAfterPaying 53 = .ok (.ldc2_w 104, 3) := by decide +kernel
theorem d_D_priceAfterPaying_56 : decode b_D_priceAfterPaying 56 = .ok (.lmul, 1) := by decide +kernel
theorem d_D_priceAfterPaying_57 : decode b_D_priceAfterPaying 57 = .ok (.lload 4, 2) := by decide +kernel
theorem d_D_priceAfterPaying_59 : decode b_D_priceAfterPaying 59 = .ok (.aload_n 0, 1) := by decide +kernel
theorem d_D_priceAfterPaying_60 : decode b_D_priceAfterPaying 60 = .ok (.getfield 19, 3) := by decide +kernel
theorem d_D_priceAfterPaying_63 : decode b_D_priceAfterPaying 63 = .ok (.i2l, 1) := by decide +kernel
theorem d_D_priceAfterPaying_64 : decode b_D_priceAfterPaying 64 = .ok (.lmul, 1) := by decide +kernel
theorem d_D_priceAfterPaying_65 : decode b_D_priceAfterPaying 65 = .ok (.ladd, 1) := by decide +kernel
theorem d_D_priceAfterPaying_66 : decode b_D_priceAfterPaying 66 = .ok (.iconst 1, 1) := by decide +kernel
theorem d_D_priceAfterPaying_67 : decode b_D_priceAfterPaying 67 = .ok (.invokestatic 83, 3) := by decide +kernel
theorem d_D_priceAfterPaying_70 : decode b_D_priceAfterPaying 70 = .ok (.l2i, 1) := by decide +kernel
theorem d_D_priceAfterPaying_71 : decode b_D_priceAfterPaying 71 = .ok (.ireturn, 1) := by decide +kernel
theorem d_D_priceAfterPaying_72 : decode b_D_priceAfterPaying 72 = .ok (.aload_n 0, 1) := by decide +kernel
theorem d_D_priceAfterPaying_73 : decode b_D_priceAfterPaying 73 = .ok (.getfield 19, 3) := by decide +kernel
theorem d_D_priceAfterPaying_76 : decode b_D_priceAfterPaying 76 = .ok (.i2l, 1) := by decide +kernel
theorem d_D_priceAfterPaying_77 : decode b_D_priceAfterPaying 77 = .ok (.lload 4, 2) := by decide +kernel
theorem d_D_priceAfterPaying_79 : decode b_D_priceAfterPaying 79 = .ok (.ldc2_w 104, 3) := by decide +kernel
theorem d_D_priceAfterPaying_82 : decode b_D_priceAfterPaying 82 = .ok (.lmul, 1) := by decide +kernel
theorem d_D_priceAfterPaying_83 : decode b_D_priceAfterPaying 83 = .ok (.lload_n 1, 1) := by decide +kernel
theorem d_D_priceAfterPaying_84 : decode b_D_priceAfterPaying 84 = .ok (.iconst 0, 1) := by decide +kernel
theorem d_D_priceAfterPaying_85 : decode b_D_priceAfterPaying 85 = .ok (.invokestatic 83, 3) := by decide +kernel
theorem d_D_priceAfterPaying_88 : decode b_D_priceAfterPaying 88 = .ok (.ladd, 1) := by decide +kernel
theorem d_D_priceAfterPaying_89 : decode b_D_priceAfterPaying 89 = .ok (.l2i, 1) := by decide +kernel
theorem d_D_priceAfterPaying_90 : decode b_D_priceAfterPaying 90 = .ok (.ireturn, 1) := by decide +kernel
theorem d_D_priceAfterTaking_0 : decode b_D_priceAfterTaking 0 = .ok (.aload_n 0, 1) := by decide +kernel
theorem d_D_priceAfterTaking_1 : decode b_D_priceAfterTaking 1 = .ok (.getfield 32, 3) := by decide +kernel
theorem d_D_priceAfterTaking_4 : decode b_D_priceAfterTaking 4 = .ok (.lneg, 1) := by decide +kernel
theorem d_D_priceAfterTaking_5 : decode b_D_priceAfterTaking 5 = .ok (.lstore 4, 2) := by decide +kernel
theorem d_D_priceAfterTaking_7 : decode b_D_priceAfterTaking 7 = .ok (.lload 4, 2) := by decide +kernel
theorem d_D_priceAfterTaking_9 : decode b_D_priceAfterTaking 9 = .ok (.aload_n 0, 1) := by decide +kernel
theorem d_D_priceAfterTaking_10 : decode b_D_priceAfterTaking 10 = .ok (.lload_n 1, 1) := by decide +kernel
theorem d_D_priceAfterTaking_11 : decode b_D_priceAfterTaking 11 = .ok (.iload_n 3, 1) := by decide +kernel
theorem d_D_priceAfterTaking_12 : decode b_D_priceAfterTaking 12 = .ok (.invokevirtual 72, 3) := by decide +kernel
theorem d_D_priceAfterTaking_15 : decode b_D_priceAfterTaking 15 = .ok (.lcmp, 1) := by decide +kernel
theorem d_D_priceAfterTaking_16 : decode b_D_priceAfterTaking 16 = .ok (.ifCond .lt 5, 3) := by decide +kernel
theorem d_D_priceAfterTaking_19 : decode b_D_priceAfterTaking 19 = .ok (.iload_n 3, 1) := by decide +kernel
theorem d_D_priceAfterTaking_20 : decode b_D_priceAfterTaking 20 = .ok (.ireturn, 1) := by decide +kernel
theorem d_D_priceAfterTaking_21 : decode b_D_priceAfterTaking 21 = .ok (.aload_n 0, 1) := by decide +kernel
theorem d_D_priceAfterTaking_22 : decode b_D_priceAfterTaking 22 = .ok (.getfield 15, 3) := by decide +kernel
theorem d_D_priceAfterTaking_25 : decode b_D_priceAfterTaking 25 = .ok (.ifCond .eq 22, 3) := by decide +kernel
theorem d_D_priceAfterTaking_28 : decode b_D_priceAfterTaking 28 = .ok (.aload_n 0, 1) := by decide +kernel
theorem d_D_priceAfterTaking_29 : decode b_D_priceAfterTaking 29 = .ok (.getfield 19, 3) := by decide +kernel
theorem d_D_priceAfterTaking_32 : decode b_D_priceAfterTaking 32 = .ok (.i2l, 1) := by decide +kernel
theorem d_D_priceAfterTaking_33 : decode b_D_priceAfterTaking 33 = .ok (.lload 4, 2) := by decide +kernel
theorem d_D_priceAfterTaking_35 : decode b_D_priceAfterTaking 35 = .ok (.ldc2_w 104, 3) := by decide +kernel
theorem d_D_priceAfterTaking_38 : decode b_D_priceAfterTaking 38 = .ok (.lmul, 1) := by decide +kernel
theorem d_D_priceAfterTaking_39 : decode b_D_priceAfterTaking 39 = .ok (.lload_n 1, 1) := by decide +kernel
theorem d_D_priceAfterTaking_40 : decode b_D_priceAfterTaking 40 = .ok (.iconst 1, 1) := by decide +kernel
theorem d_D_priceAfterTaking_41 : decode b_D_priceAfterTaking 41 = .ok (.invokestatic 83, 3) := by decide +kernel
theorem d_D_priceAfterTaking_44 : decode b_D_priceAfterTaking 44 = .ok (.lsub, 1) := by decide +kernel
theorem d_D_priceAfterTaking_45 : decode b_D_priceAfterTaking 45 = .ok (.l2i, 1) := by decide +kernel
theorem d_D_priceAfterTaking_46 : decode b_D_priceAfterTaking 46 = .ok (.ireturn, 1) := by decide +kernel
theorem d_D_priceAfterTaking_47 : decode b_D_priceAfterTaking 47 = .ok (.lload_n 1, 1) := by decide +kernel
theorem d_D_priceAfterTaking_48 : decode b_D_priceAfterTaking 48 = .ok (.ldc2_w 104, 3) := by decide +kernel
theorem d_D_priceAfterTaking_51 : decode b_D_priceAfterTaking 51 = .ok (.lmul, 1) := by decide +kernel
theorem d_D_priceAfterTaking_52 : decode b_D_priceAfterTaking 52 = .ok (.aload_n 0, 1) := by decide +kernel
theorem d_D_priceAfterTaking_53 : decode b_D_priceAfterTaking 53 = .ok (.getfield 19, 3) := by decide +kernel
theorem d_D_priceAfterTaking_56 : decode b_D_priceAfterTaking 56 = .ok (.i2l, 1) := by decide +kernel
theorem d_D_priceAfterTaking_57 : decode b_D_priceAfterTaking 57 = .ok (.lmul, 1) := by decide +kernel
theorem d_D_priceAfterTaking_58 : decode b_D_priceAfterTaking 58 = .ok (.lload_n 1, 1) := by decide +kernel
theorem d_D_priceAfterTaking_59 : decode b_D_priceAfterTaking 59 = .ok (.ldc2_w 104, 3) := by decide +kernel
theorem d_D_priceAfterTaking_62 : decode b_D_priceAfterTaking 62 = .ok (.lmul, 1) := by decide +kernel
theorem d_D_priceAfterTaking_63 : decode b_D_priceAfterTaking 63 = .ok (.lload 4, 2) := by decide +kernel
theorem d_D_priceAfterTaking_65 : decode b_D_priceAfterTaking 65 = .ok (.aload_n 0, 1) := by decide +kernel
theorem d_D_priceAfterTaking_66 : decode b_D_priceAfterTaking 66 = .ok (.getfield 19, 3) := by decide +kernel
theorem d_D_priceAfterTaking_69 : decode b_D_priceAfterTaking 69 = .ok (.i2l, 1) := by decide +kernel
theorem d_D_priceAfterTaking_70 : decode b_D_priceAfterTaking 70 = .ok (.lmul, 1) := by decide +kernel
theorem d_D_priceAfterTaking_71 : decode b_D_priceAfterTaking 71 = .ok (.lsub, 1) := by decide +kernel
theorem d_D_priceAfterTaking_72 : decode b_D_priceAfterTaking 72 = .ok (.iconst 1, 1) := by decide +kernel
theorem d_D_priceAfterTaking_73 : decode b_D_priceAfterTaking 73 = .ok (.invokestatic 83, 3) := by decide +kernel
theorem d_D_priceAfterTaking_76 : decode b_D_priceAfterTaking 76 = .ok (.l2i, 1) := by decide +kernel
theorem d_D_priceAfterTaking_77 : decode b_D_priceAfterTaking 77 = .ok (.ireturn, 1) := by decide +kernel
theorem d_D_amountIn_0 : decode b_D_amountIn 0 = .ok (.aload_n 0, 1) := by decide +kernel
theorem d_D_amountIn_1 : decode b_D_amountIn 1 = .ok (.getfield 15, 3) := by decide +kernel
theorem d_D_amountIn_4 : decode b_D_amountIn 4 = .ok (.ifCond .eq 18, 3) := by decide +kernel
theorem d_D_amountIn_7 : decode b_D_amountIn 7 = .ok (.iload_n 3, 1) := by decide +kernel
theorem d_D_amountIn_8 : decode b_D_amountIn 8 = .ok (.i2l, 1) := by decide +kernel
theorem d_D_amountIn_9 : decode b_D_amountIn 9 = .ok (.aload_n 0, 1) := by decide +kernel
theorem d_D_amountIn_10 : decode b_D_amountIn 10 = .ok (.getfield 19, 3) := by decide +kernel
theorem d_D_amountIn_13 : decode b_D_amountIn 13 = .ok (.i2l, 1) := by decide +kernel
theorem d_D_amountIn_14 : decode b_D_amountIn 14 = .ok (.lload_n 1, 1) := by decide +kernel
theorem d_D_amountIn_15 : decode b_D_amountIn 15 = .ok (.iconst 1, 1) := by decide +kernel
theorem d_D_amountIn_16 : decode b_D_amountIn 16 = .ok (.invokestatic 106, 3) := by decide +kernel
theorem d_D_amountIn_19 : decode b_D_amountIn 19 = .ok (.goto 15, 3) := by decide +kernel
theorem d_D_amountIn_22 : decode b_D_amountIn 22 = .ok (.aload_n 0, 1) := by decide +kernel
theorem d_D_amountIn_23 : decode b_D_amountIn 23 = .ok (.getfield 19, 3) := by decide +kernel
theorem d_D_amountIn_26 : decode b_D_amountIn 26 = .ok (.i2l, 1) := by decide +kernel
theorem d_D_amountIn_27 : decode b_D_amountIn 27 = .ok (.iload_n 3, 1) := by decide +kernel
theorem d_D_amountIn_28 : decode b_D_amountIn 28 = .ok (.i2l, 1) := by decide +kernel
theorem d_D_amountIn_29 : decode b_D_amountIn 29 = .ok (.lload_n 1, 1) := by decide +kernel
theorem d_D_amountIn_30 : decode b_D_amountIn 30 = .ok (.iconst 1, 1) := by decide +kernel
theorem d_D_amountIn_31 : decode b_D_amountIn 31 = .ok (.invokestatic 110, 3) := by decide +kernel
theorem d_D_amountIn_34 : decode b_D_amountIn 34 = .ok (.lreturn, 1) := by decide +kernel
theorem d_D_amountOut_0 : decode b_D_amountOut 0 = .ok (.aload_n 0, 1) := by decide +kernel
theorem d_D_amountOut_1 : decode b_D_amountOut 1 = .ok (.getfield 15, 3) := by decide +kernel
theorem d_D_amountOut_4 : decode b_D_amountOut 4 = .ok (.ifCond .eq 18, 3) := by decide +kernel
theorem d_D_amountOut_7 : decode b_D_amountOut 7 = .ok (.iload_n 3, 1) := by decide +kernel
theorem d_D_amountOut_8 : decode b_D_amountOut 8 = .ok (.i2l, 1) := by decide +kernel
theorem d_D_amountOut_9 : decode b_D_amountOut 9 = .ok (.aload_n 0, 1) := by decide +kernel
theorem d_D_amountOut_10 : decode b_D_amountOut 10 = .ok (.getfield 19, 3) := by decide +kernel
theorem d_D_amountOut_13 : decode b_D_amountOut 13 = .ok (.i2l, 1) := by decide +kernel
theorem d_D_amountOut_14 : decode b_D_amountOut 14 = .ok (.lload_n 1, 1) := by decide +kernel
theorem d_D_amountOut_15 : decode b_D_amountOut 15 = .ok (.iconst 0, 1) := by decide +kernel
theorem d_D_amountOut_16 : decode b_D_amountOut 16 = .ok (.invokestatic 110, 3) := by decide +kernel
theorem d_D_amountOut_19 : decode b_D_amountOut 19 = .ok (.goto 15, 3) := by decide +kernel
theorem d_D_amountOut_22 : decode b_D_amountOut 22 = .ok (.aload_n 0, 1) := by decide +kernel
theorem d_D_amountOut_23 : decode b_D_amountOut 23 = .ok (.getfield 19, 3) := by decide +kernel
theorem d_D_amountOut_26 : decode b_D_amountOut 26 = .ok (.i2l, 1) := by decide +kernel
theorem d_D_amountOut_27 : decode b_D_amountOut 27 = .ok (.iload_n 3, 1) := by decide +kernel
theorem d_D_amountOut_28 : decode b_D_amountOut 28 = .ok (.i2l, 1) := by decide +kernel
theorem d_D_amountOut_29 : decode b_D_amountOut 29 = .ok (.lload_n 1, 1) := by decide +kernel
theorem d_D_amountOut_30 : decode b_D_amountOut 30 = .ok (.iconst 0, 1) := by decide +kernel
theorem d_D_amountOut_31 : decode b_D_amountOut 31 = .ok (.invokestatic 106, 3) := by decide +kernel
theorem d_D_amountOut_34 : decode b_D_amountOut 34 = .ok (.lreturn, 1) := by decide +kernel
theorem d_D_moveTo_0 : decode b_D_moveTo 0 = .ok (.iload_n 1, 1) := by decide +kernel
theorem d_D_moveTo_1 : decode b_D_moveTo 1 = .ok (.aload_n 0, 1) := by decide +kernel
theorem d_D_moveTo_2 : decode b_D_moveTo 2 = .ok (.getfield 19, 3) := by decide +kernel
theorem d_D_moveTo_5 : decode b_D_moveTo 5 = .ok (.if_icmp .eq 7, 3) := by decide +kernel
theorem d_D_moveTo_8 : decode b_D_moveTo 8 = .ok (.iconst 1, 1) := by decide +kernel
theorem d_D_moveTo_9 : decode b_D_moveTo 9 = .ok (.goto 4, 3) := by decide +kernel
theorem d_D_moveTo_12 : decode b_D_moveTo 12 = .ok (.iconst 0, 1) := by decide +kernel
theorem d_D_moveTo_13 : decode b_D_moveTo 13 = .ok (.istore_n 3, 1) := by decide +kernel
theorem d_D_moveTo_14 : decode b_D_moveTo 14 = .ok (.aload_n 0, 1) := by decide +kernel
theorem d_D_moveTo_15 : decode b_D_moveTo 15 = .ok (.iload_n 1, 1) := by decide +kernel
theorem d_D_moveTo_16 : decode b_D_moveTo 16 = .ok (.putfield 19, 3) := by decide +kernel
theorem d_D_moveTo_19 : decode b_D_moveTo 19 = .ok (.iload_n 2, 1) := by decide +kernel
theorem d_D_moveTo_20 : decode b_D_moveTo 20 = .ok (.sipush 1000, 3) := by decide +kernel
theorem d_D_moveTo_23 : decode b_D_moveTo 23 = .ok (.if_icmp .eq 32, 3) := by decide +kernel
theorem d_D_moveTo_26 : decode b_D_moveTo 26 = .ok (.iload_n 1, 1) := by decide +kernel
theorem d_D_moveTo_27 : decode b_D_moveTo 27 = .ok (.iload_n 2, 1) := by decide +kernel
theorem d_D_moveTo_28 : decode b_D_moveTo 28 = .ok (.invokestatic 95, 3) := by decide +kernel
theorem d_D_moveTo_31 : decode b_D_moveTo 31 = .ok (.if_icmp .ne 24, 3) := by decide +kernel
theorem d_D_moveTo_34 : decode b_D_moveTo 34 = .ok (.aload_n 0, 1) := by decide +kernel
theorem d_D_moveTo_35 : decode b_D_moveTo 35 = .ok (.aload_n 0, 1) := by decide +kernel
theorem d_D_moveTo_36 : decode b_D_moveTo 36 = .ok (.getfield 15, 3) := by decide +kernel
theorem d_D_moveTo_39 : decode b_D_moveTo 39 = .ok (.ifCond .eq 9, 3) := by decide +kernel
theorem d_D_moveTo_42 : decode b_D_moveTo 42 = .ok (.iload_n 2, 1) := by decide +kernel
theorem d_D_moveTo_43 : decode b_D_moveTo 43 = .ok (.iconst 1, 1) := by decide +kernel
theorem d_D_moveTo_44 : decode b_D_moveTo 44 = .ok (.isub, 1) := by decide +kernel
theorem d_D_moveTo_45 : decode b_D_moveTo 45 = .ok (.goto 4, 3) := by decide +kernel
theorem d_D_moveTo_48 : decode b_D_moveTo 48 = .ok (.iload_n 2, 1) := by decide +kernel
theorem d_D_moveTo_49 : decode b_D_moveTo 49 = .ok (.putfield 22, 3) := by decide +kernel
theorem d_D_moveTo_52 : decode b_D_moveTo 52 = .ok (.goto 15, 3) := by decide +kernel
theorem d_D_moveTo_55 : decode b_D_moveTo 55 = .ok (.iload_n 3, 1) := by decide +kernel
theorem d_D_moveTo_56 : decode b_D_moveTo 56 = .ok (.ifCond .eq 11, 3) := by decide +kernel
theorem d_D_moveTo_59 : decode b_D_moveTo 59 = .ok (.aload_n 0, 1) := by decide +kernel
theorem d_D_moveTo_60 : decode b_D_moveTo 60 = .ok (.iload_n 1, 1) := by decide +kernel
theorem d_D_moveTo_61 : decode b_D_moveTo 61 = .ok (.invokestatic 113, 3) := by decide +kernel
theorem d_D_moveTo_64 : decode b_D_moveTo 64 = .ok (.putfield 22, 3) := by decide +kernel
theorem d_D_moveTo_67 : decode b_D_moveTo 67 = .ok (.return_, 1) := by decide +kernel
end
section
theorem d_H_init_0 : decode b_H_init 0 = .ok (.aload_n 0, 1) := by decide +kernel
theorem d_H_init_1 : decode b_H_init 1 = .ok (.invokespecial 3, 3) := by decide +kernel
theorem d_H_init_4 : decode b_H_init 4 = .ok (.aload_n 0, 1) := by decide +kernel
theorem d_H_init_5 : decode b_H_init 5 = .ok (.bipush 8, 2) := by decide +kernel
theorem d_H_init_7 : decode b_H_init 7 = .ok (.newarray .long, 2) := by decide +kernel
theorem d_H_init_9 : decode b_H_init 9 = .ok (.putfield 9, 3) := by decide +kernel
theorem d_H_init_12 : decode b_H_init 12 = .ok (.aload_n 0, 1) := by decide +kernel
theorem d_H_init_13 : decode b_H_init 13 = .ok (.bipush 8, 2) := by decide +kernel
theorem d_H_init_15 : decode b_H_init 15 = .ok (.newarray .long, 2) := by decide +kernel
theorem d_H_init_17 : decode b_H_init 17 = .ok (.putfield 15, 3) := by decide +kernel
theorem d_H_init_20 : decode b_H_init 20 = .ok (.aload_n 0, 1) := by decide +kernel
theorem d_H_init_21 : decode b_H_init 21 = .ok (.bipush 8, 2) := by decide +kernel
theorem d_H_init_23 : decode b_H_init 23 = .ok (.newarray .int, 2) := by decide +kernel
theorem d_H_init_25 : decode b_H_init 25 = .ok (.putfield 18, 3) := by decide +kernel
theorem d_H_init_28 : decode b_H_init 28 = .ok (.return_, 1) := by decide +kernel
theorem d_H_tick_0 : decode b_H_tick 0 = .ok (.aload_n 0, 1) := by decide +kernel
theorem d_H_tick_1 : decode b_H_tick 1 = .ok (.dup, 1) := by decide +kernel
theorem d_H_tick_2 : decode b_H_tick 2 = .ok (.getfield 22, 3) := by decide +kernel
theorem d_H_tick_5 : decode b_H_tick 5 = .ok (.iload_n 1, 1) := by decide +kernel
theorem d_H_tick_6 : decode b_H_tick 6 = .ok (.i2l, 1) := by decide +kernel
theorem d_H_tick_7 : decode b_H_tick 7 = .ok (.ladd, 1) := by decide +kernel
theorem d_H_tick_8 : decode b_H_tick 8 = .ok (.putfield 22, 3) := by decide +kernel
theorem d_H_tick_11 : decode b_H_tick 11 = .ok (.aload_n 0, 1) := by decide +kernel
theorem d_H_tick_12 : decode b_H_tick 12 = .ok (.dup, 1) := by decide +kernel
theorem d_H_tick_13 : decode b_H_tick 13 = .ok (.getfield 26, 3) := by decide +kernel
theorem d_H_tick_16 : decode b_H_tick 16 = .ok (.iload_n 2, 1) := by decide +kernel
theorem d_H_tick_17 : decode b_H_tick 17 = .ok (.i2l, 1) := by decide +kernel
theorem d_H_tick_18 : decode b_H_tick 18 = .ok (.iload_n 1, 1) := by decide +kernel
theorem d_H_tick_19 : decode b_H_tick 19 = .ok (.i2l, 1) := by decide +kernel
theorem d_H_tick_20 : decode b_H_tick 20 = .ok (.lmul, 1) := by decide +kernel
theorem d_H_tick_21 : decode b_H_tick 21 = .ok (.ladd, 1) := by decide +kernel
theorem d_H_tick_22 : decode b_H_tick 22 = .ok (.putfield 26, 3) := by decide +kernel
theorem d_H_tick_25 : decode b_H_tick 25 = .ok (.return_, 1) := by decide +kernel
theorem d_H_mark_0 : decode b_H_mark 0 = .ok (.aload_n 0, 1) := by decide +kernel
theorem d_H_mark_1 : decode b_H_mark 1 = .ok (.getfield 29, 3) := by decide +kernel
theorem d_H_mark_4 : decode b_H_mark 4 = .ok (.ifCond .le 23, 3) := by decide +kernel
theorem d_H_mark_7 : decode b_H_mark 7 = .ok (.aload_n 0, 1) := by decide +kernel
theorem d_H_mark_8 : decode b_H_mark 8 = .ok (.getfield 9, 3) := by decide +kernel
theorem d_H_mark_11 : decode b_H_mark 11 = .ok (.aload_n 0, 1) := by decide +kernel
theorem d_H_mark_12 : decode b_H_mark 12 = .ok (.getfield 29, 3) := by decide +kernel
theorem d_H_mark_15 : decode b_H_mark 15 = .ok (.iconst 1, 1) := by decide +kernel
theorem d_H_mark_16 : decode b_H_mark 16 = .ok (.isub, 1) := by decide +kernel
theorem d_H_mark_17 : decode b_H_mark 17 = .ok (.laload, 1) := by decide +kernel
theorem d_H_mark_18 : decode b_H_mark 18 = .ok (.aload_n 0, 1) := by decide +kernel
theorem d_H_mark_19 : decode b_H_mark 19 = .ok (.getfield 22, 3) := by decide +kernel
theorem d_H_mark_22 : decode b_H_mark 22 = .ok (.lcmp, 1) := by decide +kernel
theorem d_H_mark_23 : decode b_H_mark 23 = .ok (.ifCond .ne 4, 3) := by decide +kernel
theorem d_H_mark_26 : decode b_H_mark 26 = .ok (.return_, 1) := by decide +kernel
theorem d_H_mark_27 : decode b_H_mark 27 = .ok (.aload_n 0, 1) := by decide +kernel
theorem d_H_mark_28 : decode b_H_mark 28 = .ok (.getfield 29, 3) := by decide +kernel
theorem d_H_mark_31 : decode b_H_mark 31 = .ok (.bipush 8, 2) := by decide +kernel
theorem d_H_mark_33 : decode b_H_mark 33 = .ok (.if_icmp .ne 7, 3) := by decide +kernel
theorem d_H_mark_36 : decode b_H_mark 36 = .ok (.aload_n 0, 1) := by decide +kernel
theorem d_H_mark_37 : decode b_H_mark 37 = .ok (.invokevirtual 33, 3) := by decide +kernel
theorem d_H_mark_40 : decode b_H_mark 40 = .ok (.aload_n 0, 1) := by decide +kernel
theorem d_H_mark_41 : decode b_H_mark 41 = .ok (.getfield 9, 3) := by decide +kernel
theorem d_H_mark_44 : decode b_H_mark 44 = .ok (.aload_n 0, 1) := by decide +kernel
theorem d_H_mark_45 : decode b_H_mark 45 = .ok (.getfield 29, 3) := by decide +kernel
theorem d_H_mark_48 : decode b_H_mark 48 = .ok (.aload_n 0, 1) := by decide +kernel
theorem d_H_mark_49 : decode b_H_mark 49 = .ok (.getfield 22, 3) := by decide +kernel
theorem d_H_mark_52 : decode b_H_mark 52 = .ok (.lastore, 1) := by decide +kernel
theorem d_H_mark_53 : decode b_H_mark 53 = .ok (.aload_n 0, 1) := by decide +kernel
theorem d_H_mark_54 : decode b_H_mark 54 = .ok (.getfield 15, 3) := by decide +kernel
theorem d_H_mark_57 : decode b_H_mark 57 = .ok (.aload_n 0, 1) := by decide +kernel
theorem d_H_mark_58 : decode b_H_mark 58 = .ok (.getfield 29, 3) := by decide +kernel
theorem d_H_mark_61 : decode b_H_mark 61 = .ok (.aload_n 0, 1) := by decide +kernel
theorem d_H_mark_62 : decode b_H_mark 62 = .ok (.getfield 26, 3) := by decide +kernel
theorem d_H_mark_65 : decode b_H_mark 65 = .ok (.lastore, 1) := by decide +kernel
theorem d_H_mark_66 : decode b_H_mark 66 = .ok (.aload_n 0, 1) := by decide +kernel
theorem d_H_mark_67 : decode b_H_mark 67 = .ok (.getfield 18, 3) := by decide +kernel
theorem d_H_mark_70 : decode b_H_mark 70 = .ok (.aload_n 0, 1) := by decide +kernel
theorem d_H_mark_71 : decode b_H_mark 71 = .ok (.getfield 29, 3) := by decide +kernel
theorem d_H_mark_74 : decode b_H_mark 74 = .ok (.iload_n 1, 1) := by decide +kernel
theorem d_H_mark_75 : decode b_H_mark 75 = .ok (.iastore, 1) := by decide +kernel
theorem d_H_mark_76 : decode b_H_mark 76 = .ok (.aload_n 0, 1) := by decide +kernel
theorem d_H_mark_77 : decode b_H_mark 77 = .ok (.dup, 1) := by decide +kernel
theorem d_H_mark_78 : decode b_H_mark 78 = .ok (.getfield 29, 3) := by decide +kernel
theorem d_H_mark_81 : decode b_H_mark 81 = .ok (.iconst 1, 1) := by decide +kernel
theorem d_H_mark_82 : decode b_H_mark 82 = .ok (.iadd, 1) := by decide +kernel
theorem d_H_mark_83 : decode b_H_mark 83 = .ok (.putfield 29, 3) := by decide +kernel
theorem d_H_mark_86 : decode b_H_mark 86 = .ok (.return_, 1) := by decide +kernel
theorem d_H_dropOldest_0 : decode b_H_dropOldest 0 = .ok (.iconst 1, 1) := by decide +kernel
theorem d_H_dropOldest_1 : decode b_H_dropOldest 1 = .ok (.istore_n 1, 1) := by decide +kernel
theorem d_H_dropOldest_2 : decode b_H_dropOldest 2 = .ok (.iload_n 1, 1) := by decide +kernel
theorem d_H_dropOldest_3 : decode b_H_dropOldest 3 = .ok (.bipush 8, 2) := by decide +kernel
theorem d_H_dropOldest_5 : decode b_H_dropOldest 5 = .ok (.if_icmp .ge 51, 3) := by decide +kernel
theorem d_H_dropOldest_8 : decode b_H_dropOldest 8 = .ok (.aload_n 0, 1) := by decide +kernel
theorem d_H_dropOldest_9 : decode b_H_dropOldest 9 = .ok (.getfield 9, 3) := by decide +kernel
theorem d_H_dropOldest_12 : decode b_H_dropOldest 12 = .ok (.iload_n 1, 1) := by decide +kernel
theorem d_H_dropOldest_13 : decode b_H_dropOldest 13 = .ok (.iconst 1, 1) := by decide +kernel
theorem d_H_dropOldest_14 : decode b_H_dropOldest 14 = .ok (.isub, 1) := by decide +kernel
theorem d_H_dropOldest_15 : decode b_H_dropOldest 15 = .ok (.aload_n 0, 1) := by decide +kernel
theorem d_H_dropOldest_16 : decode b_H_dropOldest 16 = .ok (.getfield 9, 3) := by decide +kernel
theorem d_H_dropOldest_19 : decode b_H_dropOldest 19 = .ok (.iload_n 1, 1) := by decide +kernel
theorem d_H_dropOldest_20 : decode b_H_dropOldest 20 = .ok (.laload, 1) := by decide +kernel
theorem d_H_dropOldest_21 : decode b_H_dropOldest 21 = .ok (.lastore, 1) := by decide +kernel
theorem d_H_dropOldest_22 : decode b_H_dropOldest 22 = .ok (.aload_n 0, 1) := by decide +kernel
theorem d_H_dropOldest_23 : decode b_H_dropOldest 23 = .ok (.getfield 15, 3) := by decide +kernel
theorem d_H_dropOldest_26 : decode b_H_dropOldest 26 = .ok (.iload_n 1, 1) := by decide +kernel
theorem d_H_dropOldest_27 : decode b_H_dropOldest 27 = .ok (.iconst 1, 1) := by decide +kernel
theorem d_H_dropOldest_28 : decode b_H_dropOldest 28 = .ok (.isub, 1) := by decide +kernel
theorem d_H_dropOldest_29 : decode b_H_dropOldest 29 = .ok (.aload_n 0, 1) := by decide +kernel
theorem d_H_dropOldest_30 : decode b_H_dropOldest 30 = .ok (.getfield 15, 3) := by decide +kernel
theorem d_H_dropOldest_33 : decode b_H_dropOldest 33 = .ok (.iload_n 1, 1) := by decide +kernel
theorem d_H_dropOldest_34 : decode b_H_dropOldest 34 = .ok (.laload, 1) := by decide +kernel
theorem d_H_dropOldest_35 : decode b_H_dropOldest 35 = .ok (.lastore, 1) := by decide +kernel
theorem d_H_dropOldest_36 : decode b_H_dropOldest 36 = .ok (.aload_n 0, 1) := by decide +kernel
theorem d_H_dropOldest_37 : decode b_H_dropOldest 37 = .ok (.getfield 18, 3) := by decide +kernel
theorem d_H_dropOldest_40 : decode b_H_dropOldest 40 = .ok (.iload_n 1, 1) := by decide +kernel
theorem d_H_dropOldest_41 : decode b_H_dropOldest 41 = .ok (.iconst 1, 1) := by decide +kernel
theorem d_H_dropOldest_42 : decode b_H_dropOldest 42 = .ok (.isub, 1) := by decide +kernel
theorem d_H_dropOldest_43 : decode b_H_dropOldest 43 = .ok (.aload_n 0, 1) := by decide +kernel
theorem d_H_dropOldest_44 : decode b_H_dropOldest 44 = .ok (.getfield 18, 3) := by decide +kernel
theorem d_H_dropOldest_47 : decode b_H_dropOldest 47 = .ok (.iload_n 1, 1) := by decide +kernel
theorem d_H_dropOldest_48 : decode b_H_dropOldest 48 = .ok (.iaload, 1) := by decide +kernel
theorem d_H_dropOldest_49 : decode b_H_dropOldest 49 = .ok (.iastore, 1) := by decide +kernel
theorem d_H_dropOldest_50 : decode b_H_dropOldest 50 = .ok (.iinc 1 1, 3) := by decide +kernel
theorem d_H_dropOldest_53 : decode b_H_dropOldest 53 = .ok (.goto (-51), 3) := by decide +kernel
theorem d_H_dropOldest_56 : decode b_H_dropOldest 56 = .ok (.aload_n 0, 1) := by decide +kernel
theorem d_H_dropOldest_57 : decode b_H_dropOldest 57 = .ok (.dup, 1) := by decide +kernel
theorem d_H_dropOldest_58 : decode b_H_dropOldest 58 = .ok (.getfield 29, 3) := by decide +kernel
theorem d_H_dropOldest_61 : decode b_H_dropOldest 61 = .ok (.iconst 1, 1) := by decide +kernel
theorem d_H_dropOldest_62 : decode b_H_dropOldest 62 = .ok (.isub, 1) := by decide +kernel
theorem d_H_dropOldest_63 : decode b_H_dropOldest 63 = .ok (.putfield 29, 3) := by decide +kernel
theorem d_H_dropOldest_66 : decode b_H_dropOldest 66 = .ok (.return_, 1) := by decide +kernel
theorem d_H_reaches_0 : decode b_H_reaches 0 = .ok (.aload_n 0, 1) := by decide +kernel
theorem d_H_reaches_1 : decode b_H_reaches 1 = .ok (.getfield 29, 3) := by decide +kernel
theorem d_H_reaches_4 : decode b_H_reaches 4 = .ok (.ifCond .le 18, 3) := by decide +kernel
theorem d_H_reaches_7 : decode b_H_reaches 7 = .ok (.lload_n 1, 1) := by decide +kernel
theorem d_H_reaches_8 : decode b_H_reaches 8 = .ok (.aload_n 0, 1) := by decide +kernel
theorem d_H_reaches_9 : decode b_H_reaches 9 = .ok (.getfield 9, 3) := by decide +kernel
theorem d_H_reaches_12 : decode b_H_reaches 12 = .ok (.iconst 0, 1) := by decide +kernel
theorem d_H_reaches_13 : decode b_H_reaches 13 = .ok (.laload, 1) := by decide +kernel
theorem d_H_reaches_14 : decode b_H_reaches 14 = .ok (.lcmp, 1) := by decide +kernel
theorem d_H_reaches_15 : decode b_H_reaches 15 = .ok (.ifCond .lt 7, 3) := by decide +kernel
theorem d_H_reaches_18 : decode b_H_reaches 18 = .ok (.iconst 1, 1) := by decide +kernel
theorem d_H_reaches_19 : decode b_H_reaches 19 = .ok (.goto 4, 3) := by decide +kernel
theorem d_H_reaches_22 : decode b_H_reaches 22 = .ok (.iconst 0, 1) := by decide +kernel
theorem d_H_reaches_23 : decode b_H_reaches 23 = .ok (.ireturn, 1) := by decide +kernel
theorem d_H_sumAt_0 : decode b_H_sumAt 0 = .ok (.aload_n 0, 1) := by decide +kernel
theorem d_H_sumAt_1 : decode b_H_sumAt 1 = .ok (.getfield 22, 3) := by decide +kernel
theorem d_H_sumAt_4 : decode b_H_sumAt 4 = .ok (.lstore 4, 2) := by decide +kernel
theorem d_H_sumAt_6 : decode b_H_sumAt 6 = .ok (.aload_n 0, 1) := by decide +kernel
theorem d_H_sumAt_7 : decode b_H_sumAt 7 = .ok (.getfield 26, 3) := by decide +kernel
theorem d_H_sumAt_10 : decode b_H_sumAt 10 = .ok (.lstore 6, 2) := by decide +kernel
theorem d_H_sumAt_12 : decode b_H_sumAt 12 = .ok (.iload_n 3, 1) := by decide +kernel
theorem d_H_sumAt_13 : decode b_H_sumAt 13 = .ok (.istore 8, 2) := by decide +kernel
theorem d_H_sumAt_15 : decode b_H_sumAt 15 = .ok (.aload_n 0, 1) := by decide +kernel
theorem d_H_sumAt_16 : decode b_H_sumAt 16 = .ok (.getfield 29, 3) := by decide +kernel
theorem d_H_sumAt_19 : decode b_H_sumAt 19 = .ok (.iconst 1, 1) := by decide +kernel
theorem d_H_sumAt_20 : decode b_H_sumAt 20 = .ok (.isub, 1) := by decide +kernel
theorem d_H_sumAt_21 : decode b_H_sumAt 21 = .ok (.istore 9, 2) := by decide +kernel
theorem d_H_sumAt_23 : decode b_H_sumAt 23 = .ok (.iload 9, 2) := by decide +kernel
theorem d_H_sumAt_25 : decode b_H_sumAt 25 = .ok (.ifCond .lt 48, 3) := by decide +kernel
theorem d_H_sumAt_28 : decode b_H_sumAt 28 = .ok (.aload_n 0, 1) := by decide +kernel
theorem d_H_sumAt_29 : decode b_H_sumAt 29 = .ok (.getfield 9, 3) := by decide +kernel
theorem d_H_sumAt_32 : decode b_H_sumAt 32 = .ok (.iload 9, 2) := by decide +kernel
theorem d_H_sumAt_34 : decode b_H_sumAt 34 = .ok (.laload, 1) := by decide +kernel
theorem d_H_sumAt_35 : decode b_H_sumAt 35 = .ok (.lload_n 1, 1) := by decide +kernel
theorem d_H_sumAt_36 : decode b_H_sumAt 36 = .ok (.lcmp, 1) := by decide +kernel
theorem d_H_sumAt_37 : decode b_H_sumAt 37 = .ok (.ifCond .le 36, 3) := by decide +kernel
theorem d_H_sumAt_40 : decode b_H_sumAt 40 = .ok (.aload_n 0, 1) := by decide +kernel
theorem d_H_sumAt_41 : decode b_H_sumAt 41 = .ok (.getfield 9, 3) := by decide +kernel
theorem d_H_sumAt_44 : decode b_H_sumAt 44 = .ok (.iload 9, 2) := by decide +kernel
theorem d_H_sumAt_46 : decode b_H_sumAt 46 = .ok (.laload, 1) := by decide +kernel
theorem d_H_sumAt_47 : decode b_H_sumAt 47 = .ok (.lstore 4, 2) := by decide +kernel
theorem d_H_sumAt_49 : decode b_H_sumAt 49 = .ok (.aload_n 0, 1) := by decide +kernel
theorem d_H_sumAt_50 : decode b_H_sumAt 50 = .ok (.getfield 15, 3) := by decide +kernel
theorem d_H_sumAt_53 : decode b_H_sumAt 53 = .ok (.iload 9, 2) := by decide +kernel
theorem d_H_sumAt_55 : decode b_H_sumAt 55 = .ok (.laload, 1) := by decide +kernel
theorem d_H_sumAt_56 : decode b_H_sumAt 56 = .ok (.lstore 6, 2) := by decide +kernel
theorem d_H_sumAt_58 : decode b_H_sumAt 58 = .ok (.aload_n 0, 1) := by decide +kernel
theorem d_H_sumAt_59 : decode b_H_sumAt 59 = .ok (.getfield 18, 3) := by decide +kernel
theorem d_H_sumAt_62 : decode b_H_sumAt 62 = .ok (.iload 9, 2) := by decide +kernel
theorem d_H_sumAt_64 : decode b_H_sumAt 64 = .ok (.iaload, 1) := by decide +kernel
theorem d_H_sumAt_65 : decode b_H_sumAt 65 = .ok (.istore 8, 2) := by decide +kernel
theorem d_H_sumAt_67 : decode b_H_sumAt 67 = .ok (.iinc 9 (-1), 3) := by decide +kernel
theorem d_H_sumAt_70 : decode b_H_sumAt 70 = .ok (.goto (-47), 3) := by decide +kernel
theorem d_H_sumAt_73 : decode b_H_sumAt 73 = .ok (.lload 6, 2) := by decide +kernel
theorem d_H_sumAt_75 : decode b_H_sumAt 75 = .ok (.iload 8, 2) := by decide +kernel
theorem d_H_sumAt_77 : decode b_H_sumAt 77 = .ok (.i2l, 1) := by decide +kernel
theorem d_H_sumAt_78 : decode b_H_sumAt 78 = .ok (.lload 4, 2) := by decide +kernel
theorem d_H_sumAt_80 : decode b_H_sumAt 80 = .ok (.lload_n 1, 1) := by decide +kernel
theorem d_H_sumAt_81 : decode b_H_sumAt 81 = .ok (.lsub, 1) := by decide +kernel
theorem d_H_sumAt_82 : decode b_H_sumAt 82 = .ok (.lmul, 1) := by decide +kernel
theorem d_H_sumAt_83 : decode b_H_sumAt 83 = .ok (.lsub, 1) := by decide +kernel
theorem d_H_sumAt_84 : decode b_H_sumAt 84 = .ok (.lreturn, 1) := by decide +kernel
end
section
theorem d_L_cell_0 : decode b_L_cell 0 = .ok (.iload_n 1, 1) := by decide +kernel
theorem d_L_cell_1 : decode b_L_cell 1 = .ok (.aload_n 0, 1) := by decide +kernel
theorem d_L_cell_2 : decode b_L_cell 2 = .ok (.arraylength, 1) := by decide +kernel
theorem d_L_cell_3 : decode b_L_cell 3 = .ok (.if_icmp .ge 9, 3) := by decide +kernel
theorem d_L_cell_6 : decode b_L_cell 6 = .ok (.aload_n 0, 1) := by decide +kernel
theorem d_L_cell_7 : decode b_L_cell 7 = .ok (.iload_n 1, 1) := by decide +kernel
theorem d_L_cell_8 : decode b_L_cell 8 = .ok (.iaload, 1) := by decide +kernel
theorem d_L_cell_9 : decode b_L_cell 9 = .ok (.goto 4, 3) := by decide +kernel
theorem d_L_cell_12 : decode b_L_cell 12 = .ok (.iconst 0, 1) := by decide +kernel
theorem d_L_cell_13 : decode b_L_cell 13 = .ok (.ireturn, 1) := by decide +kernel
theorem d_law_0 : decode code 0 = .ok (.new 7, 3) := by decide +kernel
theorem d_law_3 : decode code 3 = .ok (.dup, 1) := by decide +kernel
theorem d_law_4 : decode code 4 = .ok (.aload_n 0, 1) := by decide +kernel
theorem d_law_5 : decode code 5 = .ok (.iconst 0, 1) := by decide +kernel
theorem d_law_6 : decode code 6 = .ok (.invokestatic 9, 3) := by decide +kernel
theorem d_law_9 : decode code 9 = .ok (.aload_n 0, 1) := by decide +kernel
theorem d_law_10 : decode code 10 = .ok (.iconst 1, 1) := by decide +kernel
theorem d_law_11 : decode code 11 = .ok (.invokestatic 9, 3) := by decide +kernel
theorem d_law_14 : decode code 14 = .ok (.invokespecial 15, 3) := by decide +kernel
theorem d_law_17 : decode code 17 = .ok (.astore_n 1, 1) := by decide +kernel
theorem d_law_18 : decode code 18 = .ok (.new 18, 3) := by decide +kernel
theorem d_law_21 : decode code 21 = .ok (.dup, 1) := by decide +kernel
theorem d_law_22 : decode code 22 = .ok (.aload_n 0, 1) := by decide +kernel
theorem d_law_23 : decode code 23 = .ok (.iconst 0, 1) := by decide +kernel
theorem d_law_24 : decode code 24 = .ok (.invokestatic 9, 3) := by decide +kernel
theorem d_law_27 : decode code 27 = .ok (.aload_n 0, 1) := by decide +kernel
theorem d_law_28 : decode code 28 = .ok (.iconst 1, 1) := by decide +kernel
theorem d_law_29 : decode code 29 = .ok (.invokestatic 9, 3) := by decide +kernel
theorem d_law_32 : decode code 32 = .ok (.invokespecial 20, 3) := by decide +kernel
theorem d_law_35 : decode code 35 = .ok (.astore_n 2, 1) := by decide +kernel
theorem d_law_36 : decode code 36 = .ok (.iconst 2, 1) := by decide +kernel
theorem d_law_37 : decode code 37 = .ok (.istore_n 3, 1) := by decide +kernel
theorem d_law_38 : decode code 38 = .ok (.iload_n 3, 1) := by decide +kernel
theorem d_law_39 : decode code 39 = .ok (.aload_n 0, 1) := by decide +kernel
theorem d_law_40 : decode code 40 = .ok (.arraylength, 1) := by decide +kernel
theorem d_law_41 : decode code 41 = .ok (.iconst 5, 1) := by decide +kernel
theorem d_law_42 : decode code 42 = .ok (.isub, 1) := by decide +kernel
theorem d_law_43 : decode code 43 = .ok (.if_icmp .gt 712, 3) := by decide +kernel
theorem d_law_46 : decode code 46 = .ok (.aload_n 0, 1) := by decide +kernel
theorem d_law_47 : decode code 47 = .ok (.iload_n 3, 1) := by decide +kernel
theorem d_law_48 : decode code 48 = .ok (.iaload, 1) := by decide +kernel
theorem d_law_49 : decode code 49 = .ok (.bipush 31, 2) := by decide +kernel
theorem d_law_51 : decode code 51 = .ok (.iand, 1) := by decide +kernel
theorem d_law_52 : decode code 52 = .ok (.tableswitch 697 0 16 #[84, 107, 150, 204, 258, 302, 372, 432, 476, 499, 523, 536, 549, 562, 596, 620, 674], 84) := by decide +kernel
theorem d_law_136 : decode code 136 = .ok (.aload_n 1, 1) := by decide +kernel
theorem d_law_137 : decode code 137 = .ok (.aload_n 0, 1) := by decide +kernel
theorem d_law_138 : decode code 138 = .ok (.iload_n 3, 1) := by decide +kernel
theorem d_law_139 : decode code 139 = .ok (.iconst 1, 1) := by decide +kernel
theorem d_law_140 : decode code 140 = .ok (.iadd, 1) := by decide +kernel
theorem d_law_141 : decode code 141 = .ok (.iaload, 1) := by decide +kernel
theorem d_law_142 : decode code 142 = .ok (.invokevirtual 21, 3) := by decide +kernel
theorem d_law_145 : decode code 145 = .ok (.aload_n 2, 1) := by decide +kernel
theorem d_law_146 : decode code 146 = .ok (.aload_n 0, 1) := by decide +kernel
theorem d_law_147 : decode code 147 = .ok (.iload_n 3, 1) := by decide +kernel
theorem d_law_148 : decode code 148 = .ok (.iconst 1, 1) := by decide +kernel
theorem d_law_149 : decode code 149 = .ok (.iadd, 1) := by decide +kernel
theorem d_law_150 : decode code 150 = .ok (.iaload, 1) := by decide +kernel
theorem d_law_151 : decode code 151 = .ok (.invokevirtual 25, 3) := by decide +kernel
theorem d_law_154 : decode code 154 = .ok (.if_icmp .eq 595, 3) := by decide +kernel
theorem d_law_157 : decode code 157 = .ok (.iconst 0, 1) := by decide +kernel
theorem d_law_158 : decode code 158 = .ok (.ireturn, 1) := by decide +kernel
theorem d_law_159 : decode code 159 = .ok (.aload_n 1, 1) := by decide +kernel
theorem d_law_160 : decode code 160 = .ok (.aload_n 0, 1) := by decide +kernel
theorem d_law_161 : decode code 161 = .ok (.iload_n 3, 1) := by decide +kernel
theorem d_law_162 : decode code 162 = .ok (.iconst 1, 1) := by decide +kernel
theorem d_law_163 : decode code 163 = .ok (.iadd, 1) := by decide +kernel
theorem d_law_164 : decode code 164 = .ok (.iaload, 1) := by decide +kernel
theorem d_law_165 : decode code 165 = .ok (.aload_n 0, 1) := by decide +kernel
theorem d_law_166 : decode code 166 = .ok (.iload_n 3, 1) := by decide +kernel
theorem d_law_167 : decode code 167 = .ok (.iconst 2, 1) := by decide +kernel
theorem d_law_168 : decode code 168 = .ok (.iadd, 1) := by decide +kernel
theorem d_law_169 : decode code 169 = .ok (.iaload, 1) := by decide +kernel
theorem d_law_170 : decode code 170 = .ok (.aload_n 0, 1) := by decide +kernel
theorem d_law_171 : decode code 171 = .ok (.iload_n 3, 1) := by decide +kernel
theorem d_law_172 : decode code 172 = .ok (.iconst 3, 1) := by decide +kernel
theorem d_law_173 : decode code 173 = .ok (.iadd, 1) := by decide +kernel
theorem d_law_174 : decode code 174 = .ok (.iaload, 1) := by decide +kernel
theorem d_law_175 : decode code 175 = .ok (.invokevirtual 26, 3) := by decide +kernel
theorem d_law_178 : decode code 178 = .ok (.aload_n 2, 1) := by decide +kernel
theorem d_law_179 : decode code 179 = .ok (.aload_n 0, 1) := by decide +kernel
theorem d_law_180 : decode code 180 = .ok (.iload_n 3, 1) := by decide +kernel
theorem d_law_181 : decode code 181 = .ok (.iconst 1, 1) := by decide +kernel
theorem d_law_182 : decode code 182 = .ok (.iadd, 1) := by decide +kernel
theorem d_law_183 : decode code 183 = .ok (.iaload, 1) := by decide +kernel
theorem d_law_184 : decode code 184 = .ok (.aload_n 0, 1) := by decide +kernel
theorem d_law_185 : decode code 185 = .ok (.iload_n 3, 1) := by decide +kernel
theorem d_law_186 : decode code 186 = .ok (.iconst 2, 1) := by decide +kernel
theorem d_law_187 : decode code 187 = .ok (.iadd, 1) := by decide +kernel
theorem d_law_188 : decode code 188 = .ok (.iaload, 1) := by decide +kernel
theorem d_law_189 : decode code 189 = .ok (.aload_n 0, 1) := by decide +kernel
theorem d_law_190 : decode code 190 = .ok (.iload_n 3, 1) := by decide +kernel
theorem d_law_191 : decode code 191 = .ok (.iconst 3, 1) := by decide +kernel
theorem d_law_192 : decode code 192 = .ok (.iadd, 1) := by decide +kernel
theorem d_law_193 : decode code 193 = .ok (.iaload, 1) := by decide +kernel
theorem d_law_194 : decode code 194 = .ok (.invokevirtual 30, 3) := by decide +kernel
theorem d_law_197 : decode code 197 = .ok (.if_icmp .eq 552, 3) := by decide +kernel
theorem d_law_200 : decode code 200 = .ok (.iconst 0, 1) := by decide +kernel
theorem d_law_201 : decode code 201 = .ok (.ireturn, 1) := by decide +kernel
theorem d_law_202 : decode code 202 = .ok (.aload_n 1, 1) := by decide +kernel
theorem d_law_203 : decode code 203 = .ok (.aload_n 0, 1) := by decide +kernel
theorem d_law_204 : decode code 204 = .ok (.iload_n 3, 1) := by decide +kernel
theorem d_law_205 : decode code 205 = .ok (.iconst 1, 1) := by decide +kernel
theorem d_law_206 : decode code 206 = .ok (.iadd, 1) := by decide +kernel
theorem d_law_207 : decode code 207 = .ok (.iaload, 1) := by decide +kernel
theorem d_law_208 : decode code 208 = .ok (.aload_n 0, 1) := by decide +kernel
theorem d_law_209 : decode code 209 = .ok (.iload_n 3, 1) := by decide +kernel
theorem d_law_210 : decode code 210 = .ok (.iconst 2, 1) := by decide +kernel
theorem d_law_211 : decode code 211 = .ok (.iadd, 1) := by decide +kernel
theorem d_law_212 : decode code 212 = .ok (.iaload, 1) := by decide +kernel
theorem d_law_213 : decode code 213 = .ok (.aload_n 0, 1) := by decide +kernel
theorem d_law_214 : decode code 214 = .ok (.iload_n 3, 1) := by decide +kernel
theorem d_law_215 : decode code 215 = .ok (.iconst 3, 1) := by decide +kernel
theorem d_law_216 : decode code 216 = .ok (.iadd, 1) := by decide +kernel
theorem d_law_217 : decode code 217 = .ok (.iaload, 1) := by decide +kernel
theorem d_law_218 : decode code 218 = .ok (.aload_n 0, 1) := by decide +kernel
theorem d_law_219 : decode code 219 = .ok (.iload_n 3, 1) := by decide +kernel
theorem d_law_220 : decode code 220 = .ok (.iconst 4, 1) := by decide +kernel
theorem d_law_221 : decode code 221 = .ok (.iadd, 1) := by decide +kernel
theorem d_law_222 : decode code 222 = .ok (.iaload, 1) := by decide +kernel
theorem d_law_223 : decode code 223 = .ok (.invokevirtual 31, 3) := by decide +kernel
theorem d_law_226 : decode code 226 = .ok (.aload_n 2, 1) := by decide +kernel
theorem d_law_227 : decode code 227 = .ok (.aload_n 0, 1) := by decide +kernel
theorem d_law_228 : decode code 228 = .ok (.iload_n 3, 1) := by decide +kernel
theorem d_law_229 : decode code 229 = .ok (.iconst 1, 1) := by decide +kernel
theorem d_law_230 : decode code 230 = .ok (.iadd, 1) := by decide +kernel
theorem d_law_231 : decode code 231 = .ok (.iaload, 1) := by decide +kernel
theorem d_law_232 : decode code 232 = .ok (.aload_n 0, 1) := by decide +kernel
theorem d_law_233 : decode code 233 = .ok (.iload_n 3, 1) := by decide +kernel
theorem d_law_234 : decode code 234 = .ok (.iconst 2, 1) := by decide +kernel
theorem d_law_235 : decode code 235 = .ok (.iadd, 1) := by decide +kernel
theorem d_law_236 : decode code 236 = .ok (.iaload, 1) := by decide +kernel
theorem d_law_237 : decode code 237 = .ok (.aload_n 0, 1) := by decide +kernel
theorem d_law_238 : decode code 238 = .ok (.iload_n 3, 1) := by decide +kernel
theorem d_law_239 : decode code 239 = .ok (.iconst 3, 1) := by decide +kernel
theorem d_law_240 : decode code 240 = .ok (.iadd, 1) := by decide +kernel
theorem d_law_241 : decode code 241 = .ok (.iaload, 1) := by decide +kernel
theorem d_law_242 : decode code 242 = .ok (.aload_n 0, 1) := by decide +kernel
theorem d_law_243 : decode code 243 = .ok (.iload_n 3, 1) := by decide +kernel
theorem d_law_244 : decode code 244 = .ok (.iconst 4, 1) := by decide +kernel
theorem d_law_245 : decode code 245 = .ok (.iadd, 1) := by decide +kernel
theorem d_law_246 : decode code 246 = .ok (.iaload, 1) := by decide +kernel
theorem d_law_247 : decode code 247 = .ok (.invokevirtual 35, 3) := by decide +kernel
theorem d_law_250 : decode code 250 = .ok (.lcmp, 1) := by decide +kernel
theorem d_law_251 : decode code 251 = .ok (.ifCond .eq 498, 3) := by decide +kernel
theorem d_law_254 : decode code 254 = .ok (.iconst 0, 1) := by decide +kernel
theorem d_law_255 : decode code 255 = .ok (.ireturn, 1) := by decide +kernel
theorem d_law_256 : decode code 256 = .ok (.aload_n 1, 1) := by decide +kernel
theorem d_law_257 : decode code 257 = .ok (.aload_n 0, 1) := by decide +kernel
theorem d_law_258 : decode code 258 = .ok (.iload_n 3, 1) := by decide +kernel
theorem d_law_259 : decode code 259 = .ok (.iconst 1, 1) := by decide +kernel
theorem d_law_260 : decode code 260 = .ok (.iadd, 1) := by decide +kernel
theorem d_law_261 : decode code 261 = .ok (.iaload, 1) := by decide +kernel
theorem d_law_262 : decode code 262 = .ok (.aload_n 0, 1) := by decide +kernel
theorem d_law_263 : decode code 263 = .ok (.iload_n 3, 1) := by decide +kernel
theorem d_law_264 : decode code 264 = .ok (.iconst 2, 1) := by decide +kernel
theorem d_law_265 : decode code 265 = .ok (.iadd, 1) := by decide +kernel
theorem d_law_266 : decode code 266 = .ok (.iaload, 1) := by decide +kernel
theorem d_law_267 : decode code 267 = .ok (.aload_n 0, 1) := by decide +kernel
theorem d_law_268 : decode code 268 = .ok (.iload_n 3, 1) := by decide +kernel
theorem d_law_269 : decode code 269 = .ok (.iconst 3, 1) := by decide +kernel
theorem d_law_270 : decode code 270 = .ok (.iadd, 1) := by decide +kernel
theorem d_law_271 : decode code 271 = .ok (.iaload, 1) := by decide +kernel
theorem d_law_272 : decode code 272 = .ok (.aload_n 0, 1) := by decide +kernel
theorem d_law_273 : decode code 273 = .ok (.iload_n 3, 1) := by decide +kernel
theorem d_law_274 : decode code 274 = .ok (.iconst 4, 1) := by decide +kernel
theorem d_law_275 : decode code 275 = .ok (.iadd, 1) := by decide +kernel
theorem d_law_276 : decode code 276 = .ok (.iaload, 1) := by decide +kernel
theorem d_law_277 : decode code 277 = .ok (.invokevirtual 36, 3) := by decide +kernel
theorem d_law_280 : decode code 280 = .ok (.aload_n 2, 1) := by decide +kernel
theorem d_law_281 : decode code 281 = .ok (.aload_n 0, 1) := by decide +kernel
theorem d_law_282 : decode code 282 = .ok (.iload_n 3, 1) := by decide +kernel
theorem d_law_283 : decode code 283 = .ok (.iconst 1, 1) := by decide +kernel
theorem d_law_284 : decode code 284 = .ok (.iadd, 1) := by decide +kernel
theorem d_law_285 : decode code 285 = .ok (.iaload, 1) := by decide +kernel
theorem d_law_286 : decode code 286 = .ok (.aload_n 0, 1) := by decide +kernel
theorem d_law_287 : decode code 287 = .ok (.iload_n 3, 1) := by decide +kernel
theorem d_law_288 : decode code 288 = .ok (.iconst 2, 1) := by decide +kernel
theorem d_law_289 : decode code 289 = .ok (.iadd, 1) := by decide +kernel
theorem d_law_290 : decode code 290 = .ok (.iaload, 1) := by decide +kernel
theorem d_law_291 : decode code 291 = .ok (.aload_n 0, 1) := by decide +kernel
theorem d_law_292 : decode code 292 = .ok (.iload_n 3, 1) := by decide +kernel
theorem d_law_293 : decode code 293 = .ok (.iconst 3, 1) := by decide +kernel
theorem d_law_294 : decode code 294 = .ok (.iadd, 1) := by decide +kernel
theorem d_law_295 : decode code 295 = .ok (.iaload, 1) := by decide +kernel
theorem d_law_296 : decode code 296 = .ok (.aload_n 0, 1) := by decide +kernel
theorem d_law_297 : decode code 297 = .ok (.iload_n 3, 1) := by decide +kernel
theorem d_law_298 : decode code 298 = .ok (.iconst 4, 1) := by decide +kernel
theorem d_law_299 : decode code 299 = .ok (.iadd, 1) := by decide +kernel
theorem d_law_300 : decode code 300 = .ok (.iaload, 1) := by decide +kernel
theorem d_law_301 : decode code 301 = .ok (.invokevirtual 39, 3) := by decide +kernel
theorem d_law_304 : decode code 304 = .ok (.lcmp, 1) := by decide +kernel
theorem d_law_305 : decode code 305 = .ok (.ifCond .eq 444, 3) := by decide +kernel
theorem d_law_308 : decode code 308 = .ok (.iconst 0, 1) := by decide +kernel
theorem d_law_309 : decode code 309 = .ok (.ireturn, 1) := by decide +kernel
theorem d_law_310 : decode code 310 = .ok (.aload_n 1, 1) := by decide +kernel
theorem d_law_311 : decode code 311 = .ok (.aload_n 0, 1) := by decide +kernel
theorem d_law_312 : decode code 312 = .ok (.iload_n 3, 1) := by decide +kernel
theorem d_law_313 : decode code 313 = .ok (.iconst 1, 1) := by decide +kernel
theorem d_law_314 : decode code 314 = .ok (.iadd, 1) := by decide +kernel
theorem d_law_315 : decode code 315 = .ok (.iaload, 1) := by decide +kernel
theorem d_law_316 : decode code 316 = .ok (.aload_n 0, 1) := by decide +kernel
theorem d_law_317 : decode code 317 = .ok (.iload_n 3, 1) := by decide +kernel
theorem d_law_318 : decode code 318 = .ok (.iconst 2, 1) := by decide +kernel
theorem d_law_319 : decode code 319 = .ok (.iadd, 1) := by decide +kernel
theorem d_law_320 : decode code 320 = .ok (.iaload, 1) := by decide +kernel
theorem d_law_321 : decode code 321 = .ok (.aload_n 0, 1) := by decide +kernel
theorem d_law_322 : decode code 322 = .ok (.iload_n 3, 1) := by decide +kernel
theorem d_law_323 : decode code 323 = .ok (.iconst 3, 1) := by decide +kernel
theorem d_law_324 : decode code 324 = .ok (.iadd, 1) := by decide +kernel
theorem d_law_325 : decode code 325 = .ok (.iaload, 1) := by decide +kernel
theorem d_law_326 : decode code 326 = .ok (.invokevirtual 40, 3) := by decide +kernel
theorem d_law_329 : decode code 329 = .ok (.aload_n 2, 1) := by decide +kernel
theorem d_law_330 : decode code 330 = .ok (.aload_n 0, 1) := by decide +kernel
theorem d_law_331 : decode code 331 = .ok (.iload_n 3, 1) := by decide +kernel
theorem d_law_332 : decode code 332 = .ok (.iconst 1, 1) := by decide +kernel
theorem d_law_333 : decode code 333 = .ok (.iadd, 1) := by decide +kernel
theorem d_law_334 : decode code 334 = .ok (.iaload, 1) := by decide +kernel
theorem d_law_335 : decode code 335 = .ok (.aload_n 0, 1) := by decide +kernel
theorem d_law_336 : decode code 336 = .ok (.iload_n 3, 1) := by decide +kernel
theorem d_law_337 : decode code 337 = .ok (.iconst 2, 1) := by decide +kernel
theorem d_law_338 : decode code 338 = .ok (.iadd, 1) := by decide +kernel
theorem d_law_339 : decode code 339 = .ok (.iaload, 1) := by decide +kernel
theorem d_law_340 : decode code 340 = .ok (.aload_n 0, 1) := by decide +kernel
theorem d_law_341 : decode code 341 = .ok (.iload_n 3, 1) := by decide +kernel
theorem d_law_342 : decode code 342 = .ok (.iconst 3, 1) := by decide +kernel
theorem d_law_343 : decode code 343 = .ok (.iadd, 1) := by decide +kernel
theorem d_law_344 : decode code 344 = .ok (.iaload, 1) := by decide +kernel
theorem d_law_345 : decode code 345 = .ok (.invokevirtual 44, 3) := by decide +kernel
theorem d_law_348 : decode code 348 = .ok (.lcmp, 1) := by decide +kernel
theorem d_law_349 : decode code 349 = .ok (.ifCond .eq 400, 3) := by decide +kernel
theorem d_law_352 : decode code 352 = .ok (.iconst 0, 1) := by decide +kernel
theorem d_law_353 : decode code 353 = .ok (.ireturn, 1) := by decide +kernel
theorem d_law_354 : decode code 354 = .ok (.aload_n 1, 1) := by decide +kernel
theorem d_law_355 : decode code 355 = .ok (.aload_n 0, 1) := by decide +kernel
theorem d_law_356 : decode code 356 = .ok (.iload_n 3, 1) := by decide +kernel
theorem d_law_357 : decode code 357 = .ok (.iconst 1, 1) := by decide +kernel
theorem d_law_358 : decode code 358 = .ok (.iadd, 1) := by decide +kernel
theorem d_law_359 : decode code 359 = .ok (.iaload, 1) := by decide +kernel
theorem d_law_360 : decode code 360 = .ok (.aload_n 0, 1) := by decide +kernel
theorem d_law_361 : decode code 361 = .ok (.iload_n 3, 1) := by decide +kernel
theorem d_law_362 : decode code 362 = .ok (.iconst 2, 1) := by decide +kernel
theorem d_law_363 : decode code 363 = .ok (.iadd, 1) := by decide +kernel
theorem d_law_364 : decode code 364 = .ok (.iaload, 1) := by decide +kernel
theorem d_law_365 : decode code 365 = .ok (.ifCond .eq 7, 3) := by decide +kernel
theorem d_law_368 : decode code 368 = .ok (.iconst 1, 1) := by decide +kernel
theorem d_law_369 : decode code 369 = .ok (.goto 4, 3) := by decide +kernel
theorem d_law_372 : decode code 372 = .ok (.iconst 0, 1) := by decide +kernel
theorem d_law_373 : decode code 373 = .ok (.aload_n 0, 1) := by decide +kernel
theorem d_law_374 : decode code 374 = .ok (.iload_n 3, 1) := by decide +kernel
theorem d_law_375 : decode code 375 = .ok (.iconst 3, 1) := by decide +kernel
theorem d_law_376 : decode code 376 = .ok (.iadd, 1) := by decide +kernel
theorem d_law_377 : decode code 377 = .ok (.iaload, 1) := by decide +kernel
theorem d_law_378 : decode code 378 = .ok (.aload_n 0, 1) := by decide +kernel
theorem d_law_379 : decode code 379 = .ok (.iload_n 3, 1) := by decide +kernel
theorem d_law_380 : decode code 380 = .ok (.iconst 4, 1) := by decide +kernel
theorem d_law_381 : decode code 381 = .ok (.iadd, 1) := by decide +kernel
theorem d_law_382 : decode code 382 = .ok (.iaload, 1) := by decide +kernel
theorem d_law_383 : decode code 383 = .ok (.invokevirtual 45, 3) := by decide +kernel
theorem d_law_386 : decode code 386 = .ok (.aload_n 2, 1) := by decide +kernel
theorem d_law_387 : decode code 387 = .ok (.aload_n 0, 1) := by decide +kernel
theorem d_law_388 : decode code 388 = .ok (.iload_n 3, 1) := by decide +kernel
theorem d_law_389 : decode code 389 = .ok (.iconst 1, 1) := by decide +kernel
theorem d_law_390 : decode code 390 = .ok (.iadd, 1) := by decide +kernel
theorem d_law_391 : decode code 391 = .ok (.iaload, 1) := by decide +kernel
theorem d_law_392 : decode code 392 = .ok (.aload_n 0, 1) := by decide +kernel
theorem d_law_393 : decode code 393 = .ok (.iload_n 3, 1) := by decide +kernel
theorem d_law_394 : decode code 394 = .ok (.iconst 2, 1) := by decide +kernel
theorem d_law_395 : decode code 395 = .ok (.iadd, 1) := by decide +kernel
theorem d_law_396 : decode code 396 = .ok (.iaload, 1) := by decide +kernel
theorem d_law_397 : decode code 397 = .ok (.ifCond .eq 7, 3) := by decide +kernel
theorem d_law_400 : decode code 400 = .ok (.iconst 1, 1) := by decide +kernel
theorem d_law_401 : decode code 401 = .ok (.goto 4, 3) := by decide +kernel
theorem d_law_404 : decode code 404 = .ok (.iconst 0, 1) := by decide +kernel
theorem d_law_405 : decode code 405 = .ok (.aload_n 0, 1) := by decide +kernel
theorem d_law_406 : decode code 406 = .ok (.iload_n 3, 1) := by decide +kernel
theorem d_law_407 : decode code 407 = .ok (.iconst 3, 1) := by decide +kernel
theorem d_law_408 : decode code 408 = .ok (.iadd, 1) := by decide +kernel
theorem d_law_409 : decode code 409 = .ok (.iaload, 1) := by decide +kernel
theorem d_law_410 : decode code 410 = .ok (.aload_n 0, 1) := by decide +kernel
theorem d_law_411 : decode code 411 = .ok (.iload_n 3, 1) := by decide +kernel
theorem d_law_412 : decode code 412 = .ok (.iconst 4, 1) := by decide +kernel
theorem d_law_413 : decode code 413 = .ok (.iadd, 1) := by decide +kernel
theorem d_law_414 : decode code 414 = .ok (.iaload, 1) := by decide +kernel
theorem d_law_415 : decode code 415 = .ok (.invokevirtual 49, 3) := by decide +kernel
theorem d_law_418 : decode code 418 = .ok (.lcmp, 1) := by decide +kernel
theorem d_law_419 : decode code 419 = .ok (.ifCond .eq 330, 3) := by decide +kernel
theorem d_law_422 : decode code 422 = .ok (.iconst 0, 1) := by decide +kernel
theorem d_law_423 : decode code 423 = .ok (.ireturn, 1) := by decide +kernel
theorem d_law_424 : decode code 424 = .ok (.aload_n 1, 1) := by decide +kernel
theorem d_law_425 : decode code 425 = .ok (.aload_n 0, 1) := by decide +kernel
theorem d_law_426 : decode code 426 = .ok (.iload_n 3, 1) := by decide +kernel
theorem d_law_427 : decode code 427 = .ok (.iconst 1, 1) := by decide +kernel
theorem d_law_428 : decode code 428 = .ok (.iadd, 1) := by decide +kernel
theorem d_law_429 : decode code 429 = .ok (.iaload, 1) := by decide +kernel
theorem d_law_430 : decode code 430 = .ok (.ifCond .eq 7, 3) := by decide +kernel
theorem d_law_433 : decode code 433 = .ok (.iconst 1, 1) := by decide +kernel
theorem d_law_434 : decode code 434 = .ok (.goto 4, 3) := by decide +kernel
theorem d_law_437 : decode code 437 = .ok (.iconst 0, 1) := by decide +kernel
theorem d_law_438 : decode code 438 = .ok (.aload_n 0, 1) := by decide +kernel
theorem d_law_439 : decode code 439 = .ok (.iload_n 3, 1) := by decide +kernel
theorem d_law_440 : decode code 440 = .ok (.iconst 2, 1) := by decide +kernel
theorem d_law_441 : decode code 441 = .ok (.iadd, 1) := by decide +kernel
theorem d_law_442 : decode code 442 = .ok (.iaload, 1) := by decide +kernel
theorem d_law_443 : decode code 443 = .ok (.aload_n 0, 1) := by decide +kernel
theorem d_law_444 : decode code 444 = .ok (.iload_n 3, 1) := by decide +kernel
theorem d_law_445 : decode code 445 = .ok (.iconst 3, 1) := by decide +kernel
theorem d_law_446 : decode code 446 = .ok (.iadd, 1) := by decide +kernel
theorem d_law_447 : decode code 447 = .ok (.iaload, 1) := by decide +kernel
theorem d_law_448 : decode code 448 = .ok (.invokevirtual 50, 3) := by decide +kernel
theorem d_law_451 : decode code 451 = .ok (.aload_n 2, 1) := by decide +kernel
theorem d_law_452 : decode code 452 = .ok (.aload_n 0, 1) := by decide +kernel
theorem d_law_453 : decode code 453 = .ok (.iload_n 3, 1) := by decide +kernel
theorem d_law_454 : decode code 454 = .ok (.iconst 1, 1) := by decide +kernel
theorem d_law_455 : decode code 455 = .ok (.iadd, 1) := by decide +kernel
theorem d_law_456 : decode code 456 = .ok (.iaload, 1) := by decide +kernel
theorem d_law_457 : decode code 457 = .ok (.ifCond .eq 7, 3) := by decide +kernel
theorem d_law_460 : decode code 460 = .ok (.iconst 1, 1) := by decide +kernel
theorem d_law_461 : decode code 461 = .ok (.goto 4, 3) := by decide +kernel
theorem d_law_464 : decode code 464 = .ok (.iconst 0, 1) := by decide +kernel
theorem d_law_465 : decode code 465 = .ok (.aload_n 0, 1) := by decide +kernel
theorem d_law_466 : decode code 466 = .ok (.iload_n 3, 1) := by decide +kernel
theorem d_law_467 : decode code 467 = .ok (.iconst 2, 1) := by decide +kernel
theorem d_law_468 : decode code 468 = .ok (.iadd, 1) := by decide +kernel
theorem d_law_469 : decode code 469 = .ok (.iaload, 1) := by decide +kernel
theorem d_law_470 : decode code 470 = .ok (.aload_n 0, 1) := by decide +kernel
theorem d_law_471 : decode code 471 = .ok (.iload_n 3, 1) := by decide +kernel
theorem d_law_472 : decode code 472 = .ok (.iconst 3, 1) := by decide +kernel
theorem d_law_473 : decode code 473 = .ok (.iadd, 1) := by decide +kernel
theorem d_law_474 : decode code 474 = .ok (.iaload, 1) := by decide +kernel
theorem d_law_475 : decode code 475 = .ok (.invokevirtual 54, 3) := by decide +kernel
theorem d_law_478 : decode code 478 = .ok (.lcmp, 1) := by decide +kernel
theorem d_law_479 : decode code 479 = .ok (.ifCond .eq 270, 3) := by decide +kernel
theorem d_law_482 : decode code 482 = .ok (.iconst 0, 1) := by decide +kernel
theorem d_law_483 : decode code 483 = .ok (.ireturn, 1) := by decide +kernel
theorem d_law_484 : decode code 484 = .ok (.aload_n 1, 1) := by decide +kernel
theorem d_law_485 : decode code 485 = .ok (.aload_n 0, 1) := by decide +kernel
theorem d_law_486 : decode code 486 = .ok (.iload_n 3, 1) := by decide +kernel
theorem d_law_487 : decode code 487 = .ok (.iconst 1, 1) := by decide +kernel
theorem d_law_488 : decode code 488 = .ok (.iadd, 1) := by decide +kernel
theorem d_law_489 : decode code 489 = .ok (.iaload, 1) := by decide +kernel
theorem d_law_490 : decode code 490 = .ok (.aload_n 0, 1) := by decide +kernel
theorem d_law_491 : decode code 491 = .ok (.iload_n 3, 1) := by decide +kernel
theorem d_law_492 : decode code 492 = .ok (.iconst 2, 1) := by decide +kernel
theorem d_law_493 : decode code 493 = .ok (.iadd, 1) := by decide +kernel
theorem d_law_494 : decode code 494 = .ok (.iaload, 1) := by decide +kernel
theorem d_law_495 : decode code 495 = .ok (.aload_n 0, 1) := by decide +kernel
theorem d_law_496 : decode code 496 = .ok (.iload_n 3, 1) := by decide +kernel
theorem d_law_497 : decode code 497 = .ok (.iconst 3, 1) := by decide +kernel
theorem d_law_498 : decode code 498 = .ok (.iadd, 1) := by decide +kernel
theorem d_law_499 : decode code 499 = .ok (.iaload, 1) := by decide +kernel
theorem d_law_500 : decode code 500 = .ok (.invokevirtual 55, 3) := by decide +kernel
theorem d_law_503 : decode code 503 = .ok (.aload_n 2, 1) := by decide +kernel
theorem d_law_504 : decode code 504 = .ok (.aload_n 0, 1) := by decide +kernel
theorem d_law_505 : decode code 505 = .ok (.iload_n 3, 1) := by decide +kernel
theorem d_law_506 : decode code 506 = .ok (.iconst 1, 1) := by decide +kernel
theorem d_law_507 : decode code 507 = .ok (.iadd, 1) := by decide +kernel
theorem d_law_508 : decode code 508 = .ok (.iaload, 1) := by decide +kernel
theorem d_law_509 : decode code 509 = .ok (.aload_n 0, 1) := by decide +kernel
theorem d_law_510 : decode code 510 = .ok (.iload_n 3, 1) := by decide +kernel
theorem d_law_511 : decode code 511 = .ok (.iconst 2, 1) := by decide +kernel
theorem d_law_512 : decode code 512 = .ok (.iadd, 1) := by decide +kernel
theorem d_law_513 : decode code 513 = .ok (.iaload, 1) := by decide +kernel
theorem d_law_514 : decode code 514 = .ok (.aload_n 0, 1) := by decide +kernel
theorem d_law_515 : decode code 515 = .ok (.iload_n 3, 1) := by decide +kernel
theorem d_law_516 : decode code 516 = .ok (.iconst 3, 1) := by decide +kernel
theorem d_law_517 : decode code 517 = .ok (.iadd, 1) := by decide +kernel
theorem d_law_518 : decode code 518 = .ok (.iaload, 1) := by decide +kernel
theorem d_law_519 : decode code 519 = .ok (.invokevirtual 58, 3) := by decide +kernel
theorem d_law_522 : decode code 522 = .ok (.lcmp, 1) := by decide +kernel
theorem d_law_523 : decode code 523 = .ok (.ifCond .eq 226, 3) := by decide +kernel
theorem d_law_526 : decode code 526 = .ok (.iconst 0, 1) := by decide +kernel
theorem d_law_527 : decode code 527 = .ok (.ireturn, 1) := by decide +kernel
theorem d_law_528 : decode code 528 = .ok (.aload_n 1, 1) := by decide +kernel
theorem d_law_529 : decode code 529 = .ok (.aload_n 0, 1) := by decide +kernel
theorem d_law_530 : decode code 530 = .ok (.iload_n 3, 1) := by decide +kernel
theorem d_law_531 : decode code 531 = .ok (.iconst 1, 1) := by decide +kernel
theorem d_law_532 : decode code 532 = .ok (.iadd, 1) := by decide +kernel
theorem d_law_533 : decode code 533 = .ok (.iaload, 1) := by decide +kernel
theorem d_law_534 : decode code 534 = .ok (.invokevirtual 59, 3) := by decide +kernel
theorem d_law_537 : decode code 537 = .ok (.aload_n 2, 1) := by decide +kernel
theorem d_law_538 : decode code 538 = .ok (.aload_n 0, 1) := by decide +kernel
theorem d_law_539 : decode code 539 = .ok (.iload_n 3, 1) := by decide +kernel
theorem d_law_540 : decode code 540 = .ok (.iconst 1, 1) := by decide +kernel
theorem d_law_541 : decode code 541 = .ok (.iadd, 1) := by decide +kernel
theorem d_law_542 : decode code 542 = .ok (.iaload, 1) := by decide +kernel
theorem d_law_543 : decode code 543 = .ok (.invokevirtual 62, 3) := by decide +kernel
theorem d_law_546 : decode code 546 = .ok (.if_icmp .eq 203, 3) := by decide +kernel
theorem d_law_549 : decode code 549 = .ok (.iconst 0, 1) := by decide +kernel
theorem d_law_550 : decode code 550 = .ok (.ireturn, 1) := by decide +kernel
theorem d_law_551 : decode code 551 = .ok (.aload_n 1, 1) := by decide +kernel
theorem d_law_552 : decode code 552 = .ok (.aload_n 0, 1) := by decide +kernel
theorem d_law_553 : decode code 553 = .ok (.iload_n 3, 1) := by decide +kernel
theorem d_law_554 : decode code 554 = .ok (.iconst 1, 1) := by decide +kernel
theorem d_law_555 : decode code 555 = .ok (.iadd, 1) := by decide +kernel
theorem d_law_556 : decode code 556 = .ok (.iaload, 1) := by decide +kernel
theorem d_law_557 : decode code 557 = .ok (.invokevirtual 63, 3) := by decide +kernel
theorem d_law_560 : decode code 560 = .ok (.aload_n 2, 1) := by decide +kernel
theorem d_law_561 : decode code 561 = .ok (.aload_n 0, 1) := by decide +kernel
theorem d_law_562 : decode code 562 = .ok (.iload_n 3, 1) := by decide +kernel
theorem d_law_563 : decode code 563 = .ok (.iconst 1, 1) := by decide +kernel
theorem d_law_564 : decode code 564 = .ok (.iadd, 1) := by decide +kernel
theorem d_law_565 : decode code 565 = .ok (.iaload, 1) := by decide +kernel
theorem d_law_566 : decode code 566 = .ok (.invokevirtual 67, 3) := by decide +kernel
theorem d_law_569 : decode code 569 = .ok (.lcmp, 1) := by decide +kernel
theorem d_law_570 : decode code 570 = .ok (.ifCond .eq 179, 3) := by decide +kernel
theorem d_law_573 : decode code 573 = .ok (.iconst 0, 1) := by decide +kernel
theorem d_law_574 : decode code 574 = .ok (.ireturn, 1) := by decide +kernel
theorem d_law_575 : decode code 575 = .ok (.aload_n 1, 1) := by decide +kernel
theorem d_law_576 : decode code 576 = .ok (.invokevirtual 68, 3) := by decide +kernel
theorem d_law_579 : decode code 579 = .ok (.aload_n 2, 1) := by decide +kernel
theorem d_law_580 : decode code 580 = .ok (.invokevirtual 72, 3) := by decide +kernel
theorem d_law_583 : decode code 583 = .ok (.if_icmp .eq 166, 3) := by decide +kernel
theorem d_law_586 : decode code 586 = .ok (.iconst 0, 1) := by decide +kernel
theorem d_law_587 : decode code 587 = .ok (.ireturn, 1) := by decide +kernel
theorem d_law_588 : decode code 588 = .ok (.aload_n 1, 1) := by decide +kernel
theorem d_law_589 : decode code 589 = .ok (.invokevirtual 73, 3) := by decide +kernel
theorem d_law_592 : decode code 592 = .ok (.aload_n 2, 1) := by decide +kernel
theorem d_law_593 : decode code 593 = .ok (.invokevirtual 76, 3) := by decide +kernel
theorem d_law_596 : decode code 596 = .ok (.if_icmp .eq 153, 3) := by decide +kernel
theorem d_law_599 : decode code 599 = .ok (.iconst 0, 1) := by decide +kernel
theorem d_law_600 : decode code 600 = .ok (.ireturn, 1) := by decide +kernel
theorem d_law_601 : decode code 601 = .ok (.aload_n 1, 1) := by decide +kernel
theorem d_law_602 : decode code 602 = .ok (.invokevirtual 77, 3) := by decide +kernel
theorem d_law_605 : decode code 605 = .ok (.aload_n 2, 1) := by decide +kernel
theorem d_law_606 : decode code 606 = .ok (.invokevirtual 80, 3) := by decide +kernel
theorem d_law_609 : decode code 609 = .ok (.if_icmp .eq 140, 3) := by decide +kernel
theorem d_law_612 : decode code 612 = .ok (.iconst 0, 1) := by decide +kernel
theorem d_law_613 : decode code 613 = .ok (.ireturn, 1) := by decide +kernel
theorem d_law_614 : decode code 614 = .ok (.aload_n 1, 1) := by decide +kernel
theorem d_law_615 : decode code 615 = .ok (.aload_n 0, 1) := by decide +kernel
theorem d_law_616 : decode code 616 = .ok (.iload_n 3, 1) := by decide +kernel
theorem d_law_617 : decode code 617 = .ok (.iconst 1, 1) := by decide +kernel
theorem d_law_618 : decode code 618 = .ok (.iadd, 1) := by decide +kernel
theorem d_law_619 : decode code 619 = .ok (.iaload, 1) := by decide +kernel
theorem d_law_620 : decode code 620 = .ok (.aload_n 0, 1) := by decide +kernel
theorem d_law_621 : decode code 621 = .ok (.iload_n 3, 1) := by decide +kernel
theorem d_law_622 : decode code 622 = .ok (.iconst 2, 1) := by decide +kernel
theorem d_law_623 : decode code 623 = .ok (.iadd, 1) := by decide +kernel
theorem d_law_624 : decode code 624 = .ok (.iaload, 1) := by decide +kernel
theorem d_law_625 : decode code 625 = .ok (.invokevirtual 81, 3) := by decide +kernel
theorem d_law_628 : decode code 628 = .ok (.aload_n 2, 1) := by decide +kernel
theorem d_law_629 : decode code 629 = .ok (.aload_n 0, 1) := by decide +kernel
theorem d_law_630 : decode code 630 = .ok (.iload_n 3, 1) := by decide +kernel
theorem d_law_631 : decode code 631 = .ok (.iconst 1, 1) := by decide +kernel
theorem d_law_632 : decode code 632 = .ok (.iadd, 1) := by decide +kernel
theorem d_law_633 : decode code 633 = .ok (.iaload, 1) := by decide +kernel
theorem d_law_634 : decode code 634 = .ok (.aload_n 0, 1) := by decide +kernel
theorem d_law_635 : decode code 635 = .ok (.iload_n 3, 1) := by decide +kernel
theorem d_law_636 : decode code 636 = .ok (.iconst 2, 1) := by decide +kernel
theorem d_law_637 : decode code 637 = .ok (.iadd, 1) := by decide +kernel
theorem d_law_638 : decode code 638 = .ok (.iaload, 1) := by decide +kernel
theorem d_law_639 : decode code 639 = .ok (.invokevirtual 85, 3) := by decide +kernel
theorem d_law_642 : decode code 642 = .ok (.lcmp, 1) := by decide +kernel
theorem d_law_643 : decode code 643 = .ok (.ifCond .eq 106, 3) := by decide +kernel
theorem d_law_646 : decode code 646 = .ok (.iconst 0, 1) := by decide +kernel
theorem d_law_647 : decode code 647 = .ok (.ireturn, 1) := by decide +kernel
theorem d_law_648 : decode code 648 = .ok (.aload_n 1, 1) := by decide +kernel
theorem d_law_649 : decode code 649 = .ok (.aload_n 0, 1) := by decide +kernel
theorem d_law_650 : decode code 650 = .ok (.iload_n 3, 1) := by decide +kernel
theorem d_law_651 : decode code 651 = .ok (.iconst 1, 1) := by decide +kernel
theorem d_law_652 : decode code 652 = .ok (.iadd, 1) := by decide +kernel
theorem d_law_653 : decode code 653 = .ok (.iaload, 1) := by decide +kernel
theorem d_law_654 : decode code 654 = .ok (.invokevirtual 86, 3) := by decide +kernel
theorem d_law_657 : decode code 657 = .ok (.aload_n 2, 1) := by decide +kernel
theorem d_law_658 : decode code 658 = .ok (.aload_n 0, 1) := by decide +kernel
theorem d_law_659 : decode code 659 = .ok (.iload_n 3, 1) := by decide +kernel
theorem d_law_660 : decode code 660 = .ok (.iconst 1, 1) := by decide +kernel
theorem d_law_661 : decode code 661 = .ok (.iadd, 1) := by decide +kernel
theorem d_law_662 : decode code 662 = .ok (.iaload, 1) := by decide +kernel
theorem d_law_663 : decode code 663 = .ok (.invokevirtual 89, 3) := by decide +kernel
theorem d_law_666 : decode code 666 = .ok (.lcmp, 1) := by decide +kernel
theorem d_law_667 : decode code 667 = .ok (.ifCond .eq 82, 3) := by decide +kernel
theorem d_law_670 : decode code 670 = .ok (.iconst 0, 1) := by decide +kernel
theorem d_law_671 : decode code 671 = .ok (.ireturn, 1) := by decide +kernel
theorem d_law_672 : decode code 672 = .ok (.aload_n 1, 1) := by decide +kernel
theorem d_law_673 : decode code 673 = .ok (.aload_n 0, 1) := by decide +kernel
theorem d_law_674 : decode code 674 = .ok (.iload_n 3, 1) := by decide +kernel
theorem d_law_675 : decode code 675 = .ok (.iconst 1, 1) := by decide +kernel
theorem d_law_676 : decode code 676 = .ok (.iadd, 1) := by decide +kernel
theorem d_law_677 : decode code 677 = .ok (.iaload, 1) := by decide +kernel
theorem d_law_678 : decode code 678 = .ok (.aload_n 0, 1) := by decide +kernel
theorem d_law_679 : decode code 679 = .ok (.iload_n 3, 1) := by decide +kernel
theorem d_law_680 : decode code 680 = .ok (.iconst 2, 1) := by decide +kernel
theorem d_law_681 : decode code 681 = .ok (.iadd, 1) := by decide +kernel
theorem d_law_682 : decode code 682 = .ok (.iaload, 1) := by decide +kernel
theorem d_law_683 : decode code 683 = .ok (.aload_n 0, 1) := by decide +kernel
theorem d_law_684 : decode code 684 = .ok (.iload_n 3, 1) := by decide +kernel
theorem d_law_685 : decode code 685 = .ok (.iconst 3, 1) := by decide +kernel
theorem d_law_686 : decode code 686 = .ok (.iadd, 1) := by decide +kernel
theorem d_law_687 : decode code 687 = .ok (.iaload, 1) := by decide +kernel
theorem d_law_688 : decode code 688 = .ok (.aload_n 0, 1) := by decide +kernel
theorem d_law_689 : decode code 689 = .ok (.iload_n 3, 1) := by decide +kernel
theorem d_law_690 : decode code 690 = .ok (.iconst 4, 1) := by decide +kernel
theorem d_law_691 : decode code 691 = .ok (.iadd, 1) := by decide +kernel
theorem d_law_692 : decode code 692 = .ok (.iaload, 1) := by decide +kernel
theorem d_law_693 : decode code 693 = .ok (.invokevirtual 90, 3) := by decide +kernel
theorem d_law_696 : decode code 696 = .ok (.aload_n 2, 1) := by decide +kernel
theorem d_law_697 : decode code 697 = .ok (.aload_n 0, 1) := by decide +kernel
theorem d_law_698 : decode code 698 = .ok (.iload_n 3, 1) := by decide +kernel
theorem d_law_699 : decode code 699 = .ok (.iconst 1, 1) := by decide +kernel
theorem d_law_700 : decode code 700 = .ok (.iadd, 1) := by decide +kernel
theorem d_law_701 : decode code 701 = .ok (.iaload, 1) := by decide +kernel
theorem d_law_702 : decode code 702 = .ok (.aload_n 0, 1) := by decide +kernel
theorem d_law_703 : decode code 703 = .ok (.iload_n 3, 1) := by decide +kernel
theorem d_law_704 : decode code 704 = .ok (.iconst 2, 1) := by decide +kernel
theorem d_law_705 : decode code 705 = .ok (.iadd, 1) := by decide +kernel
theorem d_law_706 : decode code 706 = .ok (.iaload, 1) := by decide +kernel
theorem d_law_707 : decode code 707 = .ok (.aload_n 0, 1) := by decide +kernel
theorem d_law_708 : decode code 708 = .ok (.iload_n 3, 1) := by decide +kernel
theorem d_law_709 : decode code 709 = .ok (.iconst 3, 1) := by decide +kernel
theorem d_law_710 : decode code 710 = .ok (.iadd, 1) := by decide +kernel
theorem d_law_711 : decode code 711 = .ok (.iaload, 1) := by decide +kernel
theorem d_law_712 : decode code 712 = .ok (.aload_n 0, 1) := by decide +kernel
theorem d_law_713 : decode code 713 = .ok (.iload_n 3, 1) := by decide +kernel
theorem d_law_714 : decode code 714 = .ok (.iconst 4, 1) := by decide +kernel
theorem d_law_715 : decode code 715 = .ok (.iadd, 1) := by decide +kernel
theorem d_law_716 : decode code 716 = .ok (.iaload, 1) := by decide +kernel
theorem d_law_717 : decode code 717 = .ok (.invokevirtual 93, 3) := by decide +kernel
theorem d_law_720 : decode code 720 = .ok (.lcmp, 1) := by decide +kernel
theorem d_law_721 : decode code 721 = .ok (.ifCond .eq 28, 3) := by decide +kernel
theorem d_law_724 : decode code 724 = .ok (.iconst 0, 1) := by decide +kernel
theorem d_law_725 : decode code 725 = .ok (.ireturn, 1) := by decide +kernel
theorem d_law_726 : decode code 726 = .ok (.aload_n 1, 1) := by decide +kernel
theorem d_law_727 : decode code 727 = .ok (.aload_n 0, 1) := by decide +kernel
theorem d_law_728 : decode code 728 = .ok (.iload_n 3, 1) := by decide +kernel
theorem d_law_729 : decode code 729 = .ok (.iconst 1, 1) := by decide +kernel
theorem d_law_730 : decode code 730 = .ok (.iadd, 1) := by decide +kernel
theorem d_law_731 : decode code 731 = .ok (.iaload, 1) := by decide +kernel
theorem d_law_732 : decode code 732 = .ok (.invokevirtual 94, 3) := by decide +kernel
theorem d_law_735 : decode code 735 = .ok (.aload_n 2, 1) := by decide +kernel
theorem d_law_736 : decode code 736 = .ok (.aload_n 0, 1) := by decide +kernel
theorem d_law_737 : decode code 737 = .ok (.iload_n 3, 1) := by decide +kernel
theorem d_law_738 : decode code 738 = .ok (.iconst 1, 1) := by decide +kernel
theorem d_law_739 : decode code 739 = .ok (.iadd, 1) := by decide +kernel
theorem d_law_740 : decode code 740 = .ok (.iaload, 1) := by decide +kernel
theorem d_law_741 : decode code 741 = .ok (.invokevirtual 98, 3) := by decide +kernel
theorem d_law_744 : decode code 744 = .ok (.if_icmp .eq 5, 3) := by decide +kernel
theorem d_law_747 : decode code 747 = .ok (.iconst 0, 1) := by decide +kernel
theorem d_law_748 : decode code 748 = .ok (.ireturn, 1) := by decide +kernel
theorem d_law_749 : decode code 749 = .ok (.iinc 3 5, 3) := by decide +kernel
theorem d_law_752 : decode code 752 = .ok (.goto (-714), 3) := by decide +kernel
theorem d_law_755 : decode code 755 = .ok (.iconst 1, 1) := by decide +kernel
theorem d_law_756 : decode code 756 = .ok (.ireturn, 1) := by decide +kernel
end
section
theorem d_M_init_0 : decode b_M_init 0 = .ok (.aload_n 0, 1) := by decide +kernel
theorem d_M_init_1 : decode b_M_init 1 = .ok (.invokespecial 1, 3) := by decide +kernel
theorem d_M_init_4 : decode b_M_init 4 = .ok (.aload_n 0, 1) := by decide +kernel
theorem d_M_init_5 : decode b_M_init 5 = .ok (.bipush 49, 2) := by decide +kernel
theorem d_M_init_7 : decode b_M_init 7 = .ok (.newarray .long, 2) := by decide +kernel
theorem d_M_init_9 : decode b_M_init 9 = .ok (.putfield 7, 3) := by decide +kernel
theorem d_M_init_12 : decode b_M_init 12 = .ok (.aload_n 0, 1) := by decide +kernel
theorem d_M_init_13 : decode b_M_init 13 = .ok (.bipush 8, 2) := by decide +kernel
theorem d_M_init_15 : decode b_M_init 15 = .ok (.newarray .long, 2) := by decide +kernel
theorem d_M_init_17 : decode b_M_init 17 = .ok (.putfield 13, 3) := by decide +kernel
theorem d_M_init_20 : decode b_M_init 20 = .ok (.aload_n 0, 1) := by decide +kernel
theorem d_M_init_21 : decode b_M_init 21 = .ok (.iconst 2, 1) := by decide +kernel
theorem d_M_init_22 : decode b_M_init 22 = .ok (.newarray .long, 2) := by decide +kernel
theorem d_M_init_24 : decode b_M_init 24 = .ok (.putfield 16, 3) := by decide +kernel
theorem d_M_init_27 : decode b_M_init 27 = .ok (.aload_n 0, 1) := by decide +kernel
theorem d_M_init_28 : decode b_M_init 28 = .ok (.bipush 10, 2) := by decide +kernel
theorem d_M_init_30 : decode b_M_init 30 = .ok (.newarray .boolean, 2) := by decide +kernel
theorem d_M_init_32 : decode b_M_init 32 = .ok (.putfield 19, 3) := by decide +kernel
theorem d_M_init_35 : decode b_M_init 35 = .ok (.aload_n 0, 1) := by decide +kernel
theorem d_M_init_36 : decode b_M_init 36 = .ok (.bipush 10, 2) := by decide +kernel
theorem d_M_init_38 : decode b_M_init 38 = .ok (.newarray .int, 2) := by decide +kernel
theorem d_M_init_40 : decode b_M_init 40 = .ok (.putfield 23, 3) := by decide +kernel
theorem d_M_init_43 : decode b_M_init 43 = .ok (.aload_n 0, 1) := by decide +kernel
theorem d_M_init_44 : decode b_M_init 44 = .ok (.bipush 10, 2) := by decide +kernel
theorem d_M_init_46 : decode b_M_init 46 = .ok (.newarray .int, 2) := by decide +kernel
theorem d_M_init_48 : decode b_M_init 48 = .ok (.putfield 27, 3) := by decide +kernel
theorem d_M_init_51 : decode b_M_init 51 = .ok (.aload_n 0, 1) := by decide +kernel
theorem d_M_init_52 : decode b_M_init 52 = .ok (.bipush 10, 2) := by decide +kernel
theorem d_M_init_54 : decode b_M_init 54 = .ok (.newarray .int, 2) := by decide +kernel
theorem d_M_init_56 : decode b_M_init 56 = .ok (.putfield 30, 3) := by decide +kernel
theorem d_M_init_59 : decode b_M_init 59 = .ok (.aload_n 0, 1) := by decide +kernel
theorem d_M_init_60 : decode b_M_init 60 = .ok (.bipush 10, 2) := by decide +kernel
theorem d_M_init_62 : decode b_M_init 62 = .ok (.newarray .long, 2) := by decide +kernel
theorem d_M_init_64 : decode b_M_init 64 = .ok (.putfield 33, 3) := by decide +kernel
theorem d_M_init_67 : decode b_M_init 67 = .ok (.aload_n 0, 1) := by decide +kernel
theorem d_M_init_68 : decode b_M_init 68 = .ok (.bipush 20, 2) := by decide +kernel
theorem d_M_init_70 : decode b_M_init 70 = .ok (.newarray .long, 2) := by decide +kernel
theorem d_M_init_72 : decode b_M_init 72 = .ok (.putfield 36, 3) := by decide +kernel
theorem d_M_init_75 : decode b_M_init 75 = .ok (.aload_n 0, 1) := by decide +kernel
theorem d_M_init_76 : decode b_M_init 76 = .ok (.bipush 20, 2) := by decide +kernel
theorem d_M_init_78 : decode b_M_init 78 = .ok (.newarray .long, 2) := by decide +kernel
theorem d_M_init_80 : decode b_M_init 80 = .ok (.putfield 39, 3) := by decide +kernel
theorem d_M_init_83 : decode b_M_init 83 = .ok (.aload_n 0, 1) := by decide +kernel
theorem d_M_init_84 : decode b_M_init 84 = .ok (.bipush 8, 2) := by decide +kernel
theorem d_M_init_86 : decode b_M_init 86 = .ok (.newarray .long, 2) := by decide +kernel
theorem d_M_init_88 : decode b_M_init 88 = .ok (.putfield 42, 3) := by decide +kernel
theorem d_M_init_91 : decode b_M_init 91 = .ok (.aload_n 0, 1) := by decide +kernel
theorem d_M_init_92 : decode b_M_init 92 = .ok (.bipush 8, 2) := by decide +kernel
theorem d_M_init_94 : decode b_M_init 94 = .ok (.newarray .long, 2) := by decide +kernel
theorem d_M_init_96 : decode b_M_init 96 = .ok (.putfield 45, 3) := by decide +kernel
theorem d_M_init_99 : decode b_M_init 99 = .ok (.aload_n 0, 1) := by decide +kernel
theorem d_M_init_100 : decode b_M_init 100 = .ok (.bipush 10, 2) := by decide +kernel
theorem d_M_init_102 : decode b_M_init 102 = .ok (.newarray .long, 2) := by decide +kernel
theorem d_M_init_104 : decode b_M_init 104 = .ok (.putfield 48, 3) := by decide +kernel
theorem d_M_init_107 : decode b_M_init 107 = .ok (.iload_n 1, 1) := by decide +kernel
theorem d_M_init_108 : decode b_M_init 108 = .ok (.iconst 1, 1) := by decide +kernel
theorem d_M_init_109 : decode b_M_init 109 = .ok (.if_icmp .eq 30, 3) := by decide +kernel
theorem d_M_init_112 : decode b_M_init 112 = .ok (.iload_n 1, 1) := by decide +kernel
theorem d_M_init_113 : decode b_M_init 113 = .ok (.iconst 2, 1) := by decide +kernel
theorem d_M_init_114 : decode b_M_init 114 = .ok (.if_icmp .eq 25, 3) := by decide +kernel
theorem d_M_init_117 : decode b_M_init 117 = .ok (.iload_n 1, 1) := by decide +kernel
theorem d_M_init_118 : decode b_M_init 118 = .ok (.iconst 3, 1) := by decide +kernel
theorem d_M_init_119 : decode b_M_init 119 = .ok (.if_icmp .eq 20, 3) := by decide +kernel
theorem d_M_init_122 : decode b_M_init 122 = .ok (.iload_n 1, 1) := by decide +kernel
theorem d_M_init_123 : decode b_M_init 123 = .ok (.iconst 4, 1) := by decide +kernel
theorem d_M_init_124 : decode b_M_init 124 = .ok (.if_icmp .eq 15, 3) := by decide +kernel
theorem d_M_init_127 : decode b_M_init 127 = .ok (.iload_n 1, 1) := by decide +kernel
theorem d_M_init_128 : decode b_M_init 128 = .ok (.bipush 6, 2) := by decide +kernel
theorem d_M_init_130 : decode b_M_init 130 = .ok (.if_icmp .eq 9, 3) := by decide +kernel
theorem d_M_init_133 : decode b_M_init 133 = .ok (.iload_n 1, 1) := by decide +kernel
theorem d_M_init_134 : decode b_M_init 134 = .ok (.bipush 8, 2) := by decide +kernel
theorem d_M_init_136 : decode b_M_init 136 = .ok (.if_icmp .ne 7, 3) := by decide +kernel
theorem d_M_init_139 : decode b_M_init 139 = .ok (.iconst 1, 1) := by decide +kernel
theorem d_M_init_140 : decode b_M_init 140 = .ok (.goto 4, 3) := by decide +kernel
theorem d_M_init_143 : decode b_M_init 143 = .ok (.iconst 0, 1) := by decide +kernel
theorem d_M_init_144 : decode b_M_init 144 = .ok (.istore_n 3, 1) := by decide +kernel
theorem d_M_init_145 : decode b_M_init 145 = .ok (.aload_n 0, 1) := by decide +kernel
theorem d_M_init_146 : decode b_M_init 146 = .ok (.iload_n 3, 1) := by decide +kernel
theorem d_M_init_147 : decode b_M_init 147 = .ok (.ifCond .eq 7, 3) := by decide +kernel
theorem d_M_init_150 : decode b_M_init 150 = .ok (.iload_n 1, 1) := by decide +kernel
theorem d_M_init_151 : decode b_M_init 151 = .ok (.goto 4, 3) := by decide +kernel
theorem d_M_init_154 : decode b_M_init 154 = .ok (.iconst 1, 1) := by decide +kernel
theorem d_M_init_155 : decode b_M_init 155 = .ok (.putfield 51, 3) := by decide +kernel
theorem d_M_init_158 : decode b_M_init 158 = .ok (.aload_n 0, 1) := by decide +kernel
theorem d_M_init_159 : decode b_M_init 159 = .ok (.iload_n 2, 1) := by decide +kernel
theorem d_M_init_160 : decode b_M_init 160 = .ok (.ifCond .lt 13, 3) := by decide +kernel
theorem d_M_init_163 : decode b_M_init 163 = .ok (.iload_n 2, 1) := by decide +kernel
theorem d_M_init_164 : decode b_M_init 164 = .ok (.bipush 100, 2) := by decide +kernel
theorem d_M_init_166 : decode b_M_init 166 = .ok (.if_icmp .gt 7, 3) := by decide +kernel
theorem d_M_init_169 : decode b_M_init 169 = .ok (.iload_n 2, 1) := by decide +kernel
theorem d_M_init_170 : decode b_M_init 170 = .ok (.goto 4, 3) := by decide +kernel
theorem d_M_init_173 : decode b_M_init 173 = .ok (.iconst 3, 1) := by decide +kernel
theorem d_M_init_174 : decode b_M_init 174 = .ok (.putfield 55, 3) := by decide +kernel
theorem d_M_init_177 : decode b_M_init 177 = .ok (.aload_n 0, 1) := by decide +kernel
theorem d_M_init_178 : decode b_M_init 178 = .ok (.getfield 7, 3) := by decide +kernel
theorem d_M_init_181 : decode b_M_init 181 = .ok (.bipush 24, 2) := by decide +kernel
theorem d_M_init_183 : decode b_M_init 183 = .ok (.ldc2_w 58, 3) := by decide +kernel
theorem d_M_init_186 : decode b_M_init 186 = .ok (.lastore, 1) := by decide +kernel
theorem d_M_init_187 : decode b_M_init 187 = .ok (.iconst 1, 1) := by decide +kernel
theorem d_M_init_188 : decode b_M_init 188 = .ok (.istore 4, 2) := by decide +kernel
theorem d_M_init_190 : decode b_M_init 190 = .ok (.iload 4, 2) := by decide +kernel
theorem d_M_init_192 : decode b_M_init 192 = .ok (.bipush 24, 2) := by decide +kernel
theorem d_M_init_194 : decode b_M_init 194 = .ok (.if_icmp .gt 65, 3) := by decide +kernel
theorem d_M_init_197 : decode b_M_init 197 = .ok (.aload_n 0, 1) := by decide +kernel
theorem d_M_init_198 : decode b_M_init 198 = .ok (.getfield 7, 3) := by decide +kernel
theorem d_M_init_201 : decode b_M_init 201 = .ok (.bipush 24, 2) := by decide +kernel
theorem d_M_init_203 : decode b_M_init 203 = .ok (.iload 4, 2) := by decide +kernel
theorem d_M_init_205 : decode b_M_init 205 = .ok (.iadd, 1) := by decide +kernel
theorem d_M_init_206 : decode b_M_init 206 = .ok (.aload_n 0, 1) := by decide +kernel
theorem d_M_init_207 : decode b_M_init 207 = .ok (.getfield 7, 3) := by decide +kernel
theorem d_M_init_210 : decode b_M_init 210 = .ok (.bipush 23, 2) := by decide +kernel
theorem d_M_init_212 : decode b_M_init 212 = .ok (.iload 4, 2) := by decide +kernel
theorem d_M_init_214 : decode b_M_init 214 = .ok (.iadd, 1) := by decide +kernel
theorem d_M_init_215 : decode b_M_init 215 = .ok (.laload, 1) := by decide +kernel
theorem d_M_init_216 : decode b_M_init 216 = .ok (.ldc2_w 60, 3) := by decide +kernel
theorem d_M_init_219 : decode b_M_init 219 = .ok (.lmul, 1) := by decide +kernel
theorem d_M_init_220 : decode b_M_init 220 = .ok (.ldc2_w 62, 3) := by decide +kernel
theorem d_M_init_223 : decode b_M_init 223 = .ok (.ldiv, 1) := by decide +kernel
theorem d_M_init_224 : decode b_M_init 224 = .ok (.lastore, 1) := by decide +kernel
theorem d_M_init_225 : decode b_M_init 225 = .ok (.aload_n 0, 1) := by decide +kernel
theorem d_M_init_226 : decode b_M_init 226 = .ok (.getfield 7, 3) := by decide +kernel
theorem d_M_init_229 : decode b_M_init 229 = .ok (.bipush 24, 2) := by decide +kernel
theorem d_M_init_231 : decode b_M_init 231 = .ok (.iload 4, 2) := by decide +kernel
theorem d_M_init_233 : decode b_M_init 233 = .ok (.isub, 1) := by decide +kernel
theorem d_M_init_234 : decode b_M_init 234 = .ok (.aload_n 0, 1) := by decide +kernel
theorem d_M_init_235 : decode b_M_init 235 = .ok (.getfield 7, 3) := by decide +kernel
theorem d_M_init_238 : decode b_M_init 238 = .ok (.bipush 25, 2) := by decide +kernel
theorem d_M_init_240 : decode b_M_init 240 = .ok (.iload 4, 2) := by decide +kernel
theorem d_M_init_242 : decode b_M_init 242 = .ok (.isub, 1) := by decide +kernel
theorem d_M_init_243 : decode b_M_init 243 = .ok (.laload, 1) := by decide +kernel
theorem d_M_init_244 : decode b_M_init 244 = .ok (.ldc2_w 62, 3) := by decide +kernel
theorem d_M_init_247 : decode b_M_init 247 = .ok (.lmul, 1) := by decide +kernel
theorem d_M_init_248 : decode b_M_init 248 = .ok (.ldc2_w 60, 3) := by decide +kernel
theorem d_M_init_251 : decode b_M_init 251 = .ok (.ldiv, 1) := by decide +kernel
theorem d_M_init_252 : decode b_M_init 252 = .ok (.lastore, 1) := by decide +kernel
theorem d_M_init_253 : decode b_M_init 253 = .ok (.iinc 4 1, 3) := by decide +kernel
theorem d_M_init_256 : decode b_M_init 256 = .ok (.goto (-66), 3) := by decide +kernel
theorem d_M_init_259 : decode b_M_init 259 = .ok (.return_, 1) := by decide +kernel
theorem d_M_isStep_0 : decode b_M_isStep 0 = .ok (.iload_n 0, 1) := by decide +kernel
theorem d_M_isStep_1 : decode b_M_isStep 1 = .ok (.bipush (-24), 2) := by decide +kernel
theorem d_M_isStep_3 : decode b_M_isStep 3 = .ok (.if_icmp .lt 13, 3) := by decide +kernel
theorem d_M_isStep_6 : decode b_M_isStep 6 = .ok (.iload_n 0, 1) := by decide +kernel
theorem d_M_isStep_7 : decode b_M_isStep 7 = .ok (.bipush 24, 2) := by decide +kernel
theorem d_M_isStep_9 : decode b_M_isStep 9 = .ok (.if_icmp .gt 7, 3) := by decide +kernel
theorem d_M_isStep_12 : decode b_M_isStep 12 = .ok (.iconst 1, 1) := by decide +kernel
theorem d_M_isStep_13 : decode b_M_isStep 13 = .ok (.goto 4, 3) := by decide +kernel
theorem d_M_isStep_16 : decode b_M_isStep 16 = .ok (.iconst 0, 1) := by decide +kernel
theorem d_M_isStep_17 : decode b_M_isStep 17 = .ok (.ireturn, 1) := by decide +kernel
theorem d_M_price_0 : decode b_M_price 0 = .ok (.aload_n 0, 1) := by decide +kernel
theorem d_M_price_1 : decode b_M_price 1 = .ok (.getfield 7, 3) := by decide +kernel
theorem d_M_price_4 : decode b_M_price 4 = .ok (.iload_n 1, 1) := by decide +kernel
theorem d_M_price_5 : decode b_M_price 5 = .ok (.bipush 24, 2) := by decide +kernel
theorem d_M_price_7 : decode b_M_price 7 = .ok (.iadd, 1) := by decide +kernel
theorem d_M_price_8 : decode b_M_price 8 = .ok (.laload, 1) := by decide +kernel
theorem d_M_price_9 : decode b_M_price 9 = .ok (.lreturn, 1) := by decide +kernel
theorem d_M_quotient_0 : decode b_M_quotient 0 = .ok (.iload 4, 2) := by decide +kernel
theorem d_M_quotient_2 : decode b_M_quotient 2 = .ok (.ifCond .eq 13, 3) := by decide +kernel
theorem d_M_quotient_5 : decode b_M_quotient 5 = .ok (.lload_n 0, 1) := by decide +kernel
theorem d_M_quotient_6 : decode b_M_quotient 6 = .ok (.lload_n 2, 1) := by decide +kernel
theorem d_M_quotient_7 : decode b_M_quotient 7 = .ok (.ladd, 1) := by decide +kernel
theorem d_M_quotient_8 : decode b_M_quotient 8 = .ok (.lconst 1, 1) := by decide +kernel
theorem d_M_quotient_9 : decode b_M_quotient 9 = .ok (.lsub, 1) := by decide +kernel
theorem d_M_quotient_10 : decode b_M_quotient 10 = .ok (.lload_n 2, 1) := by decide +kernel
theorem d_M_quotient_11 : decode b_M_quotient 11 = .ok (.ldiv, 1) := by decide +kernel
theorem d_M_quotient_12 : decode b_M_quotient 12 = .ok (.goto 6, 3) := by decide +kernel
theorem d_M_quotient_15 : decode b_M_quotient 15 = .ok (.lload_n 0, 1) := by decide +kernel
theorem d_M_quotient_16 : decode b_M_quotient 16 = .ok (.lload_n 2, 1) := by decide +kernel
theorem d_M_quotient_17 : decode b_M_quotient 17 = .ok (.ldiv, 1) := by decide +kernel
theorem d_M_quotient_18 : decode b_M_quotient 18 = .ok (.lreturn, 1) := by decide +kernel
theorem d_M_zero_0 : decode b_M_zero 0 = .ok (.lload 4, 2) := by decide +kernel
theorem d_M_zero_2 : decode b_M_zero 2 = .ok (.ldc2_w 58, 3) := by decide +kernel
theorem d_M_zero_5 : decode b_M_zero 5 = .ok (.lmul, 1) := by decide +kernel
theorem d_M_zero_6 : decode b_M_zero 6 = .ok (.lload_n 2, 1) := by decide +kernel
theorem d_M_zero_7 : decode b_M_zero 7 = .ok (.lload_n 0, 1) := by decide +kernel
theorem d_M_zero_8 : decode b_M_zero 8 = .ok (.lsub, 1) := by decide +kernel
theorem d_M_zero_9 : decode b_M_zero 9 = .ok (.lmul, 1) := by decide +kernel
theorem d_M_zero_10 : decode b_M_zero 10 = .ok (.lload_n 0, 1) := by decide +kernel
theorem d_M_zero_11 : decode b_M_zero 11 = .ok (.lload_n 2, 1) := by decide +kernel
theorem d_M_zero_12 : decode b_M_zero 12 = .ok (.lmul, 1) := by decide +kernel
theorem d_M_zero_13 : decode b_M_zero 13 = .ok (.iload 6, 2) := by decide +kernel
theorem d_M_zero_15 : decode b_M_zero 15 = .ok (.invokestatic 64, 3) := by decide +kernel
theorem d_M_zero_18 : decode b_M_zero 18 = .ok (.lreturn, 1) := by decide +kernel
theorem d_M_one_0 : decode b_M_one 0 = .ok (.lload 4, 2) := by decide +kernel
theorem d_M_one_2 : decode b_M_one 2 = .ok (.lload_n 2, 1) := by decide +kernel
theorem d_M_one_3 : decode b_M_one 3 = .ok (.lload_n 0, 1) := by decide +kernel
theorem d_M_one_4 : decode b_M_one 4 = .ok (.lsub, 1) := by decide +kernel
theorem d_M_one_5 : decode b_M_one 5 = .ok (.lmul, 1) := by decide +kernel
theorem d_M_one_6 : decode b_M_one 6 = .ok (.ldc2_w 58, 3) := by decide +kernel
theorem d_M_one_9 : decode b_M_one 9 = .ok (.iload 6, 2) := by decide +kernel
theorem d_M_one_11 : decode b_M_one 11 = .ok (.invokestatic 64, 3) := by decide +kernel
theorem d_M_one_14 : decode b_M_one 14 = .ok (.lreturn, 1) := by decide +kernel
theorem d_M_note_0 : decode b_M_note 0 = .ok (.aload_n 0, 1) := by decide +kernel
theorem d_M_note_1 : decode b_M_note 1 = .ok (.getfield 68, 3) := by decide +kernel
theorem d_M_note_4 : decode b_M_note 4 = .ok (.ifCond .le 23, 3) := by decide +kernel
theorem d_M_note_7 : decode b_M_note 7 = .ok (.aload_n 0, 1) := by decide +kernel
theorem d_M_note_8 : decode b_M_note 8 = .ok (.getfield 42, 3) := by decide +kernel
theorem d_M_note_11 : decode b_M_note 11 = .ok (.aload_n 0, 1) := by decide +kernel
theorem d_M_note_12 : decode b_M_note 12 = .ok (.getfield 68, 3) := by decide +kernel
theorem d_M_note_15 : decode b_M_note 15 = .ok (.iconst 1, 1) := by decide +kernel
theorem d_M_note_16 : decode b_M_note 16 = .ok (.isub, 1) := by decide +kernel
theorem d_M_note_17 : decode b_M_note 17 = .ok (.laload, 1) := by decide +kernel
theorem d_M_note_18 : decode b_M_note 18 = .ok (.aload_n 0, 1) := by decide +kernel
theorem d_M_note_19 : decode b_M_note 19 = .ok (.getfield 71, 3) := by decide +kernel
theorem d_M_note_22 : decode b_M_note 22 = .ok (.lcmp, 1) := by decide +kernel
theorem d_M_note_23 : decode b_M_note 23 = .ok (.ifCond .ne 4, 3) := by decide +kernel
theorem d_M_note_26 : decode b_M_note 26 = .ok (.return_, 1) := by decide +kernel
theorem d_M_note_27 : decode b_M_note 27 = .ok (.aload_n 0, 1) := by decide +kernel
theorem d_M_note_28 : decode b_M_note 28 = .ok (.getfield 68, 3) := by decide +kernel
theorem d_M_note_31 : decode b_M_note 31 = .ok (.bipush 8, 2) := by decide +kernel
theorem d_M_note_33 : decode b_M_note 33 = .ok (.if_icmp .ne 51, 3) := by decide +kernel
theorem d_M_note_36 : decode b_M_note 36 = .ok (.iconst 0, 1) := by decide +kernel
theorem d_M_note_37 : decode b_M_note 37 = .ok (.istore_n 1, 1) := by decide +kernel
theorem d_M_note_38 : decode b_M_note 38 = .ok (.iload_n 1, 1) := by decide +kernel
theorem d_M_note_39 : decode b_M_note 39 = .ok (.bipush 7, 2) := by decide +kernel
theorem d_M_note_41 : decode b_M_note 41 = .ok (.if_icmp .ge 37, 3) := by decide +kernel
theorem d_M_note_44 : decode b_M_note 44 = .ok (.aload_n 0, 1) := by decide +kernel
theorem d_M_note_45 : decode b_M_note 45 = .ok (.getfield 42, 3) := by decide +kernel
theorem d_M_note_48 : decode b_M_note 48 = .ok (.iload_n 1, 1) := by decide +kernel
theorem d_M_note_49 : decode b_M_note 49 = .ok (.aload_n 0, 1) := by decide +kernel
theorem d_M_note_50 : decode b_M_note 50 = .ok (.getfield 42, 3) := by decide +kernel
theorem d_M_note_53 : decode b_M_note 53 = .ok (.iload_n 1, 1) := by decide +kernel
theorem d_M_note_54 : decode b_M_note 54 = .ok (.iconst 1, 1) := by decide +kernel
theorem d_M_note_55 : decode b_M_note 55 = .ok (.iadd, 1) := by decide +kernel
theorem d_M_note_56 : decode b_M_note 56 = .ok (.laload, 1) := by decide +kernel
theorem d_M_note_57 : decode b_M_note 57 = .ok (.lastore, 1) := by decide +kernel
theorem d_M_note_58 : decode b_M_note 58 = .ok (.aload_n 0, 1) := by decide +kernel
theorem d_M_note_59 : decode b_M_note 59 = .ok (.getfield 45, 3) := by decide +kernel
theorem d_M_note_62 : decode b_M_note 62 = .ok (.iload_n 1, 1) := by decide +kernel
theorem d_M_note_63 : decode b_M_note 63 = .ok (.aload_n 0, 1) := by decide +kernel
theorem d_M_note_64 : decode b_M_note 64 = .ok (.getfield 45, 3) := by decide +kernel
theorem d_M_note_67 : decode b_M_note 67 = .ok (.iload_n 1, 1) := by decide +kernel
theorem d_M_note_68 : decode b_M_note 68 = .ok (.iconst 1, 1) := by decide +kernel
theorem d_M_note_69 : decode b_M_note 69 = .ok (.iadd, 1) := by decide +kernel
theorem d_M_note_70 : decode b_M_note 70 = .ok (.laload, 1) := by decide +kernel
theorem d_M_note_71 : decode b_M_note 71 = .ok (.lastore, 1) := by decide +kernel
theorem d_M_note_72 : decode b_M_note 72 = .ok (.iinc 1 1, 3) := by decide +kernel
theorem d_M_note_75 : decode b_M_note 75 = .ok (.goto (-37), 3) := by decide +kernel
theorem d_M_note_78 : decode b_M_note 78 = .ok (.aload_n 0, 1) := by decide +kernel
theorem d_M_note_79 : decode b_M_note 79 = .ok (.bipush 7, 2) := by decide +kernel
theorem d_M_note_81 : decode b_M_note 81 = .ok (.putfield 68, 3) := by decide +kernel
theorem d_M_note_84 : decode b_M_note 84 = .ok (.aload_n 0, 1) := by decide +kernel
theorem d_M_note_85 : decode b_M_note 85 = .ok (.getfield 42, 3) := by decide +kernel
theorem d_M_note_88 : decode b_M_note 88 = .ok (.aload_n 0, 1) := by decide +kernel
theorem d_M_note_89 : decode b_M_note 89 = .ok (.getfield 68, 3) := by decide +kernel
theorem d_M_note_92 : decode b_M_note 92 = .ok (.aload_n 0, 1) := by decide +kernel
theorem d_M_note_93 : decode b_M_note 93 = .ok (.getfield 71, 3) := by decide +kernel
theorem d_M_note_96 : decode b_M_note 96 = .ok (.lastore, 1) := by decide +kernel
theorem d_M_note_97 : decode b_M_note 97 = .ok (.aload_n 0, 1) := by decide +kernel
theorem d_M_note_98 : decode b_M_note 98 = .ok (.getfield 45, 3) := by decide +kernel
theorem d_M_note_101 : decode b_M_note 101 = .ok (.aload_n 0, 1) := by decide +kernel
theorem d_M_note_102 : decode b_M_note 102 = .ok (.getfield 68, 3) := by decide +kernel
theorem d_M_note_105 : decode b_M_note 105 = .ok (.aload_n 0, 1) := by decide +kernel
theorem d_M_note_106 : decode b_M_note 106 = .ok (.getfield 75, 3) := by decide +kernel
theorem d_M_note_109 : decode b_M_note 109 = .ok (.lastore, 1) := by decide +kernel
theorem d_M_note_110 : decode b_M_note 110 = .ok (.aload_n 0, 1) := by decide +kernel
theorem d_M_note_111 : decode b_M_note 111 = .ok (.dup, 1) := by decide +kernel
theorem d_M_note_112 : decode b_M_note 112 = .ok (.getfield 68, 3) := by decide +kernel
theorem d_M_note_115 : decode b_M_note 115 = .ok (.iconst 1, 1) := by decide +kernel
theorem d_M_note_116 : decode b_M_note 116 = .ok (.iadd, 1) := by decide +kernel
theorem d_M_note_117 : decode b_M_note 117 = .ok (.putfield 68, 3) := by decide +kernel
theorem d_M_note_120 : decode b_M_note 120 = .ok (.return_, 1) := by decide +kernel
theorem d_M_open_0 : decode b_M_open 0 = .ok (.aload_n 0, 1) := by decide +kernel
theorem d_M_open_1 : decode b_M_open 1 = .ok (.getfield 78, 3) := by decide +kernel
theorem d_M_open_4 : decode b_M_open 4 = .ok (.ifCond .ne 10, 3) := by decide +kernel
theorem d_M_open_7 : decode b_M_open 7 = .ok (.iload_n 1, 1) := by decide +kernel
theorem d_M_open_8 : decode b_M_open 8 = .ok (.invokestatic 82, 3) := by decide +kernel
theorem d_M_open_11 : decode b_M_open 11 = .ok (.ifCond .ne 5, 3) := by decide +kernel
theorem d_M_open_14 : decode b_M_open 14 = .ok (.iconst 0, 1) := by decide +kernel
theorem d_M_open_15 : decode b_M_open 15 = .ok (.ireturn, 1) := by decide +kernel
theorem d_M_open_16 : decode b_M_open 16 = .ok (.aload_n 0, 1) := by decide +kernel
theorem d_M_open_17 : decode b_M_open 17 = .ok (.iconst 1, 1) := by decide +kernel
theorem d_M_open_18 : decode b_M_open 18 = .ok (.putfield 78, 3) := by decide +kernel
theorem d_M_open_21 : decode b_M_open 21 = .ok (.aload_n 0, 1) := by decide +kernel
theorem d_M_open_22 : decode b_M_open 22 = .ok (.iload_n 1, 1) := by decide +kernel
theorem d_M_open_23 : decode b_M_open 23 = .ok (.putfield 86, 3) := by decide +kernel
theorem d_M_open_26 : decode b_M_open 26 = .ok (.aload_n 0, 1) := by decide +kernel
theorem d_M_open_27 : decode b_M_open 27 = .ok (.aload_n 0, 1) := by decide +kernel
theorem d_M_open_28 : decode b_M_open 28 = .ok (.iload_n 1, 1) := by decide +kernel
theorem d_M_open_29 : decode b_M_open 29 = .ok (.invokevirtual 89, 3) := by decide +kernel
theorem d_M_open_32 : decode b_M_open 32 = .ok (.putfield 93, 3) := by decide +kernel
theorem d_M_open_35 : decode b_M_open 35 = .ok (.aload_n 0, 1) := by decide +kernel
theorem d_M_open_36 : decode b_M_open 36 = .ok (.invokevirtual 96, 3) := by decide +kernel
theorem d_M_open_39 : decode b_M_open 39 = .ok (.iconst 1, 1) := by decide +kernel
theorem d_M_open_40 : decode b_M_open 40 = .ok (.ireturn, 1) := by decide +kernel
theorem d_M_isOwner_0 : decode b_M_isOwner 0 = .ok (.iload_n 0, 1) := by decide +kernel
theorem d_M_isOwner_1 : decode b_M_isOwner 1 = .ok (.ifCond .lt 12, 3) := by decide +kernel
theorem d_M_isOwner_4 : decode b_M_isOwner 4 = .ok (.iload_n 0, 1) := by decide +kernel
theorem d_M_isOwner_5 : decode b_M_isOwner 5 = .ok (.iconst 3, 1) := by decide +kernel
theorem d_M_isOwner_6 : decode b_M_isOwner 6 = .ok (.if_icmp .gt 7, 3) := by decide +kernel
theorem d_M_isOwner_9 : decode b_M_isOwner 9 = .ok (.iconst 1, 1) := by decide +kernel
theorem d_M_isOwner_10 : decode b_M_isOwner 10 = .ok (.goto 4, 3) := by decide +kernel
theorem d_M_isOwner_13 : decode b_M_isOwner 13 = .ok (.iconst 0, 1) := by decide +kernel
theorem d_M_isOwner_14 : decode b_M_isOwner 14 = .ok (.ireturn, 1) := by decide +kernel
theorem d_M_fund_0 : decode b_M_fund 0 = .ok (.iload_n 1, 1) := by decide +kernel
theorem d_M_fund_1 : decode b_M_fund 1 = .ok (.invokestatic 99, 3) := by decide +kernel
theorem d_M_fund_4 : decode b_M_fund 4 = .ok (.ifCond .eq 22, 3) := by decide +kernel
theorem d_M_fund_7 : decode b_M_fund 7 = .ok (.iload_n 2, 1) := by decide +kernel
theorem d_M_fund_8 : decode b_M_fund 8 = .ok (.ifCond .lt 18, 3) := by decide +kernel
theorem d_M_fund_11 : decode b_M_fund 11 = .ok (.iload_n 2, 1) := by decide +kernel
theorem d_M_fund_12 : decode b_M_fund 12 = .ok (.iconst 1, 1) := by decide +kernel
theorem d_M_fund_13 : decode b_M_fund 13 = .ok (.if_icmp .gt 13, 3) := by decide +kernel
theorem d_M_fund_16 : decode b_M_fund 16 = .ok (.iload_n 3, 1) := by decide +kernel
theorem d_M_fund_17 : decode b_M_fund 17 = .ok (.ifCond .lt 9, 3) := by decide +kernel
theorem d_M_fund_20 : decode b_M_fund 20 = .ok (.iload_n 3, 1) := by decide +kernel
theorem d_M_fund_21 : decode b_M_fund 21 = .ok (.ldc 102, 2) := by decide +kernel
theorem d_M_fund_23 : decode b_M_fund 23 = .ok (.if_icmp .le 5, 3) := by decide +kernel
theorem d_M_fund_26 : decode b_M_fund 26 = .ok (.iconst 0, 1) := by decide +kernel
theorem d_M_fund_27 : decode b_M_fund 27 = .ok (.ireturn, 1) := by decide +kernel
theorem d_M_fund_28 : decode b_M_fund 28 = .ok (.aload_n 0, 1) := by decide +kernel
theorem d_M_fund_29 : decode b_M_fund 29 = .ok (.getfield 13, 3) := by decide +kernel
theorem d_M_fund_32 : decode b_M_fund 32 = .ok (.iconst 2, 1) := by decide +kernel
theorem d_M_fund_33 : decode b_M_fund 33 = .ok (.iload_n 1, 1) := by decide +kernel
theorem d_M_fund_34 : decode b_M_fund 34 = .ok (.imul, 1) := by decide +kernel
theorem d_M_fund_35 : decode b_M_fund 35 = .ok (.iload_n 2, 1) := by decide +kernel
theorem d_M_fund_36 : decode b_M_fund 36 = .ok (.iadd, 1) := by decide +kernel
theorem d_M_fund_37 : decode b_M_fund 37 = .ok (.dup2, 1) := by decide +kernel
theorem d_M_fund_38 : decode b_M_fund 38 = .ok (.laload, 1) := by decide +kernel
theorem d_M_fund_39 : decode b_M_fund 39 = .ok (.iload_n 3, 1) := by decide +kernel
theorem d_M_fund_40 : decode b_M_fund 40 = .ok (.i2l, 1) := by decide +kernel
theorem d_M_fund_41 : decode b_M_fund 41 = .ok (.ladd, 1) := by decide +kernel
theorem d_M_fund_42 : decode b_M_fund 42 = .ok (.lastore, 1) := by decide +kernel
theorem d_M_fund_43 : decode b_M_fund 43 = .ok (.iconst 1, 1) := by decide +kernel
theorem d_M_fund_44 : decode b_M_fund 44 = .ok (.ireturn, 1) := by decide +kernel
theorem d_M_find_0 : decode b_M_find 0 = .ok (.iconst 0, 1) := by decide +kernel
theorem d_M_find_1 : decode b_M_find 1 = .ok (.istore 4, 2) := by decide +kernel
theorem d_M_find_3 : decode b_M_find 3 = .ok (.iload 4, 2) := by decide +kernel
theorem d_M_find_5 : decode b_M_find 5 = .ok (.bipush 10, 2) := by decide +kernel
theorem d_M_find_7 : decode b_M_find 7 = .ok (.if_icmp .ge 55, 3) := by decide +kernel
theorem d_M_find_10 : decode b_M_find 10 = .ok (.aload_n 0, 1) := by decide +kernel
theorem d_M_find_11 : decode b_M_find 11 = .ok (.getfield 19, 3) := by decide +kernel
theorem d_M_find_14 : decode b_M_find 14 = .ok (.iload 4, 2) := by decide +kernel
theorem d_M_find_16 : decode b_M_find 16 = .ok (.baload, 1) := by decide +kernel
theorem d_M_find_17 : decode b_M_find 17 = .ok (.ifCond .eq 39, 3) := by decide +kernel
theorem d_M_find_20 : decode b_M_find 20 = .ok (.aload_n 0, 1) := by decide +kernel
theorem d_M_find_21 : decode b_M_find 21 = .ok (.getfield 23, 3) := by decide +kernel
theorem d_M_find_24 : decode b_M_find 24 = .ok (.iload 4, 2) := by decide +kernel
theorem d_M_find_26 : decode b_M_find 26 = .ok (.iaload, 1) := by decide +kernel
theorem d_M_find_27 : decode b_M_find 27 = .ok (.iload_n 1, 1) := by decide +kernel
theorem d_M_find_28 : decode b_M_find 28 = .ok (.if_icmp .ne 28, 3) := by decide +kernel
theorem d_M_find_31 : decode b_M_find 31 = .ok (.aload_n 0, 1) := by decide +kernel
theorem d_M_find_32 : decode b_M_find 32 = .ok (.getfield 27, 3) := by decide +kernel
theorem d_M_find_35 : decode b_M_find 35 = .ok (.iload 4, 2) := by decide +kernel
theorem d_M_find_37 : decode b_M_find 37 = .ok (.iaload, 1) := by decide +kernel
theorem d_M_find_38 : decode b_M_find 38 = .ok (.iload_n 2, 1) := by decide +kernel
theorem d_M_find_39 : decode b_M_find 39 = .ok (.if_icmp .ne 17, 3) := by decide +kernel
theorem d_M_find_42 : decode b_M_find 42 = .ok (.aload_n 0, 1) := by decide +kernel
theorem d_M_find_43 : decode b_M_find 43 = .ok (.getfield 30, 3) := by decide +kernel
theorem d_M_find_46 : decode b_M_find 46 = .ok (.iload 4, 2) := by decide +kernel
theorem d_M_find_48 : decode b_M_find 48 = .ok (.iaload, 1) := by decide +kernel
theorem d_M_find_49 : decode b_M_find 49 = .ok (.iload_n 3, 1) := by decide +kernel
theorem d_M_find_50 : decode b_M_find 50 = .ok (.if_icmp .ne 6, 3) := by decide +kernel
theorem d_M_find_53 : decode b_M_find 53 = .ok (.iload 4, 2) := by decide +kernel
theorem d_M_find_55 : decode b_M_find 55 = .ok (.ireturn, 1) := by decide +kernel
theorem d_M_find_56 : decode b_M_find 56 = .ok (.iinc 4 1, 3) := by decide +kernel
theorem d_M_find_59 : decode b_M_find 59 = .ok (.goto (-56), 3) := by decide +kernel
theorem d_M_find_62 : decode b_M_find 62 = .ok (.iconst (-1), 1) := by decide +kernel
theorem d_M_find_63 : decode b_M_find 63 = .ok (.ireturn, 1) := by decide +kernel
theorem d_M_depthAt_0 : decode b_M_depthAt 0 = .ok (.lconst 0, 1) := by decide +kernel
theorem d_M_depthAt_1 : decode b_M_depthAt 1 = .ok (.lstore_n 2, 1) := by decide +kernel
theorem d_M_depthAt_2 : decode b_M_depthAt 2 = .ok (.iconst 0, 1) := by decide +kernel
theorem d_M_depthAt_3 : decode b_M_depthAt 3 = .ok (.istore 4, 2) := by decide +kernel
theorem d_M_depthAt_5 : decode b_M_depthAt 5 = .ok (.iload 4, 2) := by decide +kernel
theorem d_M_depthAt_7 : decode b_M_depthAt 7 = .ok (.bipush 10, 2) := by decide +kernel
theorem d_M_depthAt_9 : decode b_M_depthAt 9 = .ok (.if_icmp .ge 55, 3) := by decide +kernel
theorem d_M_depthAt_12 : decode b_M_depthAt 12 = .ok (.lload_n 2, 1) := by decide +kernel
theorem d_M_depthAt_13 : decode b_M_depthAt 13 = .ok (.aload_n 0, 1) := by decide +kernel
theorem d_M_depthAt_14 : decode b_M_depthAt 14 = .ok (.getfield 19, 3) := by decide +kernel
theorem d_M_depthAt_17 : decode b_M_depthAt 17 = .ok (.iload 4, 2) := by decide +kernel
theorem d_M_depthAt_19 : decode b_M_depthAt 19 = .ok (.baload, 1) := by decide +kernel
theorem d_M_depthAt_20 : decode b_M_depthAt 20 = .ok (.ifCond .eq 35, 3) := by decide +kernel
theorem d_M_depthAt_23 : decode b_M_depthAt 23 = .ok (.aload_n 0, 1) := by decide +kernel
theorem d_M_depthAt_24 : decode b_M_depthAt 24 = .ok (.getfield 27, 3) := by decide +kernel
theorem d_M_depthAt_27 : decode b_M_depthAt 27 = .ok (.iload 4, 2) := by decide +kernel
theorem d_M_depthAt_29 : decode b_M_depthAt 29 = .ok (.iaload, 1) := by decide +kernel
theorem d_M_depthAt_30 : decode b_M_depthAt 30 = .ok (.iload_n 1, 1) := by decide +kernel
theorem d_M_depthAt_31 : decode b_M_depthAt 31 = .ok (.if_icmp .gt 24, 3) := by decide +kernel
theorem d_M_depthAt_34 : decode b_M_depthAt 34 = .ok (.iload_n 1, 1) := by decide +kernel
theorem d_M_depthAt_35 : decode b_M_depthAt 35 = .ok (.aload_n 0, 1) := by decide +kernel
theorem d_M_depthAt_36 : decode b_M_depthAt 36 = .ok (.getfield 30, 3) := by decide +kernel
theorem d_M_depthAt_39 : decode b_M_depthAt 39 = .ok (.iload 4, 2) := by decide +kernel
theorem d_M_depthAt_41 : decode b_M_depthAt 41 = .ok (.iaload, 1) := by decide +kernel
theorem d_M_depthAt_42 : decode b_M_depthAt 42 = .ok (.if_icmp .ge 13, 3) := by decide +kernel
theorem d_M_depthAt_45 : decode b_M_depthAt 45 = .ok (.aload_n 0, 1) := by decide +kernel
theorem d_M_depthAt_46 : decode b_M_depthAt 46 = .ok (.getfield 33, 3) := by decide +kernel
theorem d_M_depthAt_49 : decode b_M_depthAt 49 = .ok (.iload 4, 2) := by decide +kernel
theorem d_M_depthAt_51 : decode b_M_depthAt 51 = .ok (.laload, 1) := by decide +kernel
theorem d_M_depthAt_52 : decode b_M_depthAt 52 = .ok (.goto 4, 3) := by decide +kernel
theorem d_M_depthAt_55 : decode b_M_depthAt 55 = .ok (.lconst 0, 1) := by decide +kernel
theorem d_M_depthAt_56 : decode b_M_depthAt 56 = .ok (.ladd, 1) := by decide +kernel
theorem d_M_depthAt_57 : decode b_M_depthAt 57 = .ok (.lstore_n 2, 1) := by decide +kernel
theorem d_M_depthAt_58 : decode b_M_depthAt 58 = .ok (.iinc 4 1, 3) := by decide +kernel
theorem d_M_depthAt_61 : decode b_M_depthAt 61 = .ok (.goto (-56), 3) := by decide +kernel
theorem d_M_depthAt_64 : decode b_M_depthAt 64 = .ok (.lload_n 2, 1) := by decide +kernel
theorem d_M_depthAt_65 : decode b_M_depthAt 65 = .ok (.lreturn, 1) := by decide +kernel
theorem d_M_settle_0 : decode b_M_settle 0 = .ok (.iconst 0, 1) := by decide +kernel
theorem d_M_settle_1 : decode b_M_settle 1 = .ok (.istore_n 2, 1) := by decide +kernel
theorem d_M_settle_2 : decode b_M_settle 2 = .ok (.iload_n 2, 1) := by decide +kernel
theorem d_M_settle_3 : decode b_M_settle 3 = .ok (.iconst 2, 1) := by decide +kernel
theorem d_M_settle_4 : decode b_M_settle 4 = .ok (.if_icmp .ge 54, 3) := by decide +kernel
theorem d_M_settle_7 : decode b_M_settle 7 = .ok (.aload_n 0, 1) := by decide +kernel
theorem d_M_settle_8 : decode b_M_settle 8 = .ok (.getfield 36, 3) := by decide +kernel
theorem d_M_settle_11 : decode b_M_settle 11 = .ok (.iconst 2, 1) := by decide +kernel
theorem d_M_settle_12 : decode b_M_settle 12 = .ok (.iload_n 1, 1) := by decide +kernel
theorem d_M_settle_13 : decode b_M_settle 13 = .ok (.imul, 1) := by decide +kernel
theorem d_M_settle_14 : decode b_M_settle 14 = .ok (.iload_n 2, 1) := by decide +kernel
theorem d_M_settle_15 : decode b_M_settle 15 = .ok (.iadd, 1) := by decide +kernel
theorem d_M_settle_16 : decode b_M_settle 16 = .ok (.dup2, 1) := by decide +kernel
theorem d_M_settle_17 : decode b_M_settle 17 = .ok (.laload, 1) := by decide +kernel
theorem d_M_settle_18 : decode b_M_settle 18 = .ok (.aload_n 0, 1) := by decide +kernel
theorem d_M_settle_19 : decode b_M_settle 19 = .ok (.getfield 39, 3) := by decide +kernel
theorem d_M_settle_22 : decode b_M_settle 22 = .ok (.iconst 2, 1) := by decide +kernel
theorem d_M_settle_23 : decode b_M_settle 23 = .ok (.iload_n 1, 1) := by decide +kernel
theorem d_M_settle_24 : decode b_M_settle 24 = .ok (.imul, 1) := by decide +kernel
theorem d_M_settle_25 : decode b_M_settle 25 = .ok (.iload_n 2, 1) := by decide +kernel
theorem d_M_settle_26 : decode b_M_settle 26 = .ok (.iadd, 1) := by decide +kernel
theorem d_M_settle_27 : decode b_M_settle 27 = .ok (.laload, 1) := by decide +kernel
theorem d_M_settle_28 : decode b_M_settle 28 = .ok (.aload_n 0, 1) := by decide +kernel
theorem d_M_settle_29 : decode b_M_settle 29 = .ok (.getfield 33, 3) := by decide +kernel
theorem d_M_settle_32 : decode b_M_settle 32 = .ok (.iload_n 1, 1) := by decide +kernel
theorem d_M_settle_33 : decode b_M_settle 33 = .ok (.laload, 1) := by decide +kernel
theorem d_M_settle_34 : decode b_M_settle 34 = .ok (.lmul, 1) := by decide +kernel
theorem d_M_settle_35 : decode b_M_settle 35 = .ok (.ldc2_w 103, 3) := by decide +kernel
theorem d_M_settle_38 : decode b_M_settle 38 = .ok (.ldiv, 1) := by decide +kernel
theorem d_M_settle_39 : decode b_M_settle 39 = .ok (.ladd, 1) := by decide +kernel
theorem d_M_settle_40 : decode b_M_settle 40 = .ok (.lastore, 1) := by decide +kernel
theorem d_M_settle_41 : decode b_M_settle 41 = .ok (.aload_n 0, 1) := by decide +kernel
theorem d_M_settle_42 : decode b_M_settle 42 = .ok (.getfield 39, 3) := by decide +kernel
theorem d_M_settle_45 : decode b_M_settle 45 = .ok (.iconst 2, 1) := by decide +kernel
theorem d_M_settle_46 : decode b_M_settle 46 = .ok (.iload_n 1, 1) := by decide +kernel
theorem d_M_settle_47 : decode b_M_settle 47 = .ok (.imul, 1) := by decide +kernel
theorem d_M_settle_48 : decode b_M_settle 48 = .ok (.iload_n 2, 1) := by decide +kernel
theorem d_M_settle_49 : decode b_M_settle 49 = .ok (.iadd, 1) := by decide +kernel
theorem d_M_settle_50 : decode b_M_settle 50 = .ok (.lconst 0, 1) := by decide +kernel
theorem d_M_settle_51 : decode b_M_settle 51 = .ok (.lastore, 1) := by decide +kernel
theorem d_M_settle_52 : decode b_M_settle 52 = .ok (.iinc 2 1, 3) := by decide +kernel
theorem d_M_settle_55 : decode b_M_settle 55 = .ok (.goto (-53), 3) := by decide +kernel
theorem d_M_settle_58 : decode b_M_settle 58 = .ok (.return_, 1) := by decide +kernel
theorem d_M_sweep_0 : decode b_M_sweep 0 = .ok (.aload_n 0, 1) := by decide +kernel
theorem d_M_sweep_1 : decode b_M_sweep 1 = .ok (.getfield 19, 3) := by decide +kernel
theorem d_M_sweep_4 : decode b_M_sweep 4 = .ok (.iload_n 1, 1) := by decide +kernel
theorem d_M_sweep_5 : decode b_M_sweep 5 = .ok (.aload_n 0, 1) := by decide +kernel
theorem d_M_sweep_6 : decode b_M_sweep 6 = .ok (.getfield 33, 3) := by decide +kernel
theorem d_M_sweep_9 : decode b_M_sweep 9 = .ok (.iload_n 1, 1) := by decide +kernel
theorem d_M_sweep_10 : decode b_M_sweep 10 = .ok (.laload, 1) := by decide +kernel
theorem d_M_sweep_11 : decode b_M_sweep 11 = .ok (.lconst 0, 1) := by decide +kernel
theorem d_M_sweep_12 : decode b_M_sweep 12 = .ok (.lcmp, 1) := by decide +kernel
theorem d_M_sweep_13 : decode b_M_sweep 13 = .ok (.ifCond .gt 31, 3) := by decide +kernel
theorem d_M_sweep_16 : decode b_M_sweep 16 = .ok (.aload_n 0, 1) := by decide +kernel
theorem d_M_sweep_17 : decode b_M_sweep 17 = .ok (.getfield 36, 3) := by decide +kernel
theorem d_M_sweep_20 : decode b_M_sweep 20 = .ok (.iconst 2, 1) := by decide +kernel
theorem d_M_sweep_21 : decode b_M_sweep 21 = .ok (.iload_n 1, 1) := by decide +kernel
theorem d_M_sweep_22 : decode b_M_sweep 22 = .ok (.imul, 1) := by decide +kernel
theorem d_M_sweep_23 : decode b_M_sweep 23 = .ok (.laload, 1) := by decide +kernel
theorem d_M_sweep_24 : decode b_M_sweep 24 = .ok (.lconst 0, 1) := by decide +kernel
theorem d_M_sweep_25 : decode b_M_sweep 25 = .ok (.lcmp, 1) := by decide +kernel
theorem d_M_sweep_26 : decode b_M_sweep 26 = .ok (.ifCond .gt 18, 3) := by decide +kernel
theorem d_M_sweep_29 : decode b_M_sweep 29 = .ok (.aload_n 0, 1) := by decide +kernel
theorem d_M_sweep_30 : decode b_M_sweep 30 = .ok (.getfield 36, 3) := by decide +kernel
theorem d_M_sweep_33 : decode b_M_sweep 33 = .ok (.iconst 2, 1) := by decide +kernel
theorem d_M_sweep_34 : decode b_M_sweep 34 = .ok (.iload_n 1, 1) := by decide +kernel
theorem d_M_sweep_35 : decode b_M_sweep 35 = .ok (.imul, 1) := by decide +kernel
theorem d_M_sweep_36 : decode b_M_sweep 36 = .ok (.iconst 1, 1) := by decide +kernel
theorem d_M_sweep_37 : decode b_M_sweep 37 = .ok (.iadd, 1) := by decide +kernel
theorem d_M_sweep_38 : decode b_M_sweep 38 = .ok (.laload, 1) := by decide +kernel
theorem d_M_sweep_39 : decode b_M_sweep 39 = .ok (.lconst 0, 1) := by decide +kernel
theorem d_M_sweep_40 : decode b_M_sweep 40 = .ok (.lcmp, 1) := by decide +kernel
theorem d_M_sweep_41 : decode b_M_sweep 41 = .ok (.ifCond .le 7, 3) := by decide +kernel
theorem d_M_sweep_44 : decode b_M_sweep 44 = .ok (.iconst 1, 1) := by decide +kernel
theorem d_M_sweep_45 : decode b_M_sweep 45 = .ok (.goto 4, 3) := by decide +kernel
theorem d_M_sweep_48 : decode b_M_sweep 48 = .ok (.iconst 0, 1) := by decide +kernel
theorem d_M_sweep_49 : decode b_M_sweep 49 = .ok (.bastore, 1) := by decide +kernel
theorem d_M_sweep_50 : decode b_M_sweep 50 = .ok (.return_, 1) := by decide +kernel
theorem d_M_worthZero_0 : decode b_M_worthZero 0 = .ok (.aload_n 0, 1) := by decide +kernel
theorem d_M_worthZero_1 : decode b_M_worthZero 1 = .ok (.getfield 86, 3) := by decide +kernel
theorem d_M_worthZero_4 : decode b_M_worthZero 4 = .ok (.iload_n 1, 1) := by decide +kernel
theorem d_M_worthZero_5 : decode b_M_worthZero 5 = .ok (.if_icmp .ge 22, 3) := by decide +kernel
theorem d_M_worthZero_8 : decode b_M_worthZero 8 = .ok (.aload_n 0, 1) := by decide +kernel
theorem d_M_worthZero_9 : decode b_M_worthZero 9 = .ok (.iload_n 1, 1) := by decide +kernel
theorem d_M_worthZero_10 : decode b_M_worthZero 10 = .ok (.invokevirtual 89, 3) := by decide +kernel
theorem d_M_worthZero_13 : decode b_M_worthZero 13 = .ok (.aload_n 0, 1) := by decide +kernel
theorem d_M_worthZero_14 : decode b_M_worthZero 14 = .ok (.iload_n 2, 1) := by decide +kernel
theorem d_M_worthZero_15 : decode b_M_worthZero 15 = .ok (.invokevirtual 89, 3) := by decide +kernel
theorem d_M_worthZero_18 : decode b_M_worthZero 18 = .ok (.lload_n 3, 1) := by decide +kernel
theorem d_M_worthZero_19 : decode b_M_worthZero 19 = .ok (.iload 5, 2) := by decide +kernel
theorem d_M_worthZero_21 : decode b_M_worthZero 21 = .ok (.invokestatic 105, 3) := by decide +kernel
theorem d_M_worthZero_24 : decode b_M_worthZero 24 = .ok (.goto 30, 3) := by decide +kernel
theorem d_M_worthZero_27 : decode b_M_worthZero 27 = .ok (.aload_n 0, 1) := by decide +kernel
theorem d_M_worthZero_28 : decode b_M_worthZero 28 = .ok (.getfield 86, 3) := by decide +kernel
theorem d_M_worthZero_31 : decode b_M_worthZero 31 = .ok (.iload_n 2, 1) := by decide +kernel
theorem d_M_worthZero_32 : decode b_M_worthZero 32 = .ok (.if_icmp .lt 7, 3) := by decide +kernel
theorem d_M_worthZero_35 : decode b_M_worthZero 35 = .ok (.lconst 0, 1) := by decide +kernel
theorem d_M_worthZero_36 : decode b_M_worthZero 36 = .ok (.goto 18, 3) := by decide +kernel
theorem d_M_worthZero_39 : decode b_M_worthZero 39 = .ok (.aload_n 0, 1) := by decide +kernel
theorem d_M_worthZero_40 : decode b_M_worthZero 40 = .ok (.getfield 93, 3) := by decide +kernel
theorem d_M_worthZero_43 : decode b_M_worthZero 43 = .ok (.aload_n 0, 1) := by decide +kernel
theorem d_M_worthZero_44 : decode b_M_worthZero 44 = .ok (.iload_n 2, 1) := by decide +kernel
theorem d_M_worthZero_45 : decode b_M_worthZero 45 = .ok (.invokevirtual 89, 3) := by decide +kernel
theorem d_M_worthZero_48 : decode b_M_worthZero 48 = .ok (.lload_n 3, 1) := by decide +kernel
theorem d_M_worthZero_49 : decode b_M_worthZero 49 = .ok (.iload 5, 2) := by decide +kernel
theorem d_M_worthZero_51 : decode b_M_worthZero 51 = .ok (.invokestatic 105, 3) := by decide +kernel
theorem d_M_worthZero_54 : decode b_M_worthZero 54 = .ok (.lreturn, 1) := by decide +kernel
theorem d_M_worthOne_0 : decode b_M_worthOne 0 = .ok (.aload_n 0, 1) := by decide +kernel
theorem d_M_worthOne_1 : decode b_M_worthOne 1 = .ok (.getfield 86, 3) := by decide +kernel
theorem d_M_worthOne_4 : decode b_M_worthOne 4 = .ok (.iload_n 1, 1) := by decide +kernel
theorem d_M_worthOne_5 : decode b_M_worthOne 5 = .ok (.if_icmp .ge 7, 3) := by decide +kernel
theorem d_M_worthOne_8 : decode b_M_worthOne 8 = .ok (.lconst 0, 1) := by decide +kernel
theorem d_M_worthOne_9 : decode b_M_worthOne 9 = .ok (.goto 45, 3) := by decide +kernel
theorem d_M_worthOne_12 : decode b_M_worthOne 12 = .ok (.aload_n 0, 1) := by decide +kernel
theorem d_M_worthOne_13 : decode b_M_worthOne 13 = .ok (.getfield 86, 3) := by decide +kernel
theorem d_M_worthOne_16 : decode b_M_worthOne 16 = .ok (.iload_n 2, 1) := by decide +kernel
theorem d_M_worthOne_17 : decode b_M_worthOne 17 = .ok (.if_icmp .lt 22, 3) := by decide +kernel
theorem d_M_worthOne_20 : decode b_M_worthOne 20 = .ok (.aload_n 0, 1) := by decide +kernel
theorem d_M_worthOne_21 : decode b_M_worthOne 21 = .ok (.iload_n 1, 1) := by decide +kernel
theorem d_M_worthOne_22 : decode b_M_worthOne 22 = .ok (.invokevirtual 89, 3) := by decide +kernel
theorem d_M_worthOne_25 : decode b_M_worthOne 25 = .ok (.aload_n 0, 1) := by decide +kernel
theorem d_M_worthOne_26 : decode b_M_worthOne 26 = .ok (.iload_n 2, 1) := by decide +kernel
theorem d_M_worthOne_27 : decode b_M_worthOne 27 = .ok (.invokevirtual 89, 3) := by decide +kernel
theorem d_M_worthOne_30 : decode b_M_worthOne 30 = .ok (.lload_n 3, 1) := by decide +kernel
theorem d_M_worthOne_31 : decode b_M_worthOne 31 = .ok (.iload 5, 2) := by decide +kernel
theorem d_M_worthOne_33 : decode b_M_worthOne 33 = .ok (.invokestatic 109, 3) := by decide +kernel
theorem d_M_worthOne_36 : decode b_M_worthOne 36 = .ok (.goto 18, 3) := by decide +kernel
theorem d_M_worthOne_39 : decode b_M_worthOne 39 = .ok (.aload_n 0, 1) := by decide +kernel
theorem d_M_worthOne_40 : decode b_M_worthOne 40 = .ok (.iload_n 1, 1) := by decide +kernel
theorem d_M_worthOne_41 : decode b_M_worthOne 41 = .ok (.invokevirtual 89, 3) := by decide +kernel
theorem d_M_worthOne_44 : decode b_M_worthOne 44 = .ok (.aload_n 0, 1) := by decide +kernel
theorem d_M_worthOne_45 : decode b_M_worthOne 45 = .ok (.getfield 93, 3) := by decide +kernel
theorem d_M_worthOne_48 : decode b_M_worthOne 48 = .ok (.lload_n 3, 1) := by decide +kernel
theorem d_M_worthOne_49 : decode b_M_worthOne 49 = .ok (.iload 5, 2) := by decide +kernel
theorem d_M_worthOne_51 : decode b_M_worthOne 51 = .ok (.invokestatic 109, 3) := by decide +kernel
theorem d_M_worthOne_54 : decode b_M_worthOne 54 = .ok (.lreturn, 1) := by decide +kernel
theorem d_M_isRange_0 : decode b_M_isRange 0 = .ok (.iload_n 1, 1) := by decide +kernel
theorem d_M_isRange_1 : decode b_M_isRange 1 = .ok (.invokestatic 82, 3) := by decide +kernel
theorem d_M_isRange_4 : decode b_M_isRange 4 = .ok (.ifCond .eq 37, 3) := by decide +kernel
theorem d_M_isRange_7 : decode b_M_isRange 7 = .ok (.iload_n 2, 1) := by decide +kernel
theorem d_M_isRange_8 : decode b_M_isRange 8 = .ok (.invokestatic 82, 3) := by decide +kernel
theorem d_M_isRange_11 : decode b_M_isRange 11 = .ok (.ifCond .eq 30, 3) := by decide +kernel
theorem d_M_isRange_14 : decode b_M_isRange 14 = .ok (.iload_n 1, 1) := by decide +kernel
theorem d_M_isRange_15 : decode b_M_isRange 15 = .ok (.iload_n 2, 1) := by decide +kernel
theorem d_M_isRange_16 : decode b_M_isRange 16 = .ok (.if_icmp .ge 25, 3) := by decide +kernel
theorem d_M_isRange_19 : decode b_M_isRange 19 = .ok (.iload_n 1, 1) := by decide +kernel
theorem d_M_isRange_20 : decode b_M_isRange 20 = .ok (.aload_n 0, 1) := by decide +kernel
theorem d_M_isRange_21 : decode b_M_isRange 21 = .ok (.getfield 51, 3) := by decide +kernel
theorem d_M_isRange_24 : decode b_M_isRange 24 = .ok (.irem, 1) := by decide +kernel
theorem d_M_isRange_25 : decode b_M_isRange 25 = .ok (.ifCond .ne 16, 3) := by decide +kernel
theorem d_M_isRange_28 : decode b_M_isRange 28 = .ok (.iload_n 2, 1) := by decide +kernel
theorem d_M_isRange_29 : decode b_M_isRange 29 = .ok (.aload_n 0, 1) := by decide +kernel
theorem d_M_isRange_30 : decode b_M_isRange 30 = .ok (.getfield 51, 3) := by decide +kernel
theorem d_M_isRange_33 : decode b_M_isRange 33 = .ok (.irem, 1) := by decide +kernel
theorem d_M_isRange_34 : decode b_M_isRange 34 = .ok (.ifCond .ne 7, 3) := by decide +kernel
theorem d_M_isRange_37 : decode b_M_isRange 37 = .ok (.iconst 1, 1) := by decide +kernel
theorem d_M_isRange_38 : decode b_M_isRange 38 = .ok (.goto 4, 3) := by decide +kernel
theorem d_M_isRange_41 : decode b_M_isRange 41 = .ok (.iconst 0, 1) := by decide +kernel
theorem d_M_isRange_42 : decode b_M_isRange 42 = .ok (.ireturn, 1) := by decide +kernel
theorem d_M_mint_0 : decode b_M_mint 0 = .ok (.aload_n 0, 1) := by decide +kernel
theorem d_M_mint_1 : decode b_M_mint 1 = .ok (.getfield 78, 3) := by decide +kernel
theorem d_M_mint_4 : decode b_M_mint 4 = .ok (.ifCond .ne 7, 3) := by decide +kernel
theorem d_M_mint_7 : decode b_M_mint 7 = .ok (.ldc2_w 112, 3) := by decide +kernel
theorem d_M_mint_10 : decode b_M_mint 10 = .ok (.lreturn, 1) := by decide +kernel
theorem d_M_mint_11 : decode b_M_mint 11 = .ok (.iload_n 1, 1) := by decide +kernel
theorem d_M_mint_12 : decode b_M_mint 12 = .ok (.invokestatic 99, 3) := by decide +kernel
theorem d_M_mint_15 : decode b_M_mint 15 = .ok (.ifCond .eq 25, 3) := by decide +kernel
theorem d_M_mint_18 : decode b_M_mint 18 = .ok (.aload_n 0, 1) := by decide +kernel
theorem d_M_mint_19 : decode b_M_mint 19 = .ok (.iload_n 2, 1) := by decide +kernel
theorem d_M_mint_20 : decode b_M_mint 20 = .ok (.iload_n 3, 1) := by decide +kernel
theorem d_M_mint_21 : decode b_M_mint 21 = .ok (.invokevirtual 114, 3) := by decide +kernel
theorem d_M_mint_24 : decode b_M_mint 24 = .ok (.ifCond .eq 16, 3) := by decide +kernel
theorem d_M_mint_27 : decode b_M_mint 27 = .ok (.iload 4, 2) := by decide +kernel
theorem d_M_mint_29 : decode b_M_mint 29 = .ok (.iconst 1, 1) := by decide +kernel
theorem d_M_mint_30 : decode b_M_mint 30 = .ok (.if_icmp .lt 10, 3) := by decide +kernel
theorem d_M_mint_33 : decode b_M_mint 33 = .ok (.iload 4, 2) := by decide +kernel
theorem d_M_mint_35 : decode b_M_mint 35 = .ok (.ldc 118, 2) := by decide +kernel
theorem d_M_mint_37 : decode b_M_mint 37 = .ok (.if_icmp .le 7, 3) := by decide +kernel
theorem d_M_mint_40 : decode b_M_mint 40 = .ok (.ldc2_w 119, 3) := by decide +kernel
theorem d_M_mint_43 : decode b_M_mint 43 = .ok (.lreturn, 1) := by decide +kernel
theorem d_M_mint_44 : decode b_M_mint 44 = .ok (.aload_n 0, 1) := by decide +kernel
theorem d_M_mint_45 : decode b_M_mint 45 = .ok (.iload_n 1, 1) := by decide +kernel
theorem d_M_mint_46 : decode b_M_mint 46 = .ok (.iload_n 2, 1) := by decide +kernel
theorem d_M_mint_47 : decode b_M_mint 47 = .ok (.iload_n 3, 1) := by decide +kernel
theorem d_M_mint_48 : decode b_M_mint 48 = .ok (.invokevirtual 121, 3) := by decide +kernel
theorem d_M_mint_51 : decode b_M_mint 51 = .ok (.istore 5, 2) := by decide +kernel
theorem d_M_mint_53 : decode b_M_mint 53 = .ok (.iconst (-1), 1) := by decide +kernel
theorem d_M_mint_54 : decode b_M_mint 54 = .ok (.istore 6, 2) := by decide +kernel
theorem d_M_mint_56 : decode b_M_mint 56 = .ok (.iload 4, 2) := by decide +kernel
theorem d_M_mint_58 : decode b_M_mint 58 = .ok (.i2l, 1) := by decide +kernel
theorem d_M_mint_59 : decode b_M_mint 59 = .ok (.lstore 7, 2) := by decide +kernel
theorem d_M_mint_61 : decode b_M_mint 61 = .ok (.bipush 9, 2) := by decide +kernel
theorem d_M_mint_63 : decode b_M_mint 63 = .ok (.istore 9, 2) := by decide +kernel
theorem d_M_mint_65 : decode b_M_mint 65 = .ok (.iload 9, 2) := by decide +kernel
theorem d_M_mint_67 : decode b_M_mint 67 = .ok (.ifCond .lt 54, 3) := by decide +kernel
theorem d_M_mint_70 : decode b_M_mint 70 = .ok (.aload_n 0, 1) := by decide +kernel
theorem d_M_mint_71 : decode b_M_mint 71 = .ok (.getfield 19, 3) := by decide +kernel
theorem d_M_mint_74 : decode b_M_mint 74 = .ok (.iload 9, 2) := by decide +kernel
theorem d_M_mint_76 : decode b_M_mint 76 = .ok (.baload, 1) := by decide +kernel
theorem d_M_mint_77 : decode b_M_mint 77 = .ok (.ifCond .eq 8, 3) := by decide +kernel
theorem d_M_mint_80 : decode b_M_mint 80 = .ok (.iload 6, 2) := by decide +kernel
theorem d_M_mint_82 : decode b_M_mint 82 = .ok (.goto 5, 3) := by decide +kernel
theorem d_M_mint_85 : decode b_M_mint 85 = .ok (.iload 9, 2) := by decide +kernel
theorem d_M_mint_87 : decode b_M_mint 87 = .ok (.istore 6, 2) := by decide +kernel
theorem d_M_mint_89 : decode b_M_mint 89 = .ok (.lload 7, 2) := by decide +kernel
theorem d_M_mint_91 : decode b_M_mint 91 = .ok (.aload_n 0, 1) := by decide +kernel
theorem d_M_mint_92 : decode b_M_mint 92 = .ok (.getfield 19, 3) := by decide +kernel
theorem d_M_mint_95 : decode b_M_mint 95 = .ok (.iload 9, 2) := by decide +kernel
theorem d_M_mint_97 : decode b_M_mint 97 = .ok (.baload, 1) := by decide +kernel
theorem d_M_mint_98 : decode b_M_mint 98 = .ok (.ifCond .eq 13, 3) := by decide +kernel
theorem d_M_mint_101 : decode b_M_mint 101 = .ok (.aload_n 0, 1) := by decide +kernel
theorem d_M_mint_102 : decode b_M_mint 102 = .ok (.getfield 33, 3) := by decide +kernel
theorem d_M_mint_105 : decode b_M_mint 105 = .ok (.iload 9, 2) := by decide +kernel
theorem d_M_mint_107 : decode b_M_mint 107 = .ok (.laload, 1) := by decide +kernel
theorem d_M_mint_108 : decode b_M_mint 108 = .ok (.goto 4, 3) := by decide +kernel
theorem d_M_mint_111 : decode b_M_mint 111 = .ok (.lconst 0, 1) := by decide +kernel
theorem d_M_mint_112 : decode b_M_mint 112 = .ok (.ladd, 1) := by decide +kernel
theorem d_M_mint_113 : decode b_M_mint 113 = .ok (.lstore 7, 2) := by decide +kernel
theorem d_M_mint_115 : decode b_M_mint 115 = .ok (.iinc 9 (-1), 3) := by decide +kernel
theorem d_M_mint_118 : decode b_M_mint 118 = .ok (.goto (-53), 3) := by decide +kernel
theorem d_M_mint_121 : decode b_M_mint 121 = .ok (.iload 5, 2) := by decide +kernel
theorem d_M_mint_123 : decode b_M_mint 123 = .ok (.ifCond .ge 8, 3) := by decide +kernel
theorem d_M_mint_126 : decode b_M_mint 126 = .ok (.iload 6, 2) := by decide +kernel
theorem d_M_mint_128 : decode b_M_mint 128 = .ok (.ifCond .lt 12, 3) := by decide +kernel
theorem d_M_mint_131 : decode b_M_mint 131 = .ok (.lload 7, 2) := by decide +kernel
theorem d_M_mint_133 : decode b_M_mint 133 = .ok (.ldc2_w 125, 3) := by decide +kernel
theorem d_M_mint_136 : decode b_M_mint 136 = .ok (.lcmp, 1) := by decide +kernel
theorem d_M_mint_137 : decode b_M_mint 137 = .ok (.ifCond .le 7, 3) := by decide +kernel
theorem d_M_mint_140 : decode b_M_mint 140 = .ok (.ldc2_w 127, 3) := by decide +kernel
theorem d_M_mint_143 : decode b_M_mint 143 = .ok (.lreturn, 1) := by decide +kernel
theorem d_M_mint_144 : decode b_M_mint 144 = .ok (.aload_n 0, 1) := by decide +kernel
theorem d_M_mint_145 : decode b_M_mint 145 = .ok (.iload_n 2, 1) := by decide +kernel
theorem d_M_mint_146 : decode b_M_mint 146 = .ok (.iload_n 3, 1) := by decide +kernel
theorem d_M_mint_147 : decode b_M_mint 147 = .ok (.iload 4, 2) := by decide +kernel
theorem d_M_mint_149 : decode b_M_mint 149 = .ok (.i2l, 1) := by decide +kernel
theorem d_M_mint_150 : decode b_M_mint 150 = .ok (.iconst 1, 1) := by decide +kernel
theorem d_M_mint_151 : decode b_M_mint 151 = .ok (.invokevirtual 129, 3) := by decide +kernel
theorem d_M_mint_154 : decode b_M_mint 154 = .ok (.lstore 9, 2) := by decide +kernel
theorem d_M_mint_156 : decode b_M_mint 156 = .ok (.aload_n 0, 1) := by decide +kernel
theorem d_M_mint_157 : decode b_M_mint 157 = .ok (.iload_n 2, 1) := by decide +kernel
theorem d_M_mint_158 : decode b_M_mint 158 = .ok (.iload_n 3, 1) := by decide +kernel
theorem d_M_mint_159 : decode b_M_mint 159 = .ok (.iload 4, 2) := by decide +kernel
theorem d_M_mint_161 : decode b_M_mint 161 = .ok (.i2l, 1) := by decide +kernel
theorem d_M_mint_162 : decode b_M_mint 162 = .ok (.iconst 1, 1) := by decide +kernel
theorem d_M_mint_163 : decode b_M_mint 163 = .ok (.invokevirtual 133, 3) := by decide +kernel
theorem d_M_mint_166 : decode b_M_mint 166 = .ok (.lstore 11, 2) := by decide +kernel
theorem d_M_mint_168 : decode b_M_mint 168 = .ok (.aload_n 0, 1) := by decide +kernel
theorem d_M_mint_169 : decode b_M_mint 169 = .ok (.getfield 13, 3) := by decide +kernel
theorem d_M_mint_172 : decode b_M_mint 172 = .ok (.iconst 2, 1) := by decide +kernel
theorem d_M_mint_173 : decode b_M_mint 173 = .ok (.iload_n 1, 1) := by decide +kernel
theorem d_M_mint_174 : decode b_M_mint 174 = .ok (.imul, 1) := by decide +kernel
theorem d_M_mint_175 : decode b_M_mint 175 = .ok (.laload, 1) := by decide +kernel
theorem d_M_mint_176 : decode b_M_mint 176 = .ok (.lload 9, 2) := by decide +kernel
theorem d_M_mint_178 : decode b_M_mint 178 = .ok (.lcmp, 1) := by decide +kernel
theorem d_M_mint_179 : decode b_M_mint 179 = .ok (.ifCond .lt 19, 3) := by decide +kernel
theorem d_M_mint_182 : decode b_M_mint 182 = .ok (.aload_n 0, 1) := by decide +kernel
theorem d_M_mint_183 : decode b_M_mint 183 = .ok (.getfield 13, 3) := by decide +kernel
theorem d_M_mint_186 : decode b_M_mint 186 = .ok (.iconst 2, 1) := by decide +kernel
theorem d_M_mint_187 : decode b_M_mint 187 = .ok (.iload_n 1, 1) := by decide +kernel
theorem d_M_mint_188 : decode b_M_mint 188 = .ok (.imul, 1) := by decide +kernel
theorem d_M_mint_189 : decode b_M_mint 189 = .ok (.iconst 1, 1) := by decide +kernel
theorem d_M_mint_190 : decode b_M_mint 190 = .ok (.iadd, 1) := by decide +kernel
theorem d_M_mint_191 : decode b_M_mint 191 = .ok (.laload, 1) := by decide +kernel
theorem d_M_mint_192 : decode b_M_mint 192 = .ok (.lload 11, 2) := by decide +kernel
theorem d_M_mint_194 : decode b_M_mint 194 = .ok (.lcmp, 1) := by decide +kernel
theorem d_M_mint_195 : decode b_M_mint 195 = .ok (.ifCond .ge 7, 3) := by decide +kernel
theorem d_M_mint_198 : decode b_M_mint 198 = .ok (.ldc2_w 136, 3) := by decide +kernel
theorem d_M_mint_201 : decode b_M_mint 201 = .ok (.lreturn, 1) := by decide +kernel
theorem d_M_mint_202 : decode b_M_mint 202 = .ok (.aload_n 0, 1) := by decide +kernel
theorem d_M_mint_203 : decode b_M_mint 203 = .ok (.invokevirtual 96, 3) := by decide +kernel
theorem d_M_mint_206 : decode b_M_mint 206 = .ok (.iload 5, 2) := by decide +kernel
theorem d_M_mint_208 : decode b_M_mint 208 = .ok (.ifCond .ge 91, 3) := by decide +kernel
theorem d_M_mint_211 : decode b_M_mint 211 = .ok (.iload 6, 2) := by decide +kernel
theorem d_M_mint_213 : decode b_M_mint 213 = .ok (.istore 5, 2) := by decide +kernel
theorem d_M_mint_215 : decode b_M_mint 215 = .ok (.aload_n 0, 1) := by decide +kernel
theorem d_M_mint_216 : decode b_M_mint 216 = .ok (.getfield 19, 3) := by decide +kernel
theorem d_M_mint_219 : decode b_M_mint 219 = .ok (.iload 5, 2) := by decide +kernel
theorem d_M_mint_221 : decode b_M_mint 221 = .ok (.iconst 1, 1) := by decide +kernel
theorem d_M_mint_222 : decode b_M_mint 222 = .ok (.bastore, 1) := by decide +kernel
theorem d_M_mint_223 : decode b_M_mint 223 = .ok (.aload_n 0, 1) := by decide +kernel
theorem d_M_mint_224 : decode b_M_mint 224 = .ok (.getfield 23, 3) := by decide +kernel
theorem d_M_mint_227 : decode b_M_mint 227 = .ok (.iload 5, 2) := by decide +kernel
theorem d_M_mint_229 : decode b_M_mint 229 = .ok (.iload_n 1, 1) := by decide +kernel
theorem d_M_mint_230 : decode b_M_mint 230 = .ok (.iastore, 1) := by decide +kernel
theorem d_M_mint_231 : decode b_M_mint 231 = .ok (.aload_n 0, 1) := by decide +kernel
theorem d_M_mint_232 : decode b_M_mint 232 = .ok (.getfield 27, 3) := by decide +kernel
theorem d_M_mint_235 : decode b_M_mint 235 = .ok (.iload 5, 2) := by decide +kernel
theorem d_M_mint_237 : decode b_M_mint 237 = .ok (.iload_n 2, 1) := by decide +kernel
theorem d_M_mint_238 : decode b_M_mint 238 = .ok (.iastore, 1) := by decide +kernel
theorem d_M_mint_239 : decode b_M_mint 239 = .ok (.aload_n 0, 1) := by decide +kernel
theorem d_M_mint_240 : decode b_M_mint 240 = .ok (.getfield 30, 3) := by decide +kernel
theorem d_M_mint_243 : decode b_M_mint 243 = .ok (.iload 5, 2) := by decide +kernel
theorem d_M_mint_245 : decode b_M_mint 245 = .ok (.iload_n 3, 1) := by decide +kernel
theorem d_M_mint_246 : decode b_M_mint 246 = .ok (.iastore, 1) := by decide +kernel
theorem d_M_mint_247 : decode b_M_mint 247 = .ok (.aload_n 0, 1) := by decide +kernel
theorem d_M_mint_248 : decode b_M_mint 248 = .ok (.getfield 33, 3) := by decide +kernel
theorem d_M_mint_251 : decode b_M_mint 251 = .ok (.iload 5, 2) := by decide +kernel
theorem d_M_mint_253 : decode b_M_mint 253 = .ok (.lconst 0, 1) := by decide +kernel
theorem d_M_mint_254 : decode b_M_mint 254 = .ok (.lastore, 1) := by decide +kernel
theorem d_M_mint_255 : decode b_M_mint 255 = .ok (.aload_n 0, 1) := by decide +kernel
theorem d_M_mint_256 : decode b_M_mint 256 = .ok (.getfield 36, 3) := by decide +kernel
theorem d_M_mint_259 : decode b_M_mint 259 = .ok (.iconst 2, 1) := by decide +kernel
theorem d_M_mint_260 : decode b_M_mint 260 = .ok (.iload 5, 2) := by decide +kernel
theorem d_M_mint_262 : decode b_M_mint 262 = .ok (.imul, 1) := by decide +kernel
theorem d_M_mint_263 : decode b_M_mint 263 = .ok (.lconst 0, 1) := by decide +kernel
theorem d_M_mint_264 : decode b_M_mint 264 = .ok (.lastore, 1) := by decide +kernel
theorem d_M_mint_265 : decode b_M_mint 265 = .ok (.aload_n 0, 1) := by decide +kernel
theorem d_M_mint_266 : decode b_M_mint 266 = .ok (.getfield 36, 3) := by decide +kernel
theorem d_M_mint_269 : decode b_M_mint 269 = .ok (.iconst 2, 1) := by decide +kernel
theorem d_M_mint_270 : decode b_M_mint 270 = .ok (.iload 5, 2) := by decide +kernel
theorem d_M_mint_272 : decode b_M_mint 272 = .ok (.imul, 1) := by decide +kernel
theorem d_M_mint_273 : decode b_M_mint 273 = .ok (.iconst 1, 1) := by decide +kernel
theorem d_M_mint_274 : decode b_M_mint 274 = .ok (.iadd, 1) := by decide +kernel
theorem d_M_mint_275 : decode b_M_mint 275 = .ok (.lconst 0, 1) := by decide +kernel
theorem d_M_mint_276 : decode b_M_mint 276 = .ok (.lastore, 1) := by decide +kernel
theorem d_M_mint_277 : decode b_M_mint 277 = .ok (.aload_n 0, 1) := by decide +kernel
theorem d_M_mint_278 : decode b_M_mint 278 = .ok (.getfield 39, 3) := by decide +kernel
theorem d_M_mint_281 : decode b_M_mint 281 = .ok (.iconst 2, 1) := by decide +kernel
theorem d_M_mint_282 : decode b_M_mint 282 = .ok (.iload 5, 2) := by decide +kernel
theorem d_M_mint_284 : decode b_M_mint 284 = .ok (.imul, 1) := by decide +kernel
theorem d_M_mint_285 : decode b_M_mint 285 = .ok (.lconst 0, 1) := by decide +kernel
theorem d_M_mint_286 : decode b_M_mint 286 = .ok (.lastore, 1) := by decide +kernel
theorem d_M_mint_287 : decode b_M_mint 287 = .ok (.aload_n 0, 1) := by decide +kernel
theorem d_M_mint_288 : decode b_M_mint 288 = .ok (.getfield 39, 3) := by decide +kernel
theorem d_M_mint_291 : decode b_M_mint 291 = .ok (.iconst 2, 1) := by decide +kernel
theorem d_M_mint_292 : decode b_M_mint 292 = .ok (.iload 5, 2) := by decide +kernel
theorem d_M_mint_294 : decode b_M_mint 294 = .ok (.imul, 1) := by decide +kernel
theorem d_M_mint_295 : decode b_M_mint 295 = .ok (.iconst 1, 1) := by decide +kernel
theorem d_M_mint_296 : decode b_M_mint 296 = .ok (.iadd, 1) := by decide +kernel
theorem d_M_mint_297 : decode b_M_mint 297 = .ok (.lconst 0, 1) := by decide +kernel
theorem d_M_mint_298 : decode b_M_mint 298 = .ok (.lastore, 1) := by decide +kernel
theorem d_M_mint_299 : decode b_M_mint 299 = .ok (.aload_n 0, 1) := by decide +kernel
theorem d_M_mint_300 : decode b_M_mint 300 = .ok (.iload 5, 2) := by decide +kernel
theorem d_M_mint_302 : decode b_M_mint 302 = .ok (.invokevirtual 138, 3) := by decide +kernel
theorem d_M_mint_305 : decode b_M_mint 305 = .ok (.aload_n 0, 1) := by decide +kernel
theorem d_M_mint_306 : decode b_M_mint 306 = .ok (.getfield 33, 3) := by decide +kernel
theorem d_M_mint_309 : decode b_M_mint 309 = .ok (.iload 5, 2) := by decide +kernel
theorem d_M_mint_311 : decode b_M_mint 311 = .ok (.dup2, 1) := by decide +kernel
theorem d_M_mint_312 : decode b_M_mint 312 = .ok (.laload, 1) := by decide +kernel
theorem d_M_mint_313 : decode b_M_mint 313 = .ok (.iload 4, 2) := by decide +kernel
theorem d_M_mint_315 : decode b_M_mint 315 = .ok (.i2l, 1) := by decide +kernel
theorem d_M_mint_316 : decode b_M_mint 316 = .ok (.ladd, 1) := by decide +kernel
theorem d_M_mint_317 : decode b_M_mint 317 = .ok (.lastore, 1) := by decide +kernel
theorem d_M_mint_318 : decode b_M_mint 318 = .ok (.aload_n 0, 1) := by decide +kernel
theorem d_M_mint_319 : decode b_M_mint 319 = .ok (.iload_n 1, 1) := by decide +kernel
theorem d_M_mint_320 : decode b_M_mint 320 = .ok (.lload 9, 2) := by decide +kernel
theorem d_M_mint_322 : decode b_M_mint 322 = .ok (.lload 11, 2) := by decide +kernel
theorem d_M_mint_324 : decode b_M_mint 324 = .ok (.invokevirtual 142, 3) := by decide +kernel
theorem d_M_mint_327 : decode b_M_mint 327 = .ok (.lload 9, 2) := by decide +kernel
theorem d_M_mint_329 : decode b_M_mint 329 = .ok (.ldc2_w 103, 3) := by decide +kernel
theorem d_M_mint_332 : decode b_M_mint 332 = .ok (.lmul, 1) := by decide +kernel
theorem d_M_mint_333 : decode b_M_mint 333 = .ok (.lload 11, 2) := by decide +kernel
theorem d_M_mint_335 : decode b_M_mint 335 = .ok (.ladd, 1) := by decide +kernel
theorem d_M_mint_336 : decode b_M_mint 336 = .ok (.lreturn, 1) := by decide +kernel
theorem d_M_pay_0 : decode b_M_pay 0 = .ok (.aload_n 0, 1) := by decide +kernel
theorem d_M_pay_1 : decode b_M_pay 1 = .ok (.getfield 13, 3) := by decide +kernel
theorem d_M_pay_4 : decode b_M_pay 4 = .ok (.iconst 2, 1) := by decide +kernel
theorem d_M_pay_5 : decode b_M_pay 5 = .ok (.iload_n 1, 1) := by decide +kernel
theorem d_M_pay_6 : decode b_M_pay 6 = .ok (.imul, 1) := by decide +kernel
theorem d_M_pay_7 : decode b_M_pay 7 = .ok (.dup2, 1) := by decide +kernel
theorem d_M_pay_8 : decode b_M_pay 8 = .ok (.laload, 1) := by decide +kernel
theorem d_M_pay_9 : decode b_M_pay 9 = .ok (.lload_n 2, 1) := by decide +kernel
theorem d_M_pay_10 : decode b_M_pay 10 = .ok (.lsub, 1) := by decide +kernel
theorem d_M_pay_11 : decode b_M_pay 11 = .ok (.lastore, 1) := by decide +kernel
theorem d_M_pay_12 : decode b_M_pay 12 = .ok (.aload_n 0, 1) := by decide +kernel
theorem d_M_pay_13 : decode b_M_pay 13 = .ok (.getfield 13, 3) := by decide +kernel
theorem d_M_pay_16 : decode b_M_pay 16 = .ok (.iconst 2, 1) := by decide +kernel
theorem d_M_pay_17 : decode b_M_pay 17 = .ok (.iload_n 1, 1) := by decide +kernel
theorem d_M_pay_18 : decode b_M_pay 18 = .ok (.imul, 1) := by decide +kernel
theorem d_M_pay_19 : decode b_M_pay 19 = .ok (.iconst 1, 1) := by decide +kernel
theorem d_M_pay_20 : decode b_M_pay 20 = .ok (.iadd, 1) := by decide +kernel
theorem d_M_pay_21 : decode b_M_pay 21 = .ok (.dup2, 1) := by decide +kernel
theorem d_M_pay_22 : decode b_M_pay 22 = .ok (.laload, 1) := by decide +kernel
theorem d_M_pay_23 : decode b_M_pay 23 = .ok (.lload 4, 2) := by decide +kernel
theorem d_M_pay_25 : decode b_M_pay 25 = .ok (.lsub, 1) := by decide +kernel
theorem d_M_pay_26 : decode b_M_pay 26 = .ok (.lastore, 1) := by decide +kernel
theorem d_M_pay_27 : decode b_M_pay 27 = .ok (.aload_n 0, 1) := by decide +kernel
theorem d_M_pay_28 : decode b_M_pay 28 = .ok (.getfield 16, 3) := by decide +kernel
theorem d_M_pay_31 : decode b_M_pay 31 = .ok (.iconst 0, 1) := by decide +kernel
theorem d_M_pay_32 : decode b_M_pay 32 = .ok (.dup2, 1) := by decide +kernel
theorem d_M_pay_33 : decode b_M_pay 33 = .ok (.laload, 1) := by decide +kernel
theorem d_M_pay_34 : decode b_M_pay 34 = .ok (.lload_n 2, 1) := by decide +kernel
theorem d_M_pay_35 : decode b_M_pay 35 = .ok (.ladd, 1) := by decide +kernel
theorem d_M_pay_36 : decode b_M_pay 36 = .ok (.lastore, 1) := by decide +kernel
theorem d_M_pay_37 : decode b_M_pay 37 = .ok (.aload_n 0, 1) := by decide +kernel
theorem d_M_pay_38 : decode b_M_pay 38 = .ok (.getfield 16, 3) := by decide +kernel
theorem d_M_pay_41 : decode b_M_pay 41 = .ok (.iconst 1, 1) := by decide +kernel
theorem d_M_pay_42 : decode b_M_pay 42 = .ok (.dup2, 1) := by decide +kernel
theorem d_M_pay_43 : decode b_M_pay 43 = .ok (.laload, 1) := by decide +kernel
theorem d_M_pay_44 : decode b_M_pay 44 = .ok (.lload 4, 2) := by decide +kernel
theorem d_M_pay_46 : decode b_M_pay 46 = .ok (.ladd, 1) := by decide +kernel
theorem d_M_pay_47 : decode b_M_pay 47 = .ok (.lastore, 1) := by decide +kernel
theorem d_M_pay_48 : decode b_M_pay 48 = .ok (.return_, 1) := by decide +kernel
theorem d_M_burn_0 : decode b_M_burn 0 = .ok (.aload_n 0, 1) := by decide +kernel
theorem d_M_burn_1 : decode b_M_burn 1 = .ok (.getfield 78, 3) := by decide +kernel
theorem d_M_burn_4 : decode b_M_burn 4 = .ok (.ifCond .ne 7, 3) := by decide +kernel
theorem d_M_burn_7 : decode b_M_burn 7 = .ok (.ldc2_w 112, 3) := by decide +kernel
theorem d_M_burn_10 : decode b_M_burn 10 = .ok (.lreturn, 1) := by decide +kernel
theorem d_M_burn_11 : decode b_M_burn 11 = .ok (.aload_n 0, 1) := by decide +kernel
theorem d_M_burn_12 : decode b_M_burn 12 = .ok (.iload_n 1, 1) := by decide +kernel
theorem d_M_burn_13 : decode b_M_burn 13 = .ok (.iload_n 2, 1) := by decide +kernel
theorem d_M_burn_14 : decode b_M_burn 14 = .ok (.iload_n 3, 1) := by decide +kernel
theorem d_M_burn_15 : decode b_M_burn 15 = .ok (.invokevirtual 121, 3) := by decide +kernel
theorem d_M_burn_18 : decode b_M_burn 18 = .ok (.istore 5, 2) := by decide +kernel
theorem d_M_burn_20 : decode b_M_burn 20 = .ok (.iload 5, 2) := by decide +kernel
theorem d_M_burn_22 : decode b_M_burn 22 = .ok (.ifCond .ge 7, 3) := by decide +kernel
theorem d_M_burn_25 : decode b_M_burn 25 = .ok (.ldc2_w 146, 3) := by decide +kernel
theorem d_M_burn_28 : decode b_M_burn 28 = .ok (.lreturn, 1) := by decide +kernel
theorem d_M_burn_29 : decode b_M_burn 29 = .ok (.iload 4, 2) := by decide +kernel
theorem d_M_burn_31 : decode b_M_burn 31 = .ok (.ifCond .lt 17, 3) := by decide +kernel
theorem d_M_burn_34 : decode b_M_burn 34 = .ok (.iload 4, 2) := by decide +kernel
theorem d_M_burn_36 : decode b_M_burn 36 = .ok (.i2l, 1) := by decide +kernel
theorem d_M_burn_37 : decode b_M_burn 37 = .ok (.aload_n 0, 1) := by decide +kernel
theorem d_M_burn_38 : decode b_M_burn 38 = .ok (.getfield 33, 3) := by decide +kernel
theorem d_M_burn_41 : decode b_M_burn 41 = .ok (.iload 5, 2) := by decide +kernel
theorem d_M_burn_43 : decode b_M_burn 43 = .ok (.laload, 1) := by decide +kernel
theorem d_M_burn_44 : decode b_M_burn 44 = .ok (.lcmp, 1) := by decide +kernel
theorem d_M_burn_45 : decode b_M_burn 45 = .ok (.ifCond .le 7, 3) := by decide +kernel
theorem d_M_burn_48 : decode b_M_burn 48 = .ok (.ldc2_w 119, 3) := by decide +kernel
theorem d_M_burn_51 : decode b_M_burn 51 = .ok (.lreturn, 1) := by decide +kernel
theorem d_M_burn_52 : decode b_M_burn 52 = .ok (.aload_n 0, 1) := by decide +kernel
theorem d_M_burn_53 : decode b_M_burn 53 = .ok (.invokevirtual 96, 3) := by decide +kernel
theorem d_M_burn_56 : decode b_M_burn 56 = .ok (.aload_n 0, 1) := by decide +kernel
theorem d_M_burn_57 : decode b_M_burn 57 = .ok (.iload 5, 2) := by decide +kernel
theorem d_M_burn_59 : decode b_M_burn 59 = .ok (.invokevirtual 138, 3) := by decide +kernel
theorem d_M_burn_62 : decode b_M_burn 62 = .ok (.aload_n 0, 1) := by decide +kernel
theorem d_M_burn_63 : decode b_M_burn 63 = .ok (.getfield 33, 3) := by decide +kernel
theorem d_M_burn_66 : decode b_M_burn 66 = .ok (.iload 5, 2) := by decide +kernel
theorem d_M_burn_68 : decode b_M_burn 68 = .ok (.dup2, 1) := by decide +kernel
theorem d_M_burn_69 : decode b_M_burn 69 = .ok (.laload, 1) := by decide +kernel
theorem d_M_burn_70 : decode b_M_burn 70 = .ok (.iload 4, 2) := by decide +kernel
theorem d_M_burn_72 : decode b_M_burn 72 = .ok (.i2l, 1) := by decide +kernel
theorem d_M_burn_73 : decode b_M_burn 73 = .ok (.lsub, 1) := by decide +kernel
theorem d_M_burn_74 : decode b_M_burn 74 = .ok (.lastore, 1) := by decide +kernel
theorem d_M_burn_75 : decode b_M_burn 75 = .ok (.aload_n 0, 1) := by decide +kernel
theorem d_M_burn_76 : decode b_M_burn 76 = .ok (.iload_n 2, 1) := by decide +kernel
theorem d_M_burn_77 : decode b_M_burn 77 = .ok (.iload_n 3, 1) := by decide +kernel
theorem d_M_burn_78 : decode b_M_burn 78 = .ok (.iload 4, 2) := by decide +kernel
theorem d_M_burn_80 : decode b_M_burn 80 = .ok (.i2l, 1) := by decide +kernel
theorem d_M_burn_81 : decode b_M_burn 81 = .ok (.iconst 0, 1) := by decide +kernel
theorem d_M_burn_82 : decode b_M_burn 82 = .ok (.invokevirtual 129, 3) := by decide +kernel
theorem d_M_burn_85 : decode b_M_burn 85 = .ok (.lstore 6, 2) := by decide +kernel
theorem d_M_burn_87 : decode b_M_burn 87 = .ok (.aload_n 0, 1) := by decide +kernel
theorem d_M_burn_88 : decode b_M_burn 88 = .ok (.iload_n 2, 1) := by decide +kernel
theorem d_M_burn_89 : decode b_M_burn 89 = .ok (.iload_n 3, 1) := by decide +kernel
theorem d_M_burn_90 : decode b_M_burn 90 = .ok (.iload 4, 2) := by decide +kernel
theorem d_M_burn_92 : decode b_M_burn 92 = .ok (.i2l, 1) := by decide +kernel
theorem d_M_burn_93 : decode b_M_burn 93 = .ok (.iconst 0, 1) := by decide +kernel
theorem d_M_burn_94 : decode b_M_burn 94 = .ok (.invokevirtual 133, 3) := by decide +kernel
theorem d_M_burn_97 : decode b_M_burn 97 = .ok (.lstore 8, 2) := by decide +kernel
theorem d_M_burn_99 : decode b_M_burn 99 = .ok (.aload_n 0, 1) := by decide +kernel
theorem d_M_burn_100 : decode b_M_burn 100 = .ok (.getfield 36, 3) := by decide +kernel
theorem d_M_burn_103 : decode b_M_burn 103 = .ok (.iconst 2, 1) := by decide +kernel
theorem d_M_burn_104 : decode b_M_burn 104 = .ok (.iload 5, 2) := by decide +kernel
theorem d_M_burn_106 : decode b_M_burn 106 = .ok (.imul, 1) := by decide +kernel
theorem d_M_burn_107 : decode b_M_burn 107 = .ok (.dup2, 1) := by decide +kernel
theorem d_M_burn_108 : decode b_M_burn 108 = .ok (.laload, 1) := by decide +kernel
theorem d_M_burn_109 : decode b_M_burn 109 = .ok (.lload 6, 2) := by decide +kernel
theorem d_M_burn_111 : decode b_M_burn 111 = .ok (.ladd, 1) := by decide +kernel
theorem d_M_burn_112 : decode b_M_burn 112 = .ok (.lastore, 1) := by decide +kernel
theorem d_M_burn_113 : decode b_M_burn 113 = .ok (.aload_n 0, 1) := by decide +kernel
theorem d_M_burn_114 : decode b_M_burn 114 = .ok (.getfield 36, 3) := by decide +kernel
theorem d_M_burn_117 : decode b_M_burn 117 = .ok (.iconst 2, 1) := by decide +kernel
theorem d_M_burn_118 : decode b_M_burn 118 = .ok (.iload 5, 2) := by decide +kernel
theorem d_M_burn_120 : decode b_M_burn 120 = .ok (.imul, 1) := by decide +kernel
theorem d_M_burn_121 : decode b_M_burn 121 = .ok (.iconst 1, 1) := by decide +kernel
theorem d_M_burn_122 : decode b_M_burn 122 = .ok (.iadd, 1) := by decide +kernel
theorem d_M_burn_123 : decode b_M_burn 123 = .ok (.dup2, 1) := by decide +kernel
theorem d_M_burn_124 : decode b_M_burn 124 = .ok (.laload, 1) := by decide +kernel
theorem d_M_burn_125 : decode b_M_burn 125 = .ok (.lload 8, 2) := by decide +kernel
theorem d_M_burn_127 : decode b_M_burn 127 = .ok (.ladd, 1) := by decide +kernel
theorem d_M_burn_128 : decode b_M_burn 128 = .ok (.lastore, 1) := by decide +kernel
theorem d_M_burn_129 : decode b_M_burn 129 = .ok (.aload_n 0, 1) := by decide +kernel
theorem d_M_burn_130 : decode b_M_burn 130 = .ok (.iload 5, 2) := by decide +kernel
theorem d_M_burn_132 : decode b_M_burn 132 = .ok (.invokevirtual 148, 3) := by decide +kernel
theorem d_M_burn_135 : decode b_M_burn 135 = .ok (.lload 6, 2) := by decide +kernel
theorem d_M_burn_137 : decode b_M_burn 137 = .ok (.ldc2_w 103, 3) := by decide +kernel
theorem d_M_burn_140 : decode b_M_burn 140 = .ok (.lmul, 1) := by decide +kernel
theorem d_M_burn_141 : decode b_M_burn 141 = .ok (.lload 8, 2) := by decide +kernel
theorem d_M_burn_143 : decode b_M_burn 143 = .ok (.ladd, 1) := by decide +kernel
theorem d_M_burn_144 : decode b_M_burn 144 = .ok (.lreturn, 1) := by decide +kernel
theorem d_M_collect_0 : decode b_M_collect 0 = .ok (.aload_n 0, 1) := by decide +kernel
theorem d_M_collect_1 : decode b_M_collect 1 = .ok (.getfield 78, 3) := by decide +kernel
theorem d_M_collect_4 : decode b_M_collect 4 = .ok (.ifCond .ne 7, 3) := by decide +kernel
theorem d_M_collect_7 : decode b_M_collect 7 = .ok (.ldc2_w 112, 3) := by decide +kernel
theorem d_M_collect_10 : decode b_M_collect 10 = .ok (.lreturn, 1) := by decide +kernel
theorem d_M_collect_11 : decode b_M_collect 11 = .ok (.aload_n 0, 1) := by decide +kernel
theorem d_M_collect_12 : decode b_M_collect 12 = .ok (.iload_n 1, 1) := by decide +kernel
theorem d_M_collect_13 : decode b_M_collect 13 = .ok (.iload_n 2, 1) := by decide +kernel
theorem d_M_collect_14 : decode b_M_collect 14 = .ok (.iload_n 3, 1) := by decide +kernel
theorem d_M_collect_15 : decode b_M_collect 15 = .ok (.invokevirtual 121, 3) := by decide +kernel
theorem d_M_collect_18 : decode b_M_collect 18 = .ok (.istore 4, 2) := by decide +kernel
theorem d_M_collect_20 : decode b_M_collect 20 = .ok (.iload 4, 2) := by decide +kernel
theorem d_M_collect_22 : decode b_M_collect 22 = .ok (.ifCond .ge 7, 3) := by decide +kernel
theorem d_M_collect_25 : decode b_M_collect 25 = .ok (.ldc2_w 146, 3) := by decide +kernel
theorem d_M_collect_28 : decode b_M_collect 28 = .ok (.lreturn, 1) := by decide +kernel
theorem d_M_collect_29 : decode b_M_collect 29 = .ok (.aload_n 0, 1) := by decide +kernel
theorem d_M_collect_30 : decode b_M_collect 30 = .ok (.getfield 36, 3) := by decide +kernel
theorem d_M_collect_33 : decode b_M_collect 33 = .ok (.iconst 2, 1) := by decide +kernel
theorem d_M_collect_34 : decode b_M_collect 34 = .ok (.iload 4, 2) := by decide +kernel
theorem d_M_collect_36 : decode b_M_collect 36 = .ok (.imul, 1) := by decide +kernel
theorem d_M_collect_37 : decode b_M_collect 37 = .ok (.laload, 1) := by decide +kernel
theorem d_M_collect_38 : decode b_M_collect 38 = .ok (.lstore 5, 2) := by decide +kernel
theorem d_M_collect_40 : decode b_M_collect 40 = .ok (.aload_n 0, 1) := by decide +kernel
theorem d_M_collect_41 : decode b_M_collect 41 = .ok (.getfield 36, 3) := by decide +kernel
theorem d_M_collect_44 : decode b_M_collect 44 = .ok (.iconst 2, 1) := by decide +kernel
theorem d_M_collect_45 : decode b_M_collect 45 = .ok (.iload 4, 2) := by decide +kernel
theorem d_M_collect_47 : decode b_M_collect 47 = .ok (.imul, 1) := by decide +kernel
theorem d_M_collect_48 : decode b_M_collect 48 = .ok (.iconst 1, 1) := by decide +kernel
theorem d_M_collect_49 : decode b_M_collect 49 = .ok (.iadd, 1) := by decide +kernel
theorem d_M_collect_50 : decode b_M_collect 50 = .ok (.laload, 1) := by decide +kernel
theorem d_M_collect_51 : decode b_M_collect 51 = .ok (.lstore 7, 2) := by decide +kernel
theorem d_M_collect_53 : decode b_M_collect 53 = .ok (.aload_n 0, 1) := by decide +kernel
theorem d_M_collect_54 : decode b_M_collect 54 = .ok (.iload_n 1, 1) := by decide +kernel
theorem d_M_collect_55 : decode b_M_collect 55 = .ok (.lload 5, 2) := by decide +kernel
theorem d_M_collect_57 : decode b_M_collect 57 = .ok (.lneg, 1) := by decide +kernel
theorem d_M_collect_58 : decode b_M_collect 58 = .ok (.lload 7, 2) := by decide +kernel
theorem d_M_collect_60 : decode b_M_collect 60 = .ok (.lneg, 1) := by decide +kernel
theorem d_M_collect_61 : decode b_M_collect 61 = .ok (.invokevirtual 142, 3) := by decide +kernel
theorem d_M_collect_64 : decode b_M_collect 64 = .ok (.aload_n 0, 1) := by decide +kernel
theorem d_M_collect_65 : decode b_M_collect 65 = .ok (.getfield 36, 3) := by decide +kernel
theorem d_M_collect_68 : decode b_M_collect 68 = .ok (.iconst 2, 1) := by decide +kernel
theorem d_M_collect_69 : decode b_M_collect 69 = .ok (.iload 4, 2) := by decide +kernel
theorem d_M_collect_71 : decode b_M_collect 71 = .ok (.imul, 1) := by decide +kernel
theorem d_M_collect_72 : decode b_M_collect 72 = .ok (.lconst 0, 1) := by decide +kernel
theorem d_M_collect_73 : decode b_M_collect 73 = .ok (.lastore, 1) := by decide +kernel
theorem d_M_collect_74 : decode b_M_collect 74 = .ok (.aload_n 0, 1) := by decide +kernel
theorem d_M_collect_75 : decode b_M_collect 75 = .ok (.getfield 36, 3) := by decide +kernel
theorem d_M_collect_78 : decode b_M_collect 78 = .ok (.iconst 2, 1) := by decide +kernel
theorem d_M_collect_79 : decode b_M_collect 79 = .ok (.iload 4, 2) := by decide +kernel
theorem d_M_collect_81 : decode b_M_collect 81 = .ok (.imul, 1) := by decide +kernel
theorem d_M_collect_82 : decode b_M_collect 82 = .ok (.iconst 1, 1) := by decide +kernel
theorem d_M_collect_83 : decode b_M_collect 83 = .ok (.iadd, 1) := by decide +kernel
theorem d_M_collect_84 : decode b_M_collect 84 = .ok (.lconst 0, 1) := by decide +kernel
theorem d_M_collect_85 : decode b_M_collect 85 = .ok (.lastore, 1) := by decide +kernel
theorem d_M_collect_86 : decode b_M_collect 86 = .ok (.aload_n 0, 1) := by decide +kernel
theorem d_M_collect_87 : decode b_M_collect 87 = .ok (.iload 4, 2) := by decide +kernel
theorem d_M_collect_89 : decode b_M_collect 89 = .ok (.invokevirtual 148, 3) := by decide +kernel
theorem d_M_collect_92 : decode b_M_collect 92 = .ok (.lload 5, 2) := by decide +kernel
theorem d_M_collect_94 : decode b_M_collect 94 = .ok (.ldc2_w 103, 3) := by decide +kernel
theorem d_M_collect_97 : decode b_M_collect 97 = .ok (.lmul, 1) := by decide +kernel
theorem d_M_collect_98 : decode b_M_collect 98 = .ok (.lload 7, 2) := by decide +kernel
theorem d_M_collect_100 : decode b_M_collect 100 = .ok (.ladd, 1) := by decide +kernel
theorem d_M_collect_101 : decode b_M_collect 101 = .ok (.lreturn, 1) := by decide +kernel
theorem d_M_marked_0 : decode b_M_marked 0 = .ok (.iconst 0, 1) := by decide +kernel
theorem d_M_marked_1 : decode b_M_marked 1 = .ok (.istore_n 2, 1) := by decide +kernel
theorem d_M_marked_2 : decode b_M_marked 2 = .ok (.iconst 0, 1) := by decide +kernel
theorem d_M_marked_3 : decode b_M_marked 3 = .ok (.istore_n 3, 1) := by decide +kernel
theorem d_M_marked_4 : decode b_M_marked 4 = .ok (.iload_n 3, 1) := by decide +kernel
theorem d_M_marked_5 : decode b_M_marked 5 = .ok (.bipush 10, 2) := by decide +kernel
theorem d_M_marked_7 : decode b_M_marked 7 = .ok (.if_icmp .ge 59, 3) := by decide +kernel
theorem d_M_marked_10 : decode b_M_marked 10 = .ok (.iload_n 2, 1) := by decide +kernel
theorem d_M_marked_11 : decode b_M_marked 11 = .ok (.ifCond .ne 43, 3) := by decide +kernel
theorem d_M_marked_14 : decode b_M_marked 14 = .ok (.aload_n 0, 1) := by decide +kernel
theorem d_M_marked_15 : decode b_M_marked 15 = .ok (.getfield 19, 3) := by decide +kernel
theorem d_M_marked_18 : decode b_M_marked 18 = .ok (.iload_n 3, 1) := by decide +kernel
theorem d_M_marked_19 : decode b_M_marked 19 = .ok (.baload, 1) := by decide +kernel
theorem d_M_marked_20 : decode b_M_marked 20 = .ok (.ifCond .eq 38, 3) := by decide +kernel
theorem d_M_marked_23 : decode b_M_marked 23 = .ok (.aload_n 0, 1) := by decide +kernel
theorem d_M_marked_24 : decode b_M_marked 24 = .ok (.getfield 33, 3) := by decide +kernel
theorem d_M_marked_27 : decode b_M_marked 27 = .ok (.iload_n 3, 1) := by decide +kernel
theorem d_M_marked_28 : decode b_M_marked 28 = .ok (.laload, 1) := by decide +kernel
theorem d_M_marked_29 : decode b_M_marked 29 = .ok (.lconst 0, 1) := by decide +kernel
theorem d_M_marked_30 : decode b_M_marked 30 = .ok (.lcmp, 1) := by decide +kernel
theorem d_M_marked_31 : decode b_M_marked 31 = .ok (.ifCond .le 27, 3) := by decide +kernel
theorem d_M_marked_34 : decode b_M_marked 34 = .ok (.aload_n 0, 1) := by decide +kernel
theorem d_M_marked_35 : decode b_M_marked 35 = .ok (.getfield 27, 3) := by decide +kernel
theorem d_M_marked_38 : decode b_M_marked 38 = .ok (.iload_n 3, 1) := by decide +kernel
theorem d_M_marked_39 : decode b_M_marked 39 = .ok (.iaload, 1) := by decide +kernel
theorem d_M_marked_40 : decode b_M_marked 40 = .ok (.iload_n 1, 1) := by decide +kernel
theorem d_M_marked_41 : decode b_M_marked 41 = .ok (.if_icmp .eq 13, 3) := by decide +kernel
theorem d_M_marked_44 : decode b_M_marked 44 = .ok (.aload_n 0, 1) := by decide +kernel
theorem d_M_marked_45 : decode b_M_marked 45 = .ok (.getfield 30, 3) := by decide +kernel
theorem d_M_marked_48 : decode b_M_marked 48 = .ok (.iload_n 3, 1) := by decide +kernel
theorem d_M_marked_49 : decode b_M_marked 49 = .ok (.iaload, 1) := by decide +kernel
theorem d_M_marked_50 : decode b_M_marked 50 = .ok (.iload_n 1, 1) := by decide +kernel
theorem d_M_marked_51 : decode b_M_marked 51 = .ok (.if_icmp .ne 7, 3) := by decide +kernel
theorem d_M_marked_54 : decode b_M_marked 54 = .ok (.iconst 1, 1) := by decide +kernel
theorem d_M_marked_55 : decode b_M_marked 55 = .ok (.goto 4, 3) := by decide +kernel
theorem d_M_marked_58 : decode b_M_marked 58 = .ok (.iconst 0, 1) := by decide +kernel
theorem d_M_marked_59 : decode b_M_marked 59 = .ok (.istore_n 2, 1) := by decide +kernel
theorem d_M_marked_60 : decode b_M_marked 60 = .ok (.iinc 3 1, 3) := by decide +kernel
theorem d_M_marked_63 : decode b_M_marked 63 = .ok (.goto (-59), 3) := by decide +kernel
theorem d_M_marked_66 : decode b_M_marked 66 = .ok (.iload_n 2, 1) := by decide +kernel
theorem d_M_marked_67 : decode b_M_marked 67 = .ok (.ireturn, 1) := by decide +kernel
theorem d_M_nextStep_0 : decode b_M_nextStep 0 = .ok (.bipush 99, 2) := by decide +kernel
theorem d_M_nextStep_2 : decode b_M_nextStep 2 = .ok (.istore_n 2, 1) := by decide +kernel
theorem d_M_nextStep_3 : decode b_M_nextStep 3 = .ok (.bipush (-24), 2) := by decide +kernel
theorem d_M_nextStep_5 : decode b_M_nextStep 5 = .ok (.istore_n 3, 1) := by decide +kernel
theorem d_M_nextStep_6 : decode b_M_nextStep 6 = .ok (.iload_n 3, 1) := by decide +kernel
theorem d_M_nextStep_7 : decode b_M_nextStep 7 = .ok (.bipush 24, 2) := by decide +kernel
theorem d_M_nextStep_9 : decode b_M_nextStep 9 = .ok (.if_icmp .gt 64, 3) := by decide +kernel
theorem d_M_nextStep_12 : decode b_M_nextStep 12 = .ok (.aload_n 0, 1) := by decide +kernel
theorem d_M_nextStep_13 : decode b_M_nextStep 13 = .ok (.iload_n 3, 1) := by decide +kernel
theorem d_M_nextStep_14 : decode b_M_nextStep 14 = .ok (.invokevirtual 151, 3) := by decide +kernel
theorem d_M_nextStep_17 : decode b_M_nextStep 17 = .ok (.ifCond .eq 36, 3) := by decide +kernel
theorem d_M_nextStep_20 : decode b_M_nextStep 20 = .ok (.iload_n 1, 1) := by decide +kernel
theorem d_M_nextStep_21 : decode b_M_nextStep 21 = .ok (.ifCond .eq 14, 3) := by decide +kernel
theorem d_M_nextStep_24 : decode b_M_nextStep 24 = .ok (.iload_n 3, 1) := by decide +kernel
theorem d_M_nextStep_25 : decode b_M_nextStep 25 = .ok (.aload_n 0, 1) := by decide +kernel
theorem d_M_nextStep_26 : decode b_M_nextStep 26 = .ok (.getfield 154, 3) := by decide +kernel
theorem d_M_nextStep_29 : decode b_M_nextStep 29 = .ok (.if_icmp .gt 24, 3) := by decide +kernel
theorem d_M_nextStep_32 : decode b_M_nextStep 32 = .ok (.goto 17, 3) := by decide +kernel
theorem d_M_nextStep_35 : decode b_M_nextStep 35 = .ok (.iload_n 3, 1) := by decide +kernel
theorem d_M_nextStep_36 : decode b_M_nextStep 36 = .ok (.aload_n 0, 1) := by decide +kernel
theorem d_M_nextStep_37 : decode b_M_nextStep 37 = .ok (.getfield 154, 3) := by decide +kernel
theorem d_M_nextStep_40 : decode b_M_nextStep 40 = .ok (.if_icmp .le 13, 3) := by decide +kernel
theorem d_M_nextStep_43 : decode b_M_nextStep 43 = .ok (.iload_n 2, 1) := by decide +kernel
theorem d_M_nextStep_44 : decode b_M_nextStep 44 = .ok (.bipush 99, 2) := by decide +kernel
theorem d_M_nextStep_46 : decode b_M_nextStep 46 = .ok (.if_icmp .ne 7, 3) := by decide +kernel
theorem d_M_nextStep_49 : decode b_M_nextStep 49 = .ok (.iconst 1, 1) := by decide +kernel
theorem d_M_nextStep_50 : decode b_M_nextStep 50 = .ok (.goto 4, 3) := by decide +kernel
theorem d_M_nextStep_53 : decode b_M_nextStep 53 = .ok (.iconst 0, 1) := by decide +kernel
theorem d_M_nextStep_54 : decode b_M_nextStep 54 = .ok (.istore 4, 2) := by decide +kernel
theorem d_M_nextStep_56 : decode b_M_nextStep 56 = .ok (.iload 4, 2) := by decide +kernel
theorem d_M_nextStep_58 : decode b_M_nextStep 58 = .ok (.ifCond .eq 7, 3) := by decide +kernel
theorem d_M_nextStep_61 : decode b_M_nextStep 61 = .ok (.iload_n 3, 1) := by decide +kernel
theorem d_M_nextStep_62 : decode b_M_nextStep 62 = .ok (.goto 4, 3) := by decide +kernel
theorem d_M_nextStep_65 : decode b_M_nextStep 65 = .ok (.iload_n 2, 1) := by decide +kernel
theorem d_M_nextStep_66 : decode b_M_nextStep 66 = .ok (.istore_n 2, 1) := by decide +kernel
theorem d_M_nextStep_67 : decode b_M_nextStep 67 = .ok (.iinc 3 1, 3) := by decide +kernel
theorem d_M_nextStep_70 : decode b_M_nextStep 70 = .ok (.goto (-64), 3) := by decide +kernel
theorem d_M_nextStep_73 : decode b_M_nextStep 73 = .ok (.iload_n 2, 1) := by decide +kernel
theorem d_M_nextStep_74 : decode b_M_nextStep 74 = .ok (.ireturn, 1) := by decide +kernel
theorem d_M_in_0 : decode b_M_in 0 = .ok (.iload_n 0, 1) := by decide +kernel
theorem d_M_in_1 : decode b_M_in 1 = .ok (.ifCond .eq 14, 3) := by decide +kernel
theorem d_M_in_4 : decode b_M_in 4 = .ok (.lload_n 3, 1) := by decide +kernel
theorem d_M_in_5 : decode b_M_in 5 = .ok (.lload_n 1, 1) := by decide +kernel
theorem d_M_in_6 : decode b_M_in 6 = .ok (.lload 5, 2) := by decide +kernel
theorem d_M_in_8 : decode b_M_in 8 = .ok (.iconst 1, 1) := by decide +kernel
theorem d_M_in_9 : decode b_M_in 9 = .ok (.invokestatic 105, 3) := by decide +kernel
theorem d_M_in_12 : decode b_M_in 12 = .ok (.goto 11, 3) := by decide +kernel
theorem d_M_in_15 : decode b_M_in 15 = .ok (.lload_n 1, 1) := by decide +kernel
theorem d_M_in_16 : decode b_M_in 16 = .ok (.lload_n 3, 1) := by decide +kernel
theorem d_M_in_17 : decode b_M_in 17 = .ok (.lload 5, 2) := by decide +kernel
theorem d_M_in_19 : decode b_M_in 19 = .ok (.iconst 1, 1) := by decide +kernel
theorem d_M_in_20 : decode b_M_in 20 = .ok (.invokestatic 109, 3) := by decide +kernel
theorem d_M_in_23 : decode b_M_in 23 = .ok (.lreturn, 1) := by decide +kernel
theorem d_M_goesOut_0 : decode b_M_goesOut 0 = .ok (.iload_n 0, 1) := by decide +kernel
theorem d_M_goesOut_1 : decode b_M_goesOut 1 = .ok (.ifCond .eq 14, 3) := by decide +kernel
theorem d_M_goesOut_4 : decode b_M_goesOut 4 = .ok (.lload_n 3, 1) := by decide +kernel
theorem d_M_goesOut_5 : decode b_M_goesOut 5 = .ok (.lload_n 1, 1) := by decide +kernel
theorem d_M_goesOut_6 : decode b_M_goesOut 6 = .ok (.lload 5, 2) := by decide +kernel
theorem d_M_goesOut_8 : decode b_M_goesOut 8 = .ok (.iconst 0, 1) := by decide +kernel
theorem d_M_goesOut_9 : decode b_M_goesOut 9 = .ok (.invokestatic 109, 3) := by decide +kernel
theorem d_M_goesOut_12 : decode b_M_goesOut 12 = .ok (.goto 11, 3) := by decide +kernel
theorem d_M_goesOut_15 : decode b_M_goesOut 15 = .ok (.lload_n 1, 1) := by decide +kernel
theorem d_M_goesOut_16 : decode b_M_goesOut 16 = .ok (.lload_n 3, 1) := by decide +kernel
theorem d_M_goesOut_17 : decode b_M_goesOut 17 = .ok (.lload 5, 2) := by decide +kernel
theorem d_M_goesOut_19 : decode b_M_goesOut 19 = .ok (.iconst 0, 1) := by decide +kernel
theorem d_M_goesOut_20 : decode b_M_goesOut 20 = .ok (.invokestatic 105, 3) := by decide +kernel
theorem d_M_goesOut_23 : decode b_M_goesOut 23 = .ok (.lreturn, 1) := by decide +kernel
theorem d_M_onTheWay_0 : decode b_M_onTheWay 0 = .ok (.lload_n 2, 1) := by decide +kernel
theorem d_M_onTheWay_1 : decode b_M_onTheWay 1 = .ok (.ldc2_w 58, 3) := by decide +kernel
theorem d_M_onTheWay_4 : decode b_M_onTheWay 4 = .ok (.lmul, 1) := by decide +kernel
theorem d_M_onTheWay_5 : decode b_M_onTheWay 5 = .ok (.lstore 8, 2) := by decide +kernel
theorem d_M_onTheWay_7 : decode b_M_onTheWay 7 = .ok (.aload_n 0, 1) := by decide +kernel
theorem d_M_onTheWay_8 : decode b_M_onTheWay 8 = .ok (.getfield 157, 3) := by decide +kernel
theorem d_M_onTheWay_11 : decode b_M_onTheWay 11 = .ok (.lconst 0, 1) := by decide +kernel
theorem d_M_onTheWay_12 : decode b_M_onTheWay 12 = .ok (.lcmp, 1) := by decide +kernel
theorem d_M_onTheWay_13 : decode b_M_onTheWay 13 = .ok (.ifCond .le 45, 3) := by decide +kernel
theorem d_M_onTheWay_16 : decode b_M_onTheWay 16 = .ok (.iload_n 1, 1) := by decide +kernel
theorem d_M_onTheWay_17 : decode b_M_onTheWay 17 = .ok (.ifCond .eq 27, 3) := by decide +kernel
theorem d_M_onTheWay_20 : decode b_M_onTheWay 20 = .ok (.lload 8, 2) := by decide +kernel
theorem d_M_onTheWay_22 : decode b_M_onTheWay 22 = .ok (.aload_n 0, 1) := by decide +kernel
theorem d_M_onTheWay_23 : decode b_M_onTheWay 23 = .ok (.getfield 160, 3) := by decide +kernel
theorem d_M_onTheWay_26 : decode b_M_onTheWay 26 = .ok (.lmul, 1) := by decide +kernel
theorem d_M_onTheWay_27 : decode b_M_onTheWay 27 = .ok (.lload 8, 2) := by decide +kernel
theorem d_M_onTheWay_29 : decode b_M_onTheWay 29 = .ok (.lload 4, 2) := by decide +kernel
theorem d_M_onTheWay_31 : decode b_M_onTheWay 31 = .ok (.aload_n 0, 1) := by decide +kernel
theorem d_M_onTheWay_32 : decode b_M_onTheWay 32 = .ok (.getfield 160, 3) := by decide +kernel
theorem d_M_onTheWay_35 : decode b_M_onTheWay 35 = .ok (.lmul, 1) := by decide +kernel
theorem d_M_onTheWay_36 : decode b_M_onTheWay 36 = .ok (.ladd, 1) := by decide +kernel
theorem d_M_onTheWay_37 : decode b_M_onTheWay 37 = .ok (.iconst 1, 1) := by decide +kernel
theorem d_M_onTheWay_38 : decode b_M_onTheWay 38 = .ok (.invokestatic 64, 3) := by decide +kernel
theorem d_M_onTheWay_41 : decode b_M_onTheWay 41 = .ok (.goto 16, 3) := by decide +kernel
theorem d_M_onTheWay_44 : decode b_M_onTheWay 44 = .ok (.aload_n 0, 1) := by decide +kernel
theorem d_M_onTheWay_45 : decode b_M_onTheWay 45 = .ok (.getfield 160, 3) := by decide +kernel
theorem d_M_onTheWay_48 : decode b_M_onTheWay 48 = .ok (.lload 4, 2) := by decide +kernel
theorem d_M_onTheWay_50 : decode b_M_onTheWay 50 = .ok (.ldc2_w 58, 3) := by decide +kernel
theorem d_M_onTheWay_53 : decode b_M_onTheWay 53 = .ok (.lmul, 1) := by decide +kernel
theorem d_M_onTheWay_54 : decode b_M_onTheWay 54 = .ok (.lload_n 2, 1) := by decide +kernel
theorem d_M_onTheWay_55 : decode b_M_onTheWay 55 = .ok (.ldiv, 1) := by decide +kernel
theorem d_M_onTheWay_56 : decode b_M_onTheWay 56 = .ok (.ladd, 1) := by decide +kernel
theorem d_M_onTheWay_57 : decode b_M_onTheWay 57 = .ok (.lreturn, 1) := by decide +kernel
theorem d_M_onTheWay_58 : decode b_M_onTheWay 58 = .ok (.iload_n 1, 1) := by decide +kernel
theorem d_M_onTheWay_59 : decode b_M_onTheWay 59 = .ok (.ifCond .eq 22, 3) := by decide +kernel
theorem d_M_onTheWay_62 : decode b_M_onTheWay 62 = .ok (.aload_n 0, 1) := by decide +kernel
theorem d_M_onTheWay_63 : decode b_M_onTheWay 63 = .ok (.getfield 160, 3) := by decide +kernel
theorem d_M_onTheWay_66 : decode b_M_onTheWay 66 = .ok (.lload 6, 2) := by decide +kernel
theorem d_M_onTheWay_68 : decode b_M_onTheWay 68 = .ok (.ldc2_w 58, 3) := by decide +kernel
theorem d_M_onTheWay_71 : decode b_M_onTheWay 71 = .ok (.lmul, 1) := by decide +kernel
theorem d_M_onTheWay_72 : decode b_M_onTheWay 72 = .ok (.lload_n 2, 1) := by decide +kernel
theorem d_M_onTheWay_73 : decode b_M_onTheWay 73 = .ok (.iconst 1, 1) := by decide +kernel
theorem d_M_onTheWay_74 : decode b_M_onTheWay 74 = .ok (.invokestatic 64, 3) := by decide +kernel
theorem d_M_onTheWay_77 : decode b_M_onTheWay 77 = .ok (.lsub, 1) := by decide +kernel
theorem d_M_onTheWay_78 : decode b_M_onTheWay 78 = .ok (.goto 24, 3) := by decide +kernel
theorem d_M_onTheWay_81 : decode b_M_onTheWay 81 = .ok (.lload 8, 2) := by decide +kernel
theorem d_M_onTheWay_83 : decode b_M_onTheWay 83 = .ok (.aload_n 0, 1) := by decide +kernel
theorem d_M_onTheWay_84 : decode b_M_onTheWay 84 = .ok (.getfield 160, 3) := by decide +kernel
theorem d_M_onTheWay_87 : decode b_M_onTheWay 87 = .ok (.lmul, 1) := by decide +kernel
theorem d_M_onTheWay_88 : decode b_M_onTheWay 88 = .ok (.lload 8, 2) := by decide +kernel
theorem d_M_onTheWay_90 : decode b_M_onTheWay 90 = .ok (.lload 6, 2) := by decide +kernel
theorem d_M_onTheWay_92 : decode b_M_onTheWay 92 = .ok (.aload_n 0, 1) := by decide +kernel
theorem d_M_onTheWay_93 : decode b_M_onTheWay 93 = .ok (.getfield 160, 3) := by decide +kernel
theorem d_M_onTheWay_96 : decode b_M_onTheWay 96 = .ok (.lmul, 1) := by decide +kernel
theorem d_M_onTheWay_97 : decode b_M_onTheWay 97 = .ok (.lsub, 1) := by decide +kernel
theorem d_M_onTheWay_98 : decode b_M_onTheWay 98 = .ok (.iconst 1, 1) := by decide +kernel
theorem d_M_onTheWay_99 : decode b_M_onTheWay 99 = .ok (.invokestatic 64, 3) := by decide +kernel
theorem d_M_onTheWay_102 : decode b_M_onTheWay 102 = .ok (.lreturn, 1) := by decide +kernel
theorem d_M_leg_0 : decode b_M_leg 0 = .ok (.aload_n 0, 1) := by decide +kernel
theorem d_M_leg_1 : decode b_M_leg 1 = .ok (.iload_n 1, 1) := by decide +kernel
theorem d_M_leg_2 : decode b_M_leg 2 = .ok (.invokevirtual 163, 3) := by decide +kernel
theorem d_M_leg_5 : decode b_M_leg 5 = .ok (.istore 4, 2) := by decide +kernel
theorem d_M_leg_7 : decode b_M_leg 7 = .ok (.iload 4, 2) := by decide +kernel
theorem d_M_leg_9 : decode b_M_leg 9 = .ok (.bipush 99, 2) := by decide +kernel
theorem d_M_leg_11 : decode b_M_leg 11 = .ok (.if_icmp .ne 7, 3) := by decide +kernel
theorem d_M_leg_14 : decode b_M_leg 14 = .ok (.lload_n 2, 1) := by decide +kernel
theorem d_M_leg_15 : decode b_M_leg 15 = .ok (.goto 52, 3) := by decide +kernel
theorem d_M_leg_18 : decode b_M_leg 18 = .ok (.iload_n 1, 1) := by decide +kernel
theorem d_M_leg_19 : decode b_M_leg 19 = .ok (.ifCond .eq 27, 3) := by decide +kernel
theorem d_M_leg_22 : decode b_M_leg 22 = .ok (.aload_n 0, 1) := by decide +kernel
theorem d_M_leg_23 : decode b_M_leg 23 = .ok (.iload 4, 2) := by decide +kernel
theorem d_M_leg_25 : decode b_M_leg 25 = .ok (.invokevirtual 89, 3) := by decide +kernel
theorem d_M_leg_28 : decode b_M_leg 28 = .ok (.lload_n 2, 1) := by decide +kernel
theorem d_M_leg_29 : decode b_M_leg 29 = .ok (.lcmp, 1) := by decide +kernel
theorem d_M_leg_30 : decode b_M_leg 30 = .ok (.ifCond .le 12, 3) := by decide +kernel
theorem d_M_leg_33 : decode b_M_leg 33 = .ok (.aload_n 0, 1) := by decide +kernel
theorem d_M_leg_34 : decode b_M_leg 34 = .ok (.iload 4, 2) := by decide +kernel
theorem d_M_leg_36 : decode b_M_leg 36 = .ok (.invokevirtual 89, 3) := by decide +kernel
theorem d_M_leg_39 : decode b_M_leg 39 = .ok (.goto 28, 3) := by decide +kernel
theorem d_M_leg_42 : decode b_M_leg 42 = .ok (.lload_n 2, 1) := by decide +kernel
theorem d_M_leg_43 : decode b_M_leg 43 = .ok (.goto 24, 3) := by decide +kernel
theorem d_M_leg_46 : decode b_M_leg 46 = .ok (.aload_n 0, 1) := by decide +kernel
theorem d_M_leg_47 : decode b_M_leg 47 = .ok (.iload 4, 2) := by decide +kernel
theorem d_M_leg_49 : decode b_M_leg 49 = .ok (.invokevirtual 89, 3) := by decide +kernel
theorem d_M_leg_52 : decode b_M_leg 52 = .ok (.lload_n 2, 1) := by decide +kernel
theorem d_M_leg_53 : decode b_M_leg 53 = .ok (.lcmp, 1) := by decide +kernel
theorem d_M_leg_54 : decode b_M_leg 54 = .ok (.ifCond .ge 12, 3) := by decide +kernel
theorem d_M_leg_57 : decode b_M_leg 57 = .ok (.aload_n 0, 1) := by decide +kernel
theorem d_M_leg_58 : decode b_M_leg 58 = .ok (.iload 4, 2) := by decide +kernel
theorem d_M_leg_60 : decode b_M_leg 60 = .ok (.invokevirtual 89, 3) := by decide +kernel
theorem d_M_leg_63 : decode b_M_leg 63 = .ok (.goto 4, 3) := by decide +kernel
theorem d_M_leg_66 : decode b_M_leg 66 = .ok (.lload_n 2, 1) := by decide +kernel
theorem d_M_leg_67 : decode b_M_leg 67 = .ok (.lstore 5, 2) := by decide +kernel
theorem d_M_leg_69 : decode b_M_leg 69 = .ok (.aload_n 0, 1) := by decide +kernel
theorem d_M_leg_70 : decode b_M_leg 70 = .ok (.aload_n 0, 1) := by decide +kernel
theorem d_M_leg_71 : decode b_M_leg 71 = .ok (.getfield 154, 3) := by decide +kernel
theorem d_M_leg_74 : decode b_M_leg 74 = .ok (.invokevirtual 167, 3) := by decide +kernel
theorem d_M_leg_77 : decode b_M_leg 77 = .ok (.lstore 7, 2) := by decide +kernel
theorem d_M_leg_79 : decode b_M_leg 79 = .ok (.aload_n 0, 1) := by decide +kernel
theorem d_M_leg_80 : decode b_M_leg 80 = .ok (.getfield 157, 3) := by decide +kernel
theorem d_M_leg_83 : decode b_M_leg 83 = .ok (.lconst 0, 1) := by decide +kernel
theorem d_M_leg_84 : decode b_M_leg 84 = .ok (.lcmp, 1) := by decide +kernel
theorem d_M_leg_85 : decode b_M_leg 85 = .ok (.ifCond .le 24, 3) := by decide +kernel
theorem d_M_leg_88 : decode b_M_leg 88 = .ok (.aload_n 0, 1) := by decide +kernel
theorem d_M_leg_89 : decode b_M_leg 89 = .ok (.getfield 157, 3) := by decide +kernel
theorem d_M_leg_92 : decode b_M_leg 92 = .ok (.ldc2_w 62, 3) := by decide +kernel
theorem d_M_leg_95 : decode b_M_leg 95 = .ok (.aload_n 0, 1) := by decide +kernel
theorem d_M_leg_96 : decode b_M_leg 96 = .ok (.getfield 55, 3) := by decide +kernel
theorem d_M_leg_99 : decode b_M_leg 99 = .ok (.i2l, 1) := by decide +kernel
theorem d_M_leg_100 : decode b_M_leg 100 = .ok (.lsub, 1) := by decide +kernel
theorem d_M_leg_101 : decode b_M_leg 101 = .ok (.lmul, 1) := by decide +kernel
theorem d_M_leg_102 : decode b_M_leg 102 = .ok (.ldc2_w 62, 3) := by decide +kernel
theorem d_M_leg_105 : decode b_M_leg 105 = .ok (.ldiv, 1) := by decide +kernel
theorem d_M_leg_106 : decode b_M_leg 106 = .ok (.goto 4, 3) := by decide +kernel
theorem d_M_leg_109 : decode b_M_leg 109 = .ok (.lconst 0, 1) := by decide +kernel
theorem d_M_leg_110 : decode b_M_leg 110 = .ok (.lstore 9, 2) := by decide +kernel
theorem d_M_leg_112 : decode b_M_leg 112 = .ok (.aload_n 0, 1) := by decide +kernel
theorem d_M_leg_113 : decode b_M_leg 113 = .ok (.getfield 157, 3) := by decide +kernel
theorem d_M_leg_116 : decode b_M_leg 116 = .ok (.lconst 0, 1) := by decide +kernel
theorem d_M_leg_117 : decode b_M_leg 117 = .ok (.lcmp, 1) := by decide +kernel
theorem d_M_leg_118 : decode b_M_leg 118 = .ok (.ifCond .ge 11, 3) := by decide +kernel
theorem d_M_leg_121 : decode b_M_leg 121 = .ok (.aload_n 0, 1) := by decide +kernel
theorem d_M_leg_122 : decode b_M_leg 122 = .ok (.getfield 157, 3) := by decide +kernel
theorem d_M_leg_125 : decode b_M_leg 125 = .ok (.lneg, 1) := by decide +kernel
theorem d_M_leg_126 : decode b_M_leg 126 = .ok (.goto 4, 3) := by decide +kernel
theorem d_M_leg_129 : decode b_M_leg 129 = .ok (.lconst 0, 1) := by decide +kernel
theorem d_M_leg_130 : decode b_M_leg 130 = .ok (.lstore 11, 2) := by decide +kernel
theorem d_M_leg_132 : decode b_M_leg 132 = .ok (.aload_n 0, 1) := by decide +kernel
theorem d_M_leg_133 : decode b_M_leg 133 = .ok (.getfield 157, 3) := by decide +kernel
theorem d_M_leg_136 : decode b_M_leg 136 = .ok (.lconst 0, 1) := by decide +kernel
theorem d_M_leg_137 : decode b_M_leg 137 = .ok (.lcmp, 1) := by decide +kernel
theorem d_M_leg_138 : decode b_M_leg 138 = .ok (.ifCond .le 29, 3) := by decide +kernel
theorem d_M_leg_141 : decode b_M_leg 141 = .ok (.lload 9, 2) := by decide +kernel
theorem d_M_leg_143 : decode b_M_leg 143 = .ok (.iload_n 1, 1) := by decide +kernel
theorem d_M_leg_144 : decode b_M_leg 144 = .ok (.aload_n 0, 1) := by decide +kernel
theorem d_M_leg_145 : decode b_M_leg 145 = .ok (.getfield 160, 3) := by decide +kernel
theorem d_M_leg_148 : decode b_M_leg 148 = .ok (.lload 5, 2) := by decide +kernel
theorem d_M_leg_150 : decode b_M_leg 150 = .ok (.lload 7, 2) := by decide +kernel
theorem d_M_leg_152 : decode b_M_leg 152 = .ok (.invokestatic 170, 3) := by decide +kernel
theorem d_M_leg_155 : decode b_M_leg 155 = .ok (.lcmp, 1) := by decide +kernel
theorem d_M_leg_156 : decode b_M_leg 156 = .ok (.ifCond .lt 7, 3) := by decide +kernel
theorem d_M_leg_159 : decode b_M_leg 159 = .ok (.iconst 1, 1) := by decide +kernel
theorem d_M_leg_160 : decode b_M_leg 160 = .ok (.goto 30, 3) := by decide +kernel
theorem d_M_leg_163 : decode b_M_leg 163 = .ok (.iconst 0, 1) := by decide +kernel
theorem d_M_leg_164 : decode b_M_leg 164 = .ok (.goto 26, 3) := by decide +kernel
theorem d_M_leg_167 : decode b_M_leg 167 = .ok (.lload 11, 2) := by decide +kernel
theorem d_M_leg_169 : decode b_M_leg 169 = .ok (.iload_n 1, 1) := by decide +kernel
theorem d_M_leg_170 : decode b_M_leg 170 = .ok (.aload_n 0, 1) := by decide +kernel
theorem d_M_leg_171 : decode b_M_leg 171 = .ok (.getfield 160, 3) := by decide +kernel
theorem d_M_leg_174 : decode b_M_leg 174 = .ok (.lload 5, 2) := by decide +kernel
theorem d_M_leg_176 : decode b_M_leg 176 = .ok (.lload 7, 2) := by decide +kernel
theorem d_M_leg_178 : decode b_M_leg 178 = .ok (.invokestatic 174, 3) := by decide +kernel
theorem d_M_leg_181 : decode b_M_leg 181 = .ok (.lcmp, 1) := by decide +kernel
theorem d_M_leg_182 : decode b_M_leg 182 = .ok (.ifCond .lt 7, 3) := by decide +kernel
theorem d_M_leg_185 : decode b_M_leg 185 = .ok (.iconst 1, 1) := by decide +kernel
theorem d_M_leg_186 : decode b_M_leg 186 = .ok (.goto 4, 3) := by decide +kernel
theorem d_M_leg_189 : decode b_M_leg 189 = .ok (.iconst 0, 1) := by decide +kernel
theorem d_M_leg_190 : decode b_M_leg 190 = .ok (.istore 13, 2) := by decide +kernel
theorem d_M_leg_192 : decode b_M_leg 192 = .ok (.iload 13, 2) := by decide +kernel
theorem d_M_leg_194 : decode b_M_leg 194 = .ok (.ifCond .eq 8, 3) := by decide +kernel
theorem d_M_leg_197 : decode b_M_leg 197 = .ok (.lload 5, 2) := by decide +kernel
theorem d_M_leg_199 : decode b_M_leg 199 = .ok (.goto 14, 3) := by decide +kernel
theorem d_M_leg_202 : decode b_M_leg 202 = .ok (.aload_n 0, 1) := by decide +kernel
theorem d_M_leg_203 : decode b_M_leg 203 = .ok (.iload_n 1, 1) := by decide +kernel
theorem d_M_leg_204 : decode b_M_leg 204 = .ok (.lload 7, 2) := by decide +kernel
theorem d_M_leg_206 : decode b_M_leg 206 = .ok (.lload 9, 2) := by decide +kernel
theorem d_M_leg_208 : decode b_M_leg 208 = .ok (.lload 11, 2) := by decide +kernel
theorem d_M_leg_210 : decode b_M_leg 210 = .ok (.invokevirtual 177, 3) := by decide +kernel
theorem d_M_leg_213 : decode b_M_leg 213 = .ok (.lstore 14, 2) := by decide +kernel
theorem d_M_leg_215 : decode b_M_leg 215 = .ok (.iload_n 1, 1) := by decide +kernel
theorem d_M_leg_216 : decode b_M_leg 216 = .ok (.aload_n 0, 1) := by decide +kernel
theorem d_M_leg_217 : decode b_M_leg 217 = .ok (.getfield 160, 3) := by decide +kernel
theorem d_M_leg_220 : decode b_M_leg 220 = .ok (.lload 14, 2) := by decide +kernel
theorem d_M_leg_222 : decode b_M_leg 222 = .ok (.lload 7, 2) := by decide +kernel
theorem d_M_leg_224 : decode b_M_leg 224 = .ok (.invokestatic 170, 3) := by decide +kernel
theorem d_M_leg_227 : decode b_M_leg 227 = .ok (.lstore 16, 2) := by decide +kernel
theorem d_M_leg_229 : decode b_M_leg 229 = .ok (.iload_n 1, 1) := by decide +kernel
theorem d_M_leg_230 : decode b_M_leg 230 = .ok (.aload_n 0, 1) := by decide +kernel
theorem d_M_leg_231 : decode b_M_leg 231 = .ok (.getfield 160, 3) := by decide +kernel
theorem d_M_leg_234 : decode b_M_leg 234 = .ok (.lload 14, 2) := by decide +kernel
theorem d_M_leg_236 : decode b_M_leg 236 = .ok (.lload 7, 2) := by decide +kernel
theorem d_M_leg_238 : decode b_M_leg 238 = .ok (.invokestatic 174, 3) := by decide +kernel
theorem d_M_leg_241 : decode b_M_leg 241 = .ok (.lstore 18, 2) := by decide +kernel
theorem d_M_leg_243 : decode b_M_leg 243 = .ok (.aload_n 0, 1) := by decide +kernel
theorem d_M_leg_244 : decode b_M_leg 244 = .ok (.getfield 157, 3) := by decide +kernel
theorem d_M_leg_247 : decode b_M_leg 247 = .ok (.lconst 0, 1) := by decide +kernel
theorem d_M_leg_248 : decode b_M_leg 248 = .ok (.lcmp, 1) := by decide +kernel
theorem d_M_leg_249 : decode b_M_leg 249 = .ok (.ifCond .ge 16, 3) := by decide +kernel
theorem d_M_leg_252 : decode b_M_leg 252 = .ok (.lload 18, 2) := by decide +kernel
theorem d_M_leg_254 : decode b_M_leg 254 = .ok (.lload 11, 2) := by decide +kernel
theorem d_M_leg_256 : decode b_M_leg 256 = .ok (.lcmp, 1) := by decide +kernel
theorem d_M_leg_257 : decode b_M_leg 257 = .ok (.ifCond .le 8, 3) := by decide +kernel
theorem d_M_leg_260 : decode b_M_leg 260 = .ok (.lload 11, 2) := by decide +kernel
theorem d_M_leg_262 : decode b_M_leg 262 = .ok (.goto 5, 3) := by decide +kernel
theorem d_M_leg_265 : decode b_M_leg 265 = .ok (.lload 18, 2) := by decide +kernel
theorem d_M_leg_267 : decode b_M_leg 267 = .ok (.lstore 18, 2) := by decide +kernel
theorem d_M_leg_269 : decode b_M_leg 269 = .ok (.aload_n 0, 1) := by decide +kernel
theorem d_M_leg_270 : decode b_M_leg 270 = .ok (.getfield 157, 3) := by decide +kernel
theorem d_M_leg_273 : decode b_M_leg 273 = .ok (.lconst 0, 1) := by decide +kernel
theorem d_M_leg_274 : decode b_M_leg 274 = .ok (.lcmp, 1) := by decide +kernel
theorem d_M_leg_275 : decode b_M_leg 275 = .ok (.ifCond .le 21, 3) := by decide +kernel
theorem d_M_leg_278 : decode b_M_leg 278 = .ok (.lload 14, 2) := by decide +kernel
theorem d_M_leg_280 : decode b_M_leg 280 = .ok (.lload 5, 2) := by decide +kernel
theorem d_M_leg_282 : decode b_M_leg 282 = .ok (.lcmp, 1) := by decide +kernel
theorem d_M_leg_283 : decode b_M_leg 283 = .ok (.ifCond .eq 13, 3) := by decide +kernel
theorem d_M_leg_286 : decode b_M_leg 286 = .ok (.aload_n 0, 1) := by decide +kernel
theorem d_M_leg_287 : decode b_M_leg 287 = .ok (.getfield 157, 3) := by decide +kernel
theorem d_M_leg_290 : decode b_M_leg 290 = .ok (.lload 16, 2) := by decide +kernel
theorem d_M_leg_292 : decode b_M_leg 292 = .ok (.lsub, 1) := by decide +kernel
theorem d_M_leg_293 : decode b_M_leg 293 = .ok (.goto 24, 3) := by decide +kernel
theorem d_M_leg_296 : decode b_M_leg 296 = .ok (.lload 16, 2) := by decide +kernel
theorem d_M_leg_298 : decode b_M_leg 298 = .ok (.aload_n 0, 1) := by decide +kernel
theorem d_M_leg_299 : decode b_M_leg 299 = .ok (.getfield 55, 3) := by decide +kernel
theorem d_M_leg_302 : decode b_M_leg 302 = .ok (.i2l, 1) := by decide +kernel
theorem d_M_leg_303 : decode b_M_leg 303 = .ok (.lmul, 1) := by decide +kernel
theorem d_M_leg_304 : decode b_M_leg 304 = .ok (.ldc2_w 62, 3) := by decide +kernel
theorem d_M_leg_307 : decode b_M_leg 307 = .ok (.aload_n 0, 1) := by decide +kernel
theorem d_M_leg_308 : decode b_M_leg 308 = .ok (.getfield 55, 3) := by decide +kernel
theorem d_M_leg_311 : decode b_M_leg 311 = .ok (.i2l, 1) := by decide +kernel
theorem d_M_leg_312 : decode b_M_leg 312 = .ok (.lsub, 1) := by decide +kernel
theorem d_M_leg_313 : decode b_M_leg 313 = .ok (.iconst 1, 1) := by decide +kernel
theorem d_M_leg_314 : decode b_M_leg 314 = .ok (.invokestatic 64, 3) := by decide +kernel
theorem d_M_leg_317 : decode b_M_leg 317 = .ok (.lstore 20, 2) := by decide +kernel
theorem d_M_leg_319 : decode b_M_leg 319 = .ok (.aload_n 0, 1) := by decide +kernel
theorem d_M_leg_320 : decode b_M_leg 320 = .ok (.dup, 1) := by decide +kernel
theorem d_M_leg_321 : decode b_M_leg 321 = .ok (.getfield 180, 3) := by decide +kernel
theorem d_M_leg_324 : decode b_M_leg 324 = .ok (.lload 16, 2) := by decide +kernel
theorem d_M_leg_326 : decode b_M_leg 326 = .ok (.lload 20, 2) := by decide +kernel
theorem d_M_leg_328 : decode b_M_leg 328 = .ok (.ladd, 1) := by decide +kernel
theorem d_M_leg_329 : decode b_M_leg 329 = .ok (.ladd, 1) := by decide +kernel
theorem d_M_leg_330 : decode b_M_leg 330 = .ok (.putfield 180, 3) := by decide +kernel
theorem d_M_leg_333 : decode b_M_leg 333 = .ok (.aload_n 0, 1) := by decide +kernel
theorem d_M_leg_334 : decode b_M_leg 334 = .ok (.dup, 1) := by decide +kernel
theorem d_M_leg_335 : decode b_M_leg 335 = .ok (.getfield 183, 3) := by decide +kernel
theorem d_M_leg_338 : decode b_M_leg 338 = .ok (.lload 18, 2) := by decide +kernel
theorem d_M_leg_340 : decode b_M_leg 340 = .ok (.ladd, 1) := by decide +kernel
theorem d_M_leg_341 : decode b_M_leg 341 = .ok (.putfield 183, 3) := by decide +kernel
theorem d_M_leg_344 : decode b_M_leg 344 = .ok (.aload_n 0, 1) := by decide +kernel
theorem d_M_leg_345 : decode b_M_leg 345 = .ok (.aload_n 0, 1) := by decide +kernel
theorem d_M_leg_346 : decode b_M_leg 346 = .ok (.getfield 157, 3) := by decide +kernel
theorem d_M_leg_349 : decode b_M_leg 349 = .ok (.lconst 0, 1) := by decide +kernel
theorem d_M_leg_350 : decode b_M_leg 350 = .ok (.lcmp, 1) := by decide +kernel
theorem d_M_leg_351 : decode b_M_leg 351 = .ok (.ifCond .le 16, 3) := by decide +kernel
theorem d_M_leg_354 : decode b_M_leg 354 = .ok (.aload_n 0, 1) := by decide +kernel
theorem d_M_leg_355 : decode b_M_leg 355 = .ok (.getfield 157, 3) := by decide +kernel
theorem d_M_leg_358 : decode b_M_leg 358 = .ok (.lload 16, 2) := by decide +kernel
theorem d_M_leg_360 : decode b_M_leg 360 = .ok (.lsub, 1) := by decide +kernel
theorem d_M_leg_361 : decode b_M_leg 361 = .ok (.lload 20, 2) := by decide +kernel
theorem d_M_leg_363 : decode b_M_leg 363 = .ok (.lsub, 1) := by decide +kernel
theorem d_M_leg_364 : decode b_M_leg 364 = .ok (.goto 10, 3) := by decide +kernel
theorem d_M_leg_367 : decode b_M_leg 367 = .ok (.aload_n 0, 1) := by decide +kernel
theorem d_M_leg_368 : decode b_M_leg 368 = .ok (.getfield 157, 3) := by decide +kernel
theorem d_M_leg_371 : decode b_M_leg 371 = .ok (.lload 18, 2) := by decide +kernel
theorem d_M_leg_373 : decode b_M_leg 373 = .ok (.ladd, 1) := by decide +kernel
theorem d_M_leg_374 : decode b_M_leg 374 = .ok (.putfield 157, 3) := by decide +kernel
theorem d_M_leg_377 : decode b_M_leg 377 = .ok (.iconst 0, 1) := by decide +kernel
theorem d_M_leg_378 : decode b_M_leg 378 = .ok (.istore 22, 2) := by decide +kernel
theorem d_M_leg_380 : decode b_M_leg 380 = .ok (.iload 22, 2) := by decide +kernel
theorem d_M_leg_382 : decode b_M_leg 382 = .ok (.bipush 10, 2) := by decide +kernel
theorem d_M_leg_384 : decode b_M_leg 384 = .ok (.if_icmp .ge 77, 3) := by decide +kernel
theorem d_M_leg_387 : decode b_M_leg 387 = .ok (.lload 7, 2) := by decide +kernel
theorem d_M_leg_389 : decode b_M_leg 389 = .ok (.lconst 0, 1) := by decide +kernel
theorem d_M_leg_390 : decode b_M_leg 390 = .ok (.lcmp, 1) := by decide +kernel
theorem d_M_leg_391 : decode b_M_leg 391 = .ok (.ifCond .le 70, 3) := by decide +kernel
theorem d_M_leg_394 : decode b_M_leg 394 = .ok (.aload_n 0, 1) := by decide +kernel
theorem d_M_leg_395 : decode b_M_leg 395 = .ok (.getfield 48, 3) := by decide +kernel
theorem d_M_leg_398 : decode b_M_leg 398 = .ok (.iload 22, 2) := by decide +kernel
theorem d_M_leg_400 : decode b_M_leg 400 = .ok (.dup2, 1) := by decide +kernel
theorem d_M_leg_401 : decode b_M_leg 401 = .ok (.laload, 1) := by decide +kernel
theorem d_M_leg_402 : decode b_M_leg 402 = .ok (.aload_n 0, 1) := by decide +kernel
theorem d_M_leg_403 : decode b_M_leg 403 = .ok (.getfield 19, 3) := by decide +kernel
theorem d_M_leg_406 : decode b_M_leg 406 = .ok (.iload 22, 2) := by decide +kernel
theorem d_M_leg_408 : decode b_M_leg 408 = .ok (.baload, 1) := by decide +kernel
theorem d_M_leg_409 : decode b_M_leg 409 = .ok (.ifCond .eq 43, 3) := by decide +kernel
theorem d_M_leg_412 : decode b_M_leg 412 = .ok (.aload_n 0, 1) := by decide +kernel
theorem d_M_leg_413 : decode b_M_leg 413 = .ok (.getfield 27, 3) := by decide +kernel
theorem d_M_leg_416 : decode b_M_leg 416 = .ok (.iload 22, 2) := by decide +kernel
theorem d_M_leg_418 : decode b_M_leg 418 = .ok (.iaload, 1) := by decide +kernel
theorem d_M_leg_419 : decode b_M_leg 419 = .ok (.aload_n 0, 1) := by decide +kernel
theorem d_M_leg_420 : decode b_M_leg 420 = .ok (.getfield 154, 3) := by decide +kernel
theorem d_M_leg_423 : decode b_M_leg 423 = .ok (.if_icmp .gt 29, 3) := by decide +kernel
theorem d_M_leg_426 : decode b_M_leg 426 = .ok (.aload_n 0, 1) := by decide +kernel
theorem d_M_leg_427 : decode b_M_leg 427 = .ok (.getfield 154, 3) := by decide +kernel
theorem d_M_leg_430 : decode b_M_leg 430 = .ok (.aload_n 0, 1) := by decide +kernel
theorem d_M_leg_431 : decode b_M_leg 431 = .ok (.getfield 30, 3) := by decide +kernel
theorem d_M_leg_434 : decode b_M_leg 434 = .ok (.iload 22, 2) := by decide +kernel
theorem d_M_leg_436 : decode b_M_leg 436 = .ok (.iaload, 1) := by decide +kernel
theorem d_M_leg_437 : decode b_M_leg 437 = .ok (.if_icmp .ge 15, 3) := by decide +kernel
theorem d_M_leg_440 : decode b_M_leg 440 = .ok (.lload 20, 2) := by decide +kernel
theorem d_M_leg_442 : decode b_M_leg 442 = .ok (.ldc2_w 103, 3) := by decide +kernel
theorem d_M_leg_445 : decode b_M_leg 445 = .ok (.lmul, 1) := by decide +kernel
theorem d_M_leg_446 : decode b_M_leg 446 = .ok (.lload 7, 2) := by decide +kernel
theorem d_M_leg_448 : decode b_M_leg 448 = .ok (.ldiv, 1) := by decide +kernel
theorem d_M_leg_449 : decode b_M_leg 449 = .ok (.goto 4, 3) := by decide +kernel
theorem d_M_leg_452 : decode b_M_leg 452 = .ok (.lconst 0, 1) := by decide +kernel
theorem d_M_leg_453 : decode b_M_leg 453 = .ok (.ladd, 1) := by decide +kernel
theorem d_M_leg_454 : decode b_M_leg 454 = .ok (.lastore, 1) := by decide +kernel
theorem d_M_leg_455 : decode b_M_leg 455 = .ok (.iinc 22 1, 3) := by decide +kernel
theorem d_M_leg_458 : decode b_M_leg 458 = .ok (.goto (-78), 3) := by decide +kernel
theorem d_M_leg_461 : decode b_M_leg 461 = .ok (.lload 14, 2) := by decide +kernel
theorem d_M_leg_463 : decode b_M_leg 463 = .ok (.aload_n 0, 1) := by decide +kernel
theorem d_M_leg_464 : decode b_M_leg 464 = .ok (.getfield 160, 3) := by decide +kernel
theorem d_M_leg_467 : decode b_M_leg 467 = .ok (.lcmp, 1) := by decide +kernel
theorem d_M_leg_468 : decode b_M_leg 468 = .ok (.ifCond .eq 7, 3) := by decide +kernel
theorem d_M_leg_471 : decode b_M_leg 471 = .ok (.iconst 1, 1) := by decide +kernel
theorem d_M_leg_472 : decode b_M_leg 472 = .ok (.goto 4, 3) := by decide +kernel
theorem d_M_leg_475 : decode b_M_leg 475 = .ok (.iconst 0, 1) := by decide +kernel
theorem d_M_leg_476 : decode b_M_leg 476 = .ok (.istore 22, 2) := by decide +kernel
theorem d_M_leg_478 : decode b_M_leg 478 = .ok (.aload_n 0, 1) := by decide +kernel
theorem d_M_leg_479 : decode b_M_leg 479 = .ok (.lload 14, 2) := by decide +kernel
theorem d_M_leg_481 : decode b_M_leg 481 = .ok (.putfield 160, 3) := by decide +kernel
theorem d_M_leg_484 : decode b_M_leg 484 = .ok (.iload 4, 2) := by decide +kernel
theorem d_M_leg_486 : decode b_M_leg 486 = .ok (.bipush 99, 2) := by decide +kernel
theorem d_M_leg_488 : decode b_M_leg 488 = .ok (.if_icmp .eq 35, 3) := by decide +kernel
theorem d_M_leg_491 : decode b_M_leg 491 = .ok (.lload 14, 2) := by decide +kernel
theorem d_M_leg_493 : decode b_M_leg 493 = .ok (.aload_n 0, 1) := by decide +kernel
theorem d_M_leg_494 : decode b_M_leg 494 = .ok (.iload 4, 2) := by decide +kernel
theorem d_M_leg_496 : decode b_M_leg 496 = .ok (.invokevirtual 89, 3) := by decide +kernel
theorem d_M_leg_499 : decode b_M_leg 499 = .ok (.lcmp, 1) := by decide +kernel
theorem d_M_leg_500 : decode b_M_leg 500 = .ok (.ifCond .ne 23, 3) := by decide +kernel
theorem d_M_leg_503 : decode b_M_leg 503 = .ok (.aload_n 0, 1) := by decide +kernel
theorem d_M_leg_504 : decode b_M_leg 504 = .ok (.iload_n 1, 1) := by decide +kernel
theorem d_M_leg_505 : decode b_M_leg 505 = .ok (.ifCond .eq 10, 3) := by decide +kernel
theorem d_M_leg_508 : decode b_M_leg 508 = .ok (.iload 4, 2) := by decide +kernel
theorem d_M_leg_510 : decode b_M_leg 510 = .ok (.iconst 1, 1) := by decide +kernel
theorem d_M_leg_511 : decode b_M_leg 511 = .ok (.isub, 1) := by decide +kernel
theorem d_M_leg_512 : decode b_M_leg 512 = .ok (.goto 5, 3) := by decide +kernel
theorem d_M_leg_515 : decode b_M_leg 515 = .ok (.iload 4, 2) := by decide +kernel
theorem d_M_leg_517 : decode b_M_leg 517 = .ok (.putfield 154, 3) := by decide +kernel
theorem d_M_leg_520 : decode b_M_leg 520 = .ok (.goto 56, 3) := by decide +kernel
theorem d_M_leg_523 : decode b_M_leg 523 = .ok (.iload 22, 2) := by decide +kernel
theorem d_M_leg_525 : decode b_M_leg 525 = .ok (.ifCond .eq 51, 3) := by decide +kernel
theorem d_M_leg_528 : decode b_M_leg 528 = .ok (.aload_n 0, 1) := by decide +kernel
theorem d_M_leg_529 : decode b_M_leg 529 = .ok (.bipush (-24), 2) := by decide +kernel
theorem d_M_leg_531 : decode b_M_leg 531 = .ok (.putfield 154, 3) := by decide +kernel
theorem d_M_leg_534 : decode b_M_leg 534 = .ok (.bipush (-24), 2) := by decide +kernel
theorem d_M_leg_536 : decode b_M_leg 536 = .ok (.istore 23, 2) := by decide +kernel
theorem d_M_leg_538 : decode b_M_leg 538 = .ok (.iload 23, 2) := by decide +kernel
theorem d_M_leg_540 : decode b_M_leg 540 = .ok (.bipush 24, 2) := by decide +kernel
theorem d_M_leg_542 : decode b_M_leg 542 = .ok (.if_icmp .gt 34, 3) := by decide +kernel
theorem d_M_leg_545 : decode b_M_leg 545 = .ok (.aload_n 0, 1) := by decide +kernel
theorem d_M_leg_546 : decode b_M_leg 546 = .ok (.aload_n 0, 1) := by decide +kernel
theorem d_M_leg_547 : decode b_M_leg 547 = .ok (.iload 23, 2) := by decide +kernel
theorem d_M_leg_549 : decode b_M_leg 549 = .ok (.invokevirtual 89, 3) := by decide +kernel
theorem d_M_leg_552 : decode b_M_leg 552 = .ok (.lload 14, 2) := by decide +kernel
theorem d_M_leg_554 : decode b_M_leg 554 = .ok (.lcmp, 1) := by decide +kernel
theorem d_M_leg_555 : decode b_M_leg 555 = .ok (.ifCond .gt 8, 3) := by decide +kernel
theorem d_M_leg_558 : decode b_M_leg 558 = .ok (.iload 23, 2) := by decide +kernel
theorem d_M_leg_560 : decode b_M_leg 560 = .ok (.goto 7, 3) := by decide +kernel
theorem d_M_leg_563 : decode b_M_leg 563 = .ok (.aload_n 0, 1) := by decide +kernel
theorem d_M_leg_564 : decode b_M_leg 564 = .ok (.getfield 154, 3) := by decide +kernel
theorem d_M_leg_567 : decode b_M_leg 567 = .ok (.putfield 154, 3) := by decide +kernel
theorem d_M_leg_570 : decode b_M_leg 570 = .ok (.iinc 23 1, 3) := by decide +kernel
theorem d_M_leg_573 : decode b_M_leg 573 = .ok (.goto (-35), 3) := by decide +kernel
theorem d_M_leg_576 : decode b_M_leg 576 = .ok (.return_, 1) := by decide +kernel
theorem d_M_work_0 : decode b_M_work 0 = .ok (.iload_n 2, 1) := by decide +kernel
theorem d_M_work_1 : decode b_M_work 1 = .ok (.ifCond .eq 55, 3) := by decide +kernel
theorem d_M_work_4 : decode b_M_work 4 = .ok (.iload_n 2, 1) := by decide +kernel
theorem d_M_work_5 : decode b_M_work 5 = .ok (.ldc 186, 2) := by decide +kernel
theorem d_M_work_7 : decode b_M_work 7 = .ok (.if_icmp .lt 49, 3) := by decide +kernel
theorem d_M_work_10 : decode b_M_work 10 = .ok (.iload_n 2, 1) := by decide +kernel
theorem d_M_work_11 : decode b_M_work 11 = .ok (.ldc 118, 2) := by decide +kernel
theorem d_M_work_13 : decode b_M_work 13 = .ok (.if_icmp .gt 43, 3) := by decide +kernel
theorem d_M_work_16 : decode b_M_work 16 = .ok (.iload_n 3, 1) := by decide +kernel
theorem d_M_work_17 : decode b_M_work 17 = .ok (.invokestatic 82, 3) := by decide +kernel
theorem d_M_work_20 : decode b_M_work 20 = .ok (.ifCond .eq 36, 3) := by decide +kernel
theorem d_M_work_23 : decode b_M_work 23 = .ok (.iload_n 1, 1) := by decide +kernel
theorem d_M_work_24 : decode b_M_work 24 = .ok (.ifCond .eq 19, 3) := by decide +kernel
theorem d_M_work_27 : decode b_M_work 27 = .ok (.aload_n 0, 1) := by decide +kernel
theorem d_M_work_28 : decode b_M_work 28 = .ok (.iload_n 3, 1) := by decide +kernel
theorem d_M_work_29 : decode b_M_work 29 = .ok (.invokevirtual 89, 3) := by decide +kernel
theorem d_M_work_32 : decode b_M_work 32 = .ok (.aload_n 0, 1) := by decide +kernel
theorem d_M_work_33 : decode b_M_work 33 = .ok (.getfield 93, 3) := by decide +kernel
theorem d_M_work_36 : decode b_M_work 36 = .ok (.lcmp, 1) := by decide +kernel
theorem d_M_work_37 : decode b_M_work 37 = .ok (.ifCond .lt 21, 3) := by decide +kernel
theorem d_M_work_40 : decode b_M_work 40 = .ok (.goto 16, 3) := by decide +kernel
theorem d_M_work_43 : decode b_M_work 43 = .ok (.aload_n 0, 1) := by decide +kernel
theorem d_M_work_44 : decode b_M_work 44 = .ok (.iload_n 3, 1) := by decide +kernel
theorem d_M_work_45 : decode b_M_work 45 = .ok (.invokevirtual 89, 3) := by decide +kernel
theorem d_M_work_48 : decode b_M_work 48 = .ok (.aload_n 0, 1) := by decide +kernel
theorem d_M_work_49 : decode b_M_work 49 = .ok (.getfield 93, 3) := by decide +kernel
theorem d_M_work_52 : decode b_M_work 52 = .ok (.lcmp, 1) := by decide +kernel
theorem d_M_work_53 : decode b_M_work 53 = .ok (.ifCond .gt 5, 3) := by decide +kernel
theorem d_M_work_56 : decode b_M_work 56 = .ok (.iconst 0, 1) := by decide +kernel
theorem d_M_work_57 : decode b_M_work 57 = .ok (.ireturn, 1) := by decide +kernel
theorem d_M_work_58 : decode b_M_work 58 = .ok (.aload_n 0, 1) := by decide +kernel
theorem d_M_work_59 : decode b_M_work 59 = .ok (.aload_n 0, 1) := by decide +kernel
theorem d_M_work_60 : decode b_M_work 60 = .ok (.getfield 93, 3) := by decide +kernel
theorem d_M_work_63 : decode b_M_work 63 = .ok (.putfield 160, 3) := by decide +kernel
theorem d_M_work_66 : decode b_M_work 66 = .ok (.aload_n 0, 1) := by decide +kernel
theorem d_M_work_67 : decode b_M_work 67 = .ok (.aload_n 0, 1) := by decide +kernel
theorem d_M_work_68 : decode b_M_work 68 = .ok (.getfield 86, 3) := by decide +kernel
theorem d_M_work_71 : decode b_M_work 71 = .ok (.putfield 154, 3) := by decide +kernel
theorem d_M_work_74 : decode b_M_work 74 = .ok (.aload_n 0, 1) := by decide +kernel
theorem d_M_work_75 : decode b_M_work 75 = .ok (.iload_n 2, 1) := by decide +kernel
theorem d_M_work_76 : decode b_M_work 76 = .ok (.i2l, 1) := by decide +kernel
theorem d_M_work_77 : decode b_M_work 77 = .ok (.putfield 157, 3) := by decide +kernel
theorem d_M_work_80 : decode b_M_work 80 = .ok (.aload_n 0, 1) := by decide +kernel
theorem d_M_work_81 : decode b_M_work 81 = .ok (.lconst 0, 1) := by decide +kernel
theorem d_M_work_82 : decode b_M_work 82 = .ok (.putfield 180, 3) := by decide +kernel
theorem d_M_work_85 : decode b_M_work 85 = .ok (.aload_n 0, 1) := by decide +kernel
theorem d_M_work_86 : decode b_M_work 86 = .ok (.lconst 0, 1) := by decide +kernel
theorem d_M_work_87 : decode b_M_work 87 = .ok (.putfield 183, 3) := by decide +kernel
theorem d_M_work_90 : decode b_M_work 90 = .ok (.iconst 0, 1) := by decide +kernel
theorem d_M_work_91 : decode b_M_work 91 = .ok (.istore 4, 2) := by decide +kernel
theorem d_M_work_93 : decode b_M_work 93 = .ok (.iload 4, 2) := by decide +kernel
theorem d_M_work_95 : decode b_M_work 95 = .ok (.bipush 10, 2) := by decide +kernel
theorem d_M_work_97 : decode b_M_work 97 = .ok (.if_icmp .ge 17, 3) := by decide +kernel
theorem d_M_work_100 : decode b_M_work 100 = .ok (.aload_n 0, 1) := by decide +kernel
theorem d_M_work_101 : decode b_M_work 101 = .ok (.getfield 48, 3) := by decide +kernel
theorem d_M_work_104 : decode b_M_work 104 = .ok (.iload 4, 2) := by decide +kernel
theorem d_M_work_106 : decode b_M_work 106 = .ok (.lconst 0, 1) := by decide +kernel
theorem d_M_work_107 : decode b_M_work 107 = .ok (.lastore, 1) := by decide +kernel
theorem d_M_work_108 : decode b_M_work 108 = .ok (.iinc 4 1, 3) := by decide +kernel
theorem d_M_work_111 : decode b_M_work 111 = .ok (.goto (-18), 3) := by decide +kernel
theorem d_M_work_114 : decode b_M_work 114 = .ok (.iconst 0, 1) := by decide +kernel
theorem d_M_work_115 : decode b_M_work 115 = .ok (.istore 4, 2) := by decide +kernel
theorem d_M_work_117 : decode b_M_work 117 = .ok (.iload 4, 2) := by decide +kernel
theorem d_M_work_119 : decode b_M_work 119 = .ok (.sipush 1000, 3) := by decide +kernel
theorem d_M_work_122 : decode b_M_work 122 = .ok (.if_icmp .ge 41, 3) := by decide +kernel
theorem d_M_work_125 : decode b_M_work 125 = .ok (.aload_n 0, 1) := by decide +kernel
theorem d_M_work_126 : decode b_M_work 126 = .ok (.getfield 157, 3) := by decide +kernel
theorem d_M_work_129 : decode b_M_work 129 = .ok (.lconst 0, 1) := by decide +kernel
theorem d_M_work_130 : decode b_M_work 130 = .ok (.lcmp, 1) := by decide +kernel
theorem d_M_work_131 : decode b_M_work 131 = .ok (.ifCond .eq 32, 3) := by decide +kernel
theorem d_M_work_134 : decode b_M_work 134 = .ok (.aload_n 0, 1) := by decide +kernel
theorem d_M_work_135 : decode b_M_work 135 = .ok (.getfield 160, 3) := by decide +kernel
theorem d_M_work_138 : decode b_M_work 138 = .ok (.aload_n 0, 1) := by decide +kernel
theorem d_M_work_139 : decode b_M_work 139 = .ok (.iload_n 3, 1) := by decide +kernel
theorem d_M_work_140 : decode b_M_work 140 = .ok (.invokevirtual 89, 3) := by decide +kernel
theorem d_M_work_143 : decode b_M_work 143 = .ok (.lcmp, 1) := by decide +kernel
theorem d_M_work_144 : decode b_M_work 144 = .ok (.ifCond .eq 19, 3) := by decide +kernel
theorem d_M_work_147 : decode b_M_work 147 = .ok (.aload_n 0, 1) := by decide +kernel
theorem d_M_work_148 : decode b_M_work 148 = .ok (.iload_n 1, 1) := by decide +kernel
theorem d_M_work_149 : decode b_M_work 149 = .ok (.aload_n 0, 1) := by decide +kernel
theorem d_M_work_150 : decode b_M_work 150 = .ok (.iload_n 3, 1) := by decide +kernel
theorem d_M_work_151 : decode b_M_work 151 = .ok (.invokevirtual 89, 3) := by decide +kernel
theorem d_M_work_154 : decode b_M_work 154 = .ok (.invokevirtual 187, 3) := by decide +kernel
theorem d_M_work_157 : decode b_M_work 157 = .ok (.iinc 4 1, 3) := by decide +kernel
theorem d_M_work_160 : decode b_M_work 160 = .ok (.goto (-43), 3) := by decide +kernel
theorem d_M_work_163 : decode b_M_work 163 = .ok (.iconst 1, 1) := by decide +kernel
theorem d_M_work_164 : decode b_M_work 164 = .ok (.ireturn, 1) := by decide +kernel
theorem d_M_swap_0 : decode b_M_swap 0 = .ok (.aload_n 0, 1) := by decide +kernel
theorem d_M_swap_1 : decode b_M_swap 1 = .ok (.getfield 78, 3) := by decide +kernel
theorem d_M_swap_4 : decode b_M_swap 4 = .ok (.ifCond .ne 7, 3) := by decide +kernel
theorem d_M_swap_7 : decode b_M_swap 7 = .ok (.ldc2_w 112, 3) := by decide +kernel
theorem d_M_swap_10 : decode b_M_swap 10 = .ok (.lreturn, 1) := by decide +kernel
theorem d_M_swap_11 : decode b_M_swap 11 = .ok (.iload_n 1, 1) := by decide +kernel
theorem d_M_swap_12 : decode b_M_swap 12 = .ok (.invokestatic 99, 3) := by decide +kernel
theorem d_M_swap_15 : decode b_M_swap 15 = .ok (.ifCond .eq 14, 3) := by decide +kernel
theorem d_M_swap_18 : decode b_M_swap 18 = .ok (.aload_n 0, 1) := by decide +kernel
theorem d_M_swap_19 : decode b_M_swap 19 = .ok (.iload_n 2, 1) := by decide +kernel
theorem d_M_swap_20 : decode b_M_swap 20 = .ok (.iload_n 3, 1) := by decide +kernel
theorem d_M_swap_21 : decode b_M_swap 21 = .ok (.iload 4, 2) := by decide +kernel
theorem d_M_swap_23 : decode b_M_swap 23 = .ok (.invokevirtual 191, 3) := by decide +kernel
theorem d_M_swap_26 : decode b_M_swap 26 = .ok (.ifCond .ne 7, 3) := by decide +kernel
theorem d_M_swap_29 : decode b_M_swap 29 = .ok (.ldc2_w 119, 3) := by decide +kernel
theorem d_M_swap_32 : decode b_M_swap 32 = .ok (.lreturn, 1) := by decide +kernel
theorem d_M_swap_33 : decode b_M_swap 33 = .ok (.iload_n 2, 1) := by decide +kernel
theorem d_M_swap_34 : decode b_M_swap 34 = .ok (.ifCond .eq 7, 3) := by decide +kernel
theorem d_M_swap_37 : decode b_M_swap 37 = .ok (.iconst 0, 1) := by decide +kernel
theorem d_M_swap_38 : decode b_M_swap 38 = .ok (.goto 4, 3) := by decide +kernel
theorem d_M_swap_41 : decode b_M_swap 41 = .ok (.iconst 1, 1) := by decide +kernel
theorem d_M_swap_42 : decode b_M_swap 42 = .ok (.istore 5, 2) := by decide +kernel
theorem d_M_swap_44 : decode b_M_swap 44 = .ok (.aload_n 0, 1) := by decide +kernel
theorem d_M_swap_45 : decode b_M_swap 45 = .ok (.getfield 13, 3) := by decide +kernel
theorem d_M_swap_48 : decode b_M_swap 48 = .ok (.iconst 2, 1) := by decide +kernel
theorem d_M_swap_49 : decode b_M_swap 49 = .ok (.iload_n 1, 1) := by decide +kernel
theorem d_M_swap_50 : decode b_M_swap 50 = .ok (.imul, 1) := by decide +kernel
theorem d_M_swap_51 : decode b_M_swap 51 = .ok (.iload 5, 2) := by decide +kernel
theorem d_M_swap_53 : decode b_M_swap 53 = .ok (.iadd, 1) := by decide +kernel
theorem d_M_swap_54 : decode b_M_swap 54 = .ok (.laload, 1) := by decide +kernel
theorem d_M_swap_55 : decode b_M_swap 55 = .ok (.aload_n 0, 1) := by decide +kernel
theorem d_M_swap_56 : decode b_M_swap 56 = .ok (.getfield 180, 3) := by decide +kernel
theorem d_M_swap_59 : decode b_M_swap 59 = .ok (.lcmp, 1) := by decide +kernel
theorem d_M_swap_60 : decode b_M_swap 60 = .ok (.ifCond .ge 7, 3) := by decide +kernel
theorem d_M_swap_63 : decode b_M_swap 63 = .ok (.ldc2_w 136, 3) := by decide +kernel
theorem d_M_swap_66 : decode b_M_swap 66 = .ok (.lreturn, 1) := by decide +kernel
theorem d_M_swap_67 : decode b_M_swap 67 = .ok (.aload_n 0, 1) := by decide +kernel
theorem d_M_swap_68 : decode b_M_swap 68 = .ok (.invokevirtual 96, 3) := by decide +kernel
theorem d_M_swap_71 : decode b_M_swap 71 = .ok (.aload_n 0, 1) := by decide +kernel
theorem d_M_swap_72 : decode b_M_swap 72 = .ok (.iload_n 1, 1) := by decide +kernel
theorem d_M_swap_73 : decode b_M_swap 73 = .ok (.iload_n 2, 1) := by decide +kernel
theorem d_M_swap_74 : decode b_M_swap 74 = .ok (.ifCond .eq 10, 3) := by decide +kernel
theorem d_M_swap_77 : decode b_M_swap 77 = .ok (.aload_n 0, 1) := by decide +kernel
theorem d_M_swap_78 : decode b_M_swap 78 = .ok (.getfield 180, 3) := by decide +kernel
theorem d_M_swap_81 : decode b_M_swap 81 = .ok (.goto 8, 3) := by decide +kernel
theorem d_M_swap_84 : decode b_M_swap 84 = .ok (.aload_n 0, 1) := by decide +kernel
theorem d_M_swap_85 : decode b_M_swap 85 = .ok (.getfield 183, 3) := by decide +kernel
theorem d_M_swap_88 : decode b_M_swap 88 = .ok (.lneg, 1) := by decide +kernel
theorem d_M_swap_89 : decode b_M_swap 89 = .ok (.iload_n 2, 1) := by decide +kernel
theorem d_M_swap_90 : decode b_M_swap 90 = .ok (.ifCond .eq 11, 3) := by decide +kernel
theorem d_M_swap_93 : decode b_M_swap 93 = .ok (.aload_n 0, 1) := by decide +kernel
theorem d_M_swap_94 : decode b_M_swap 94 = .ok (.getfield 183, 3) := by decide +kernel
theorem d_M_swap_97 : decode b_M_swap 97 = .ok (.lneg, 1) := by decide +kernel
theorem d_M_swap_98 : decode b_M_swap 98 = .ok (.goto 7, 3) := by decide +kernel
theorem d_M_swap_101 : decode b_M_swap 101 = .ok (.aload_n 0, 1) := by decide +kernel
theorem d_M_swap_102 : decode b_M_swap 102 = .ok (.getfield 180, 3) := by decide +kernel
theorem d_M_swap_105 : decode b_M_swap 105 = .ok (.invokevirtual 142, 3) := by decide +kernel
theorem d_M_swap_108 : decode b_M_swap 108 = .ok (.iconst 0, 1) := by decide +kernel
theorem d_M_swap_109 : decode b_M_swap 109 = .ok (.istore 6, 2) := by decide +kernel
theorem d_M_swap_111 : decode b_M_swap 111 = .ok (.iload 6, 2) := by decide +kernel
theorem d_M_swap_113 : decode b_M_swap 113 = .ok (.bipush 10, 2) := by decide +kernel
theorem d_M_swap_115 : decode b_M_swap 115 = .ok (.if_icmp .ge 45, 3) := by decide +kernel
theorem d_M_swap_118 : decode b_M_swap 118 = .ok (.aload_n 0, 1) := by decide +kernel
theorem d_M_swap_119 : decode b_M_swap 119 = .ok (.getfield 39, 3) := by decide +kernel
theorem d_M_swap_122 : decode b_M_swap 122 = .ok (.iconst 2, 1) := by decide +kernel
theorem d_M_swap_123 : decode b_M_swap 123 = .ok (.iload 6, 2) := by decide +kernel
theorem d_M_swap_125 : decode b_M_swap 125 = .ok (.imul, 1) := by decide +kernel
theorem d_M_swap_126 : decode b_M_swap 126 = .ok (.iload 5, 2) := by decide +kernel
theorem d_M_swap_128 : decode b_M_swap 128 = .ok (.iadd, 1) := by decide +kernel
theorem d_M_swap_129 : decode b_M_swap 129 = .ok (.dup2, 1) := by decide +kernel
theorem d_M_swap_130 : decode b_M_swap 130 = .ok (.laload, 1) := by decide +kernel
theorem d_M_swap_131 : decode b_M_swap 131 = .ok (.aload_n 0, 1) := by decide +kernel
theorem d_M_swap_132 : decode b_M_swap 132 = .ok (.getfield 19, 3) := by decide +kernel
theorem d_M_swap_135 : decode b_M_swap 135 = .ok (.iload 6, 2) := by decide +kernel
theorem d_M_swap_137 : decode b_M_swap 137 = .ok (.baload, 1) := by decide +kernel
theorem d_M_swap_138 : decode b_M_swap 138 = .ok (.ifCond .eq 13, 3) := by decide +kernel
theorem d_M_swap_141 : decode b_M_swap 141 = .ok (.aload_n 0, 1) := by decide +kernel
theorem d_M_swap_142 : decode b_M_swap 142 = .ok (.getfield 48, 3) := by decide +kernel
theorem d_M_swap_145 : decode b_M_swap 145 = .ok (.iload 6, 2) := by decide +kernel
theorem d_M_swap_147 : decode b_M_swap 147 = .ok (.laload, 1) := by decide +kernel
theorem d_M_swap_148 : decode b_M_swap 148 = .ok (.goto 4, 3) := by decide +kernel
theorem d_M_swap_151 : decode b_M_swap 151 = .ok (.lconst 0, 1) := by decide +kernel
theorem d_M_swap_152 : decode b_M_swap 152 = .ok (.ladd, 1) := by decide +kernel
theorem d_M_swap_153 : decode b_M_swap 153 = .ok (.lastore, 1) := by decide +kernel
theorem d_M_swap_154 : decode b_M_swap 154 = .ok (.iinc 6 1, 3) := by decide +kernel
theorem d_M_swap_157 : decode b_M_swap 157 = .ok (.goto (-46), 3) := by decide +kernel
theorem d_M_swap_160 : decode b_M_swap 160 = .ok (.aload_n 0, 1) := by decide +kernel
theorem d_M_swap_161 : decode b_M_swap 161 = .ok (.aload_n 0, 1) := by decide +kernel
theorem d_M_swap_162 : decode b_M_swap 162 = .ok (.getfield 160, 3) := by decide +kernel
theorem d_M_swap_165 : decode b_M_swap 165 = .ok (.putfield 93, 3) := by decide +kernel
theorem d_M_swap_168 : decode b_M_swap 168 = .ok (.aload_n 0, 1) := by decide +kernel
theorem d_M_swap_169 : decode b_M_swap 169 = .ok (.aload_n 0, 1) := by decide +kernel
theorem d_M_swap_170 : decode b_M_swap 170 = .ok (.getfield 154, 3) := by decide +kernel
theorem d_M_swap_173 : decode b_M_swap 173 = .ok (.putfield 86, 3) := by decide +kernel
theorem d_M_swap_176 : decode b_M_swap 176 = .ok (.aload_n 0, 1) := by decide +kernel
theorem d_M_swap_177 : decode b_M_swap 177 = .ok (.getfield 180, 3) := by decide +kernel
theorem d_M_swap_180 : decode b_M_swap 180 = .ok (.ldc2_w 103, 3) := by decide +kernel
theorem d_M_swap_183 : decode b_M_swap 183 = .ok (.lmul, 1) := by decide +kernel
theorem d_M_swap_184 : decode b_M_swap 184 = .ok (.aload_n 0, 1) := by decide +kernel
theorem d_M_swap_185 : decode b_M_swap 185 = .ok (.getfield 183, 3) := by decide +kernel
theorem d_M_swap_188 : decode b_M_swap 188 = .ok (.ladd, 1) := by decide +kernel
theorem d_M_swap_189 : decode b_M_swap 189 = .ok (.lreturn, 1) := by decide +kernel
theorem d_M_quote_0 : decode b_M_quote 0 = .ok (.aload_n 0, 1) := by decide +kernel
theorem d_M_quote_1 : decode b_M_quote 1 = .ok (.getfield 78, 3) := by decide +kernel
theorem d_M_quote_4 : decode b_M_quote 4 = .ok (.ifCond .ne 7, 3) := by decide +kernel
theorem d_M_quote_7 : decode b_M_quote 7 = .ok (.ldc2_w 112, 3) := by decide +kernel
theorem d_M_quote_10 : decode b_M_quote 10 = .ok (.lreturn, 1) := by decide +kernel
theorem d_M_quote_11 : decode b_M_quote 11 = .ok (.aload_n 0, 1) := by decide +kernel
theorem d_M_quote_12 : decode b_M_quote 12 = .ok (.iload_n 1, 1) := by decide +kernel
theorem d_M_quote_13 : decode b_M_quote 13 = .ok (.iload_n 2, 1) := by decide +kernel
theorem d_M_quote_14 : decode b_M_quote 14 = .ok (.iload_n 3, 1) := by decide +kernel
theorem d_M_quote_15 : decode b_M_quote 15 = .ok (.invokevirtual 191, 3) := by decide +kernel
theorem d_M_quote_18 : decode b_M_quote 18 = .ok (.ifCond .eq 19, 3) := by decide +kernel
theorem d_M_quote_21 : decode b_M_quote 21 = .ok (.aload_n 0, 1) := by decide +kernel
theorem d_M_quote_22 : decode b_M_quote 22 = .ok (.getfield 180, 3) := by decide +kernel
theorem d_M_quote_25 : decode b_M_quote 25 = .ok (.ldc2_w 103, 3) := by decide +kernel
theorem d_M_quote_28 : decode b_M_quote 28 = .ok (.lmul, 1) := by decide +kernel
theorem d_M_quote_29 : decode b_M_quote 29 = .ok (.aload_n 0, 1) := by decide +kernel
theorem d_M_quote_30 : decode b_M_quote 30 = .ok (.getfield 183, 3) := by decide +kernel
theorem d_M_quote_33 : decode b_M_quote 33 = .ok (.ladd, 1) := by decide +kernel
theorem d_M_quote_34 : decode b_M_quote 34 = .ok (.goto 6, 3) := by decide +kernel
theorem d_M_quote_37 : decode b_M_quote 37 = .ok (.ldc2_w 119, 3) := by decide +kernel
theorem d_M_quote_40 : decode b_M_quote 40 = .ok (.lreturn, 1) := by decide +kernel
theorem d_M_flash_0 : decode b_M_flash 0 = .ok (.aload_n 0, 1) := by decide +kernel
theorem d_M_flash_1 : decode b_M_flash 1 = .ok (.getfield 78, 3) := by decide +kernel
theorem d_M_flash_4 : decode b_M_flash 4 = .ok (.ifCond .ne 7, 3) := by decide +kernel
theorem d_M_flash_7 : decode b_M_flash 7 = .ok (.ldc2_w 112, 3) := by decide +kernel
theorem d_M_flash_10 : decode b_M_flash 10 = .ok (.lreturn, 1) := by decide +kernel
theorem d_M_flash_11 : decode b_M_flash 11 = .ok (.iload_n 2, 1) := by decide +kernel
theorem d_M_flash_12 : decode b_M_flash 12 = .ok (.ifCond .lt 23, 3) := by decide +kernel
theorem d_M_flash_15 : decode b_M_flash 15 = .ok (.iload_n 2, 1) := by decide +kernel
theorem d_M_flash_16 : decode b_M_flash 16 = .ok (.ldc 118, 2) := by decide +kernel
theorem d_M_flash_18 : decode b_M_flash 18 = .ok (.if_icmp .gt 17, 3) := by decide +kernel
theorem d_M_flash_21 : decode b_M_flash 21 = .ok (.iload_n 3, 1) := by decide +kernel
theorem d_M_flash_22 : decode b_M_flash 22 = .ok (.ifCond .lt 13, 3) := by decide +kernel
theorem d_M_flash_25 : decode b_M_flash 25 = .ok (.iload_n 3, 1) := by decide +kernel
theorem d_M_flash_26 : decode b_M_flash 26 = .ok (.ldc 118, 2) := by decide +kernel
theorem d_M_flash_28 : decode b_M_flash 28 = .ok (.if_icmp .gt 7, 3) := by decide +kernel
theorem d_M_flash_31 : decode b_M_flash 31 = .ok (.iconst 1, 1) := by decide +kernel
theorem d_M_flash_32 : decode b_M_flash 32 = .ok (.goto 4, 3) := by decide +kernel
theorem d_M_flash_35 : decode b_M_flash 35 = .ok (.iconst 0, 1) := by decide +kernel
theorem d_M_flash_36 : decode b_M_flash 36 = .ok (.istore 4, 2) := by decide +kernel
theorem d_M_flash_38 : decode b_M_flash 38 = .ok (.aload_n 0, 1) := by decide +kernel
theorem d_M_flash_39 : decode b_M_flash 39 = .ok (.aload_n 0, 1) := by decide +kernel
theorem d_M_flash_40 : decode b_M_flash 40 = .ok (.getfield 86, 3) := by decide +kernel
theorem d_M_flash_43 : decode b_M_flash 43 = .ok (.invokevirtual 167, 3) := by decide +kernel
theorem d_M_flash_46 : decode b_M_flash 46 = .ok (.lstore 5, 2) := by decide +kernel
theorem d_M_flash_48 : decode b_M_flash 48 = .ok (.iload_n 1, 1) := by decide +kernel
theorem d_M_flash_49 : decode b_M_flash 49 = .ok (.invokestatic 99, 3) := by decide +kernel
theorem d_M_flash_52 : decode b_M_flash 52 = .ok (.ifCond .eq 39, 3) := by decide +kernel
theorem d_M_flash_55 : decode b_M_flash 55 = .ok (.iload 4, 2) := by decide +kernel
theorem d_M_flash_57 : decode b_M_flash 57 = .ok (.ifCond .eq 34, 3) := by decide +kernel
theorem d_M_flash_60 : decode b_M_flash 60 = .ok (.iload_n 2, 1) := by decide +kernel
theorem d_M_flash_61 : decode b_M_flash 61 = .ok (.i2l, 1) := by decide +kernel
theorem d_M_flash_62 : decode b_M_flash 62 = .ok (.aload_n 0, 1) := by decide +kernel
theorem d_M_flash_63 : decode b_M_flash 63 = .ok (.getfield 16, 3) := by decide +kernel
theorem d_M_flash_66 : decode b_M_flash 66 = .ok (.iconst 0, 1) := by decide +kernel
theorem d_M_flash_67 : decode b_M_flash 67 = .ok (.laload, 1) := by decide +kernel
theorem d_M_flash_68 : decode b_M_flash 68 = .ok (.lcmp, 1) := by decide +kernel
theorem d_M_flash_69 : decode b_M_flash 69 = .ok (.ifCond .gt 22, 3) := by decide +kernel
theorem d_M_flash_72 : decode b_M_flash 72 = .ok (.iload_n 3, 1) := by decide +kernel
theorem d_M_flash_73 : decode b_M_flash 73 = .ok (.i2l, 1) := by decide +kernel
theorem d_M_flash_74 : decode b_M_flash 74 = .ok (.aload_n 0, 1) := by decide +kernel
theorem d_M_flash_75 : decode b_M_flash 75 = .ok (.getfield 16, 3) := by decide +kernel
theorem d_M_flash_78 : decode b_M_flash 78 = .ok (.iconst 1, 1) := by decide +kernel
theorem d_M_flash_79 : decode b_M_flash 79 = .ok (.laload, 1) := by decide +kernel
theorem d_M_flash_80 : decode b_M_flash 80 = .ok (.lcmp, 1) := by decide +kernel
theorem d_M_flash_81 : decode b_M_flash 81 = .ok (.ifCond .gt 10, 3) := by decide +kernel
theorem d_M_flash_84 : decode b_M_flash 84 = .ok (.lload 5, 2) := by decide +kernel
theorem d_M_flash_86 : decode b_M_flash 86 = .ok (.lconst 0, 1) := by decide +kernel
theorem d_M_flash_87 : decode b_M_flash 87 = .ok (.lcmp, 1) := by decide +kernel
theorem d_M_flash_88 : decode b_M_flash 88 = .ok (.ifCond .ne 7, 3) := by decide +kernel
theorem d_M_flash_91 : decode b_M_flash 91 = .ok (.ldc2_w 119, 3) := by decide +kernel
theorem d_M_flash_94 : decode b_M_flash 94 = .ok (.lreturn, 1) := by decide +kernel
theorem d_M_flash_95 : decode b_M_flash 95 = .ok (.iload_n 2, 1) := by decide +kernel
theorem d_M_flash_96 : decode b_M_flash 96 = .ok (.i2l, 1) := by decide +kernel
theorem d_M_flash_97 : decode b_M_flash 97 = .ok (.aload_n 0, 1) := by decide +kernel
theorem d_M_flash_98 : decode b_M_flash 98 = .ok (.getfield 55, 3) := by decide +kernel
theorem d_M_flash_101 : decode b_M_flash 101 = .ok (.i2l, 1) := by decide +kernel
theorem d_M_flash_102 : decode b_M_flash 102 = .ok (.lmul, 1) := by decide +kernel
theorem d_M_flash_103 : decode b_M_flash 103 = .ok (.ldc2_w 62, 3) := by decide +kernel
theorem d_M_flash_106 : decode b_M_flash 106 = .ok (.iconst 1, 1) := by decide +kernel
theorem d_M_flash_107 : decode b_M_flash 107 = .ok (.invokestatic 64, 3) := by decide +kernel
theorem d_M_flash_110 : decode b_M_flash 110 = .ok (.lstore 7, 2) := by decide +kernel
theorem d_M_flash_112 : decode b_M_flash 112 = .ok (.iload_n 3, 1) := by decide +kernel
theorem d_M_flash_113 : decode b_M_flash 113 = .ok (.i2l, 1) := by decide +kernel
theorem d_M_flash_114 : decode b_M_flash 114 = .ok (.aload_n 0, 1) := by decide +kernel
theorem d_M_flash_115 : decode b_M_flash 115 = .ok (.getfield 55, 3) := by decide +kernel
theorem d_M_flash_118 : decode b_M_flash 118 = .ok (.i2l, 1) := by decide +kernel
theorem d_M_flash_119 : decode b_M_flash 119 = .ok (.lmul, 1) := by decide +kernel
theorem d_M_flash_120 : decode b_M_flash 120 = .ok (.ldc2_w 62, 3) := by decide +kernel
theorem d_M_flash_123 : decode b_M_flash 123 = .ok (.iconst 1, 1) := by decide +kernel
theorem d_M_flash_124 : decode b_M_flash 124 = .ok (.invokestatic 64, 3) := by decide +kernel
theorem d_M_flash_127 : decode b_M_flash 127 = .ok (.lstore 9, 2) := by decide +kernel
theorem d_M_flash_129 : decode b_M_flash 129 = .ok (.aload_n 0, 1) := by decide +kernel
theorem d_M_flash_130 : decode b_M_flash 130 = .ok (.getfield 13, 3) := by decide +kernel
theorem d_M_flash_133 : decode b_M_flash 133 = .ok (.iconst 2, 1) := by decide +kernel
theorem d_M_flash_134 : decode b_M_flash 134 = .ok (.iload_n 1, 1) := by decide +kernel
theorem d_M_flash_135 : decode b_M_flash 135 = .ok (.imul, 1) := by decide +kernel
theorem d_M_flash_136 : decode b_M_flash 136 = .ok (.laload, 1) := by decide +kernel
theorem d_M_flash_137 : decode b_M_flash 137 = .ok (.lload 7, 2) := by decide +kernel
theorem d_M_flash_139 : decode b_M_flash 139 = .ok (.lcmp, 1) := by decide +kernel
theorem d_M_flash_140 : decode b_M_flash 140 = .ok (.ifCond .lt 19, 3) := by decide +kernel
theorem d_M_flash_143 : decode b_M_flash 143 = .ok (.aload_n 0, 1) := by decide +kernel
theorem d_M_flash_144 : decode b_M_flash 144 = .ok (.getfield 13, 3) := by decide +kernel
theorem d_M_flash_147 : decode b_M_flash 147 = .ok (.iconst 2, 1) := by decide +kernel
theorem d_M_flash_148 : decode b_M_flash 148 = .ok (.iload_n 1, 1) := by decide +kernel
theorem d_M_flash_149 : decode b_M_flash 149 = .ok (.imul, 1) := by decide +kernel
theorem d_M_flash_150 : decode b_M_flash 150 = .ok (.iconst 1, 1) := by decide +kernel
theorem d_M_flash_151 : decode b_M_flash 151 = .ok (.iadd, 1) := by decide +kernel
theorem d_M_flash_152 : decode b_M_flash 152 = .ok (.laload, 1) := by decide +kernel
theorem d_M_flash_153 : decode b_M_flash 153 = .ok (.lload 9, 2) := by decide +kernel
theorem d_M_flash_155 : decode b_M_flash 155 = .ok (.lcmp, 1) := by decide +kernel
theorem d_M_flash_156 : decode b_M_flash 156 = .ok (.ifCond .ge 7, 3) := by decide +kernel
theorem d_M_flash_159 : decode b_M_flash 159 = .ok (.ldc2_w 136, 3) := by decide +kernel
theorem d_M_flash_162 : decode b_M_flash 162 = .ok (.lreturn, 1) := by decide +kernel
theorem d_M_flash_163 : decode b_M_flash 163 = .ok (.aload_n 0, 1) := by decide +kernel
theorem d_M_flash_164 : decode b_M_flash 164 = .ok (.iload_n 1, 1) := by decide +kernel
theorem d_M_flash_165 : decode b_M_flash 165 = .ok (.lload 7, 2) := by decide +kernel
theorem d_M_flash_167 : decode b_M_flash 167 = .ok (.lload 9, 2) := by decide +kernel
theorem d_M_flash_169 : decode b_M_flash 169 = .ok (.invokevirtual 142, 3) := by decide +kernel
theorem d_M_flash_172 : decode b_M_flash 172 = .ok (.iconst 0, 1) := by decide +kernel
theorem d_M_flash_173 : decode b_M_flash 173 = .ok (.istore 11, 2) := by decide +kernel
theorem d_M_flash_175 : decode b_M_flash 175 = .ok (.iload 11, 2) := by decide +kernel
theorem d_M_flash_177 : decode b_M_flash 177 = .ok (.bipush 10, 2) := by decide +kernel
theorem d_M_flash_179 : decode b_M_flash 179 = .ok (.if_icmp .ge 116, 3) := by decide +kernel
theorem d_M_flash_182 : decode b_M_flash 182 = .ok (.aload_n 0, 1) := by decide +kernel
theorem d_M_flash_183 : decode b_M_flash 183 = .ok (.getfield 19, 3) := by decide +kernel
theorem d_M_flash_186 : decode b_M_flash 186 = .ok (.iload 11, 2) := by decide +kernel
theorem d_M_flash_188 : decode b_M_flash 188 = .ok (.baload, 1) := by decide +kernel
theorem d_M_flash_189 : decode b_M_flash 189 = .ok (.ifCond .eq 35, 3) := by decide +kernel
theorem d_M_flash_192 : decode b_M_flash 192 = .ok (.aload_n 0, 1) := by decide +kernel
theorem d_M_flash_193 : decode b_M_flash 193 = .ok (.getfield 27, 3) := by decide +kernel
theorem d_M_flash_196 : decode b_M_flash 196 = .ok (.iload 11, 2) := by decide +kernel
theorem d_M_flash_198 : decode b_M_flash 198 = .ok (.iaload, 1) := by decide +kernel
theorem d_M_flash_199 : decode b_M_flash 199 = .ok (.aload_n 0, 1) := by decide +kernel
theorem d_M_flash_200 : decode b_M_flash 200 = .ok (.getfield 86, 3) := by decide +kernel
theorem d_M_flash_203 : decode b_M_flash 203 = .ok (.if_icmp .gt 21, 3) := by decide +kernel
theorem d_M_flash_206 : decode b_M_flash 206 = .ok (.aload_n 0, 1) := by decide +kernel
theorem d_M_flash_207 : decode b_M_flash 207 = .ok (.getfield 86, 3) := by decide +kernel
theorem d_M_flash_210 : decode b_M_flash 210 = .ok (.aload_n 0, 1) := by decide +kernel
theorem d_M_flash_211 : decode b_M_flash 211 = .ok (.getfield 30, 3) := by decide +kernel
theorem d_M_flash_214 : decode b_M_flash 214 = .ok (.iload 11, 2) := by decide +kernel
theorem d_M_flash_216 : decode b_M_flash 216 = .ok (.iaload, 1) := by decide +kernel
theorem d_M_flash_217 : decode b_M_flash 217 = .ok (.if_icmp .ge 7, 3) := by decide +kernel
theorem d_M_flash_220 : decode b_M_flash 220 = .ok (.iconst 1, 1) := by decide +kernel
theorem d_M_flash_221 : decode b_M_flash 221 = .ok (.goto 4, 3) := by decide +kernel
theorem d_M_flash_224 : decode b_M_flash 224 = .ok (.iconst 0, 1) := by decide +kernel
theorem d_M_flash_225 : decode b_M_flash 225 = .ok (.istore 12, 2) := by decide +kernel
theorem d_M_flash_227 : decode b_M_flash 227 = .ok (.aload_n 0, 1) := by decide +kernel
theorem d_M_flash_228 : decode b_M_flash 228 = .ok (.getfield 39, 3) := by decide +kernel
theorem d_M_flash_231 : decode b_M_flash 231 = .ok (.iconst 2, 1) := by decide +kernel
theorem d_M_flash_232 : decode b_M_flash 232 = .ok (.iload 11, 2) := by decide +kernel
theorem d_M_flash_234 : decode b_M_flash 234 = .ok (.imul, 1) := by decide +kernel
theorem d_M_flash_235 : decode b_M_flash 235 = .ok (.dup2, 1) := by decide +kernel
theorem d_M_flash_236 : decode b_M_flash 236 = .ok (.laload, 1) := by decide +kernel
theorem d_M_flash_237 : decode b_M_flash 237 = .ok (.iload 12, 2) := by decide +kernel
theorem d_M_flash_239 : decode b_M_flash 239 = .ok (.ifCond .eq 15, 3) := by decide +kernel
theorem d_M_flash_242 : decode b_M_flash 242 = .ok (.lload 7, 2) := by decide +kernel
theorem d_M_flash_244 : decode b_M_flash 244 = .ok (.ldc2_w 103, 3) := by decide +kernel
theorem d_M_flash_247 : decode b_M_flash 247 = .ok (.lmul, 1) := by decide +kernel
theorem d_M_flash_248 : decode b_M_flash 248 = .ok (.lload 5, 2) := by decide +kernel
theorem d_M_flash_250 : decode b_M_flash 250 = .ok (.ldiv, 1) := by decide +kernel
theorem d_M_flash_251 : decode b_M_flash 251 = .ok (.goto 4, 3) := by decide +kernel
theorem d_M_flash_254 : decode b_M_flash 254 = .ok (.lconst 0, 1) := by decide +kernel
theorem d_M_flash_255 : decode b_M_flash 255 = .ok (.ladd, 1) := by decide +kernel
theorem d_M_flash_256 : decode b_M_flash 256 = .ok (.lastore, 1) := by decide +kernel
theorem d_M_flash_257 : decode b_M_flash 257 = .ok (.aload_n 0, 1) := by decide +kernel
theorem d_M_flash_258 : decode b_M_flash 258 = .ok (.getfield 39, 3) := by decide +kernel
theorem d_M_flash_261 : decode b_M_flash 261 = .ok (.iconst 2, 1) := by decide +kernel
theorem d_M_flash_262 : decode b_M_flash 262 = .ok (.iload 11, 2) := by decide +kernel
theorem d_M_flash_264 : decode b_M_flash 264 = .ok (.imul, 1) := by decide +kernel
theorem d_M_flash_265 : decode b_M_flash 265 = .ok (.iconst 1, 1) := by decide +kernel
theorem d_M_flash_266 : decode b_M_flash 266 = .ok (.iadd, 1) := by decide +kernel
theorem d_M_flash_267 : decode b_M_flash 267 = .ok (.dup2, 1) := by decide +kernel
theorem d_M_flash_268 : decode b_M_flash 268 = .ok (.laload, 1) := by decide +kernel
theorem d_M_flash_269 : decode b_M_flash 269 = .ok (.iload 12, 2) := by decide +kernel
theorem d_M_flash_271 : decode b_M_flash 271 = .ok (.ifCond .eq 15, 3) := by decide +kernel
theorem d_M_flash_274 : decode b_M_flash 274 = .ok (.lload 9, 2) := by decide +kernel
theorem d_M_flash_276 : decode b_M_flash 276 = .ok (.ldc2_w 103, 3) := by decide +kernel
theorem d_M_flash_279 : decode b_M_flash 279 = .ok (.lmul, 1) := by decide +kernel
theorem d_M_flash_280 : decode b_M_flash 280 = .ok (.lload 5, 2) := by decide +kernel
theorem d_M_flash_282 : decode b_M_flash 282 = .ok (.ldiv, 1) := by decide +kernel
theorem d_M_flash_283 : decode b_M_flash 283 = .ok (.goto 4, 3) := by decide +kernel
theorem d_M_flash_286 : decode b_M_flash 286 = .ok (.lconst 0, 1) := by decide +kernel
theorem d_M_flash_287 : decode b_M_flash 287 = .ok (.ladd, 1) := by decide +kernel
theorem d_M_flash_288 : decode b_M_flash 288 = .ok (.lastore, 1) := by decide +kernel
theorem d_M_flash_289 : decode b_M_flash 289 = .ok (.iinc 11 1, 3) := by decide +kernel
theorem d_M_flash_292 : decode b_M_flash 292 = .ok (.goto (-117), 3) := by decide +kernel
theorem d_M_flash_295 : decode b_M_flash 295 = .ok (.lload 7, 2) := by decide +kernel
theorem d_M_flash_297 : decode b_M_flash 297 = .ok (.ldc2_w 103, 3) := by decide +kernel
theorem d_M_flash_300 : decode b_M_flash 300 = .ok (.lmul, 1) := by decide +kernel
theorem d_M_flash_301 : decode b_M_flash 301 = .ok (.lload 9, 2) := by decide +kernel
theorem d_M_flash_303 : decode b_M_flash 303 = .ok (.ladd, 1) := by decide +kernel
theorem d_M_flash_304 : decode b_M_flash 304 = .ok (.lreturn, 1) := by decide +kernel
theorem d_M_advance_0 : decode b_M_advance 0 = .ok (.iload_n 1, 1) := by decide +kernel
theorem d_M_advance_1 : decode b_M_advance 1 = .ok (.ifCond .lt 10, 3) := by decide +kernel
theorem d_M_advance_4 : decode b_M_advance 4 = .ok (.iload_n 1, 1) := by decide +kernel
theorem d_M_advance_5 : decode b_M_advance 5 = .ok (.sipush 10000, 3) := by decide +kernel
theorem d_M_advance_8 : decode b_M_advance 8 = .ok (.if_icmp .le 5, 3) := by decide +kernel
theorem d_M_advance_11 : decode b_M_advance 11 = .ok (.iconst 0, 1) := by decide +kernel
theorem d_M_advance_12 : decode b_M_advance 12 = .ok (.ireturn, 1) := by decide +kernel
theorem d_M_advance_13 : decode b_M_advance 13 = .ok (.aload_n 0, 1) := by decide +kernel
theorem d_M_advance_14 : decode b_M_advance 14 = .ok (.dup, 1) := by decide +kernel
theorem d_M_advance_15 : decode b_M_advance 15 = .ok (.getfield 71, 3) := by decide +kernel
theorem d_M_advance_18 : decode b_M_advance 18 = .ok (.iload_n 1, 1) := by decide +kernel
theorem d_M_advance_19 : decode b_M_advance 19 = .ok (.i2l, 1) := by decide +kernel
theorem d_M_advance_20 : decode b_M_advance 20 = .ok (.ladd, 1) := by decide +kernel
theorem d_M_advance_21 : decode b_M_advance 21 = .ok (.putfield 71, 3) := by decide +kernel
theorem d_M_advance_24 : decode b_M_advance 24 = .ok (.aload_n 0, 1) := by decide +kernel
theorem d_M_advance_25 : decode b_M_advance 25 = .ok (.dup, 1) := by decide +kernel
theorem d_M_advance_26 : decode b_M_advance 26 = .ok (.getfield 75, 3) := by decide +kernel
theorem d_M_advance_29 : decode b_M_advance 29 = .ok (.aload_n 0, 1) := by decide +kernel
theorem d_M_advance_30 : decode b_M_advance 30 = .ok (.getfield 78, 3) := by decide +kernel
theorem d_M_advance_33 : decode b_M_advance 33 = .ok (.ifCond .eq 14, 3) := by decide +kernel
theorem d_M_advance_36 : decode b_M_advance 36 = .ok (.aload_n 0, 1) := by decide +kernel
theorem d_M_advance_37 : decode b_M_advance 37 = .ok (.getfield 86, 3) := by decide +kernel
theorem d_M_advance_40 : decode b_M_advance 40 = .ok (.i2l, 1) := by decide +kernel
theorem d_M_advance_41 : decode b_M_advance 41 = .ok (.iload_n 1, 1) := by decide +kernel
theorem d_M_advance_42 : decode b_M_advance 42 = .ok (.i2l, 1) := by decide +kernel
theorem d_M_advance_43 : decode b_M_advance 43 = .ok (.lmul, 1) := by decide +kernel
theorem d_M_advance_44 : decode b_M_advance 44 = .ok (.goto 4, 3) := by decide +kernel
theorem d_M_advance_47 : decode b_M_advance 47 = .ok (.lconst 0, 1) := by decide +kernel
theorem d_M_advance_48 : decode b_M_advance 48 = .ok (.ladd, 1) := by decide +kernel
theorem d_M_advance_49 : decode b_M_advance 49 = .ok (.putfield 75, 3) := by decide +kernel
theorem d_M_advance_52 : decode b_M_advance 52 = .ok (.iconst 1, 1) := by decide +kernel
theorem d_M_advance_53 : decode b_M_advance 53 = .ok (.ireturn, 1) := by decide +kernel
theorem d_M_observe_0 : decode b_M_observe 0 = .ok (.aload_n 0, 1) := by decide +kernel
theorem d_M_observe_1 : decode b_M_observe 1 = .ok (.getfield 78, 3) := by decide +kernel
theorem d_M_observe_4 : decode b_M_observe 4 = .ok (.ifCond .ne 7, 3) := by decide +kernel
theorem d_M_observe_7 : decode b_M_observe 7 = .ok (.ldc2_w 112, 3) := by decide +kernel
theorem d_M_observe_10 : decode b_M_observe 10 = .ok (.lreturn, 1) := by decide +kernel
theorem d_M_observe_11 : decode b_M_observe 11 = .ok (.iload_n 1, 1) := by decide +kernel
theorem d_M_observe_12 : decode b_M_observe 12 = .ok (.ifCond .ge 7, 3) := by decide +kernel
theorem d_M_observe_15 : decode b_M_observe 15 = .ok (.ldc2_w 119, 3) := by decide +kernel
theorem d_M_observe_18 : decode b_M_observe 18 = .ok (.lreturn, 1) := by decide +kernel
theorem d_M_observe_19 : decode b_M_observe 19 = .ok (.aload_n 0, 1) := by decide +kernel
theorem d_M_observe_20 : decode b_M_observe 20 = .ok (.getfield 71, 3) := by decide +kernel
theorem d_M_observe_23 : decode b_M_observe 23 = .ok (.iload_n 1, 1) := by decide +kernel
theorem d_M_observe_24 : decode b_M_observe 24 = .ok (.i2l, 1) := by decide +kernel
theorem d_M_observe_25 : decode b_M_observe 25 = .ok (.lsub, 1) := by decide +kernel
theorem d_M_observe_26 : decode b_M_observe 26 = .ok (.lstore_n 2, 1) := by decide +kernel
theorem d_M_observe_27 : decode b_M_observe 27 = .ok (.lload_n 2, 1) := by decide +kernel
theorem d_M_observe_28 : decode b_M_observe 28 = .ok (.aload_n 0, 1) := by decide +kernel
theorem d_M_observe_29 : decode b_M_observe 29 = .ok (.getfield 42, 3) := by decide +kernel
theorem d_M_observe_32 : decode b_M_observe 32 = .ok (.iconst 0, 1) := by decide +kernel
theorem d_M_observe_33 : decode b_M_observe 33 = .ok (.laload, 1) := by decide +kernel
theorem d_M_observe_34 : decode b_M_observe 34 = .ok (.lcmp, 1) := by decide +kernel
theorem d_M_observe_35 : decode b_M_observe 35 = .ok (.ifCond .ge 7, 3) := by decide +kernel
theorem d_M_observe_38 : decode b_M_observe 38 = .ok (.ldc2_w 195, 3) := by decide +kernel
theorem d_M_observe_41 : decode b_M_observe 41 = .ok (.lreturn, 1) := by decide +kernel
theorem d_M_observe_42 : decode b_M_observe 42 = .ok (.iconst 0, 1) := by decide +kernel
theorem d_M_observe_43 : decode b_M_observe 43 = .ok (.istore 4, 2) := by decide +kernel
theorem d_M_observe_45 : decode b_M_observe 45 = .ok (.iload 4, 2) := by decide +kernel
theorem d_M_observe_47 : decode b_M_observe 47 = .ok (.iconst 1, 1) := by decide +kernel
theorem d_M_observe_48 : decode b_M_observe 48 = .ok (.iadd, 1) := by decide +kernel
theorem d_M_observe_49 : decode b_M_observe 49 = .ok (.aload_n 0, 1) := by decide +kernel
theorem d_M_observe_50 : decode b_M_observe 50 = .ok (.getfield 68, 3) := by decide +kernel
theorem d_M_observe_53 : decode b_M_observe 53 = .ok (.if_icmp .ge 23, 3) := by decide +kernel
theorem d_M_observe_56 : decode b_M_observe 56 = .ok (.aload_n 0, 1) := by decide +kernel
theorem d_M_observe_57 : decode b_M_observe 57 = .ok (.getfield 42, 3) := by decide +kernel
theorem d_M_observe_60 : decode b_M_observe 60 = .ok (.iload 4, 2) := by decide +kernel
theorem d_M_observe_62 : decode b_M_observe 62 = .ok (.iconst 1, 1) := by decide +kernel
theorem d_M_observe_63 : decode b_M_observe 63 = .ok (.iadd, 1) := by decide +kernel
theorem d_M_observe_64 : decode b_M_observe 64 = .ok (.laload, 1) := by decide +kernel
theorem d_M_observe_65 : decode b_M_observe 65 = .ok (.lload_n 2, 1) := by decide +kernel
theorem d_M_observe_66 : decode b_M_observe 66 = .ok (.lcmp, 1) := by decide +kernel
theorem d_M_observe_67 : decode b_M_observe 67 = .ok (.ifCond .gt 9, 3) := by decide +kernel
theorem d_M_observe_70 : decode b_M_observe 70 = .ok (.iinc 4 1, 3) := by decide +kernel
theorem d_M_observe_73 : decode b_M_observe 73 = .ok (.goto (-28), 3) := by decide +kernel
theorem d_M_observe_76 : decode b_M_observe 76 = .ok (.iload 4, 2) := by decide +kernel
theorem d_M_observe_78 : decode b_M_observe 78 = .ok (.iconst 1, 1) := by decide +kernel
theorem d_M_observe_79 : decode b_M_observe 79 = .ok (.iadd, 1) := by decide +kernel
theorem d_M_observe_80 : decode b_M_observe 80 = .ok (.aload_n 0, 1) := by decide +kernel
theorem d_M_observe_81 : decode b_M_observe 81 = .ok (.getfield 68, 3) := by decide +kernel
theorem d_M_observe_84 : decode b_M_observe 84 = .ok (.if_icmp .ge 41, 3) := by decide +kernel
theorem d_M_observe_87 : decode b_M_observe 87 = .ok (.aload_n 0, 1) := by decide +kernel
theorem d_M_observe_88 : decode b_M_observe 88 = .ok (.getfield 45, 3) := by decide +kernel
theorem d_M_observe_91 : decode b_M_observe 91 = .ok (.iload 4, 2) := by decide +kernel
theorem d_M_observe_93 : decode b_M_observe 93 = .ok (.iconst 1, 1) := by decide +kernel
theorem d_M_observe_94 : decode b_M_observe 94 = .ok (.iadd, 1) := by decide +kernel
theorem d_M_observe_95 : decode b_M_observe 95 = .ok (.laload, 1) := by decide +kernel
theorem d_M_observe_96 : decode b_M_observe 96 = .ok (.aload_n 0, 1) := by decide +kernel
theorem d_M_observe_97 : decode b_M_observe 97 = .ok (.getfield 45, 3) := by decide +kernel
theorem d_M_observe_100 : decode b_M_observe 100 = .ok (.iload 4, 2) := by decide +kernel
theorem d_M_observe_102 : decode b_M_observe 102 = .ok (.laload, 1) := by decide +kernel
theorem d_M_observe_103 : decode b_M_observe 103 = .ok (.lsub, 1) := by decide +kernel
theorem d_M_observe_104 : decode b_M_observe 104 = .ok (.aload_n 0, 1) := by decide +kernel
theorem d_M_observe_105 : decode b_M_observe 105 = .ok (.getfield 42, 3) := by decide +kernel
theorem d_M_observe_108 : decode b_M_observe 108 = .ok (.iload 4, 2) := by decide +kernel
theorem d_M_observe_110 : decode b_M_observe 110 = .ok (.iconst 1, 1) := by decide +kernel
theorem d_M_observe_111 : decode b_M_observe 111 = .ok (.iadd, 1) := by decide +kernel
theorem d_M_observe_112 : decode b_M_observe 112 = .ok (.laload, 1) := by decide +kernel
theorem d_M_observe_113 : decode b_M_observe 113 = .ok (.aload_n 0, 1) := by decide +kernel
theorem d_M_observe_114 : decode b_M_observe 114 = .ok (.getfield 42, 3) := by decide +kernel
theorem d_M_observe_117 : decode b_M_observe 117 = .ok (.iload 4, 2) := by decide +kernel
theorem d_M_observe_119 : decode b_M_observe 119 = .ok (.laload, 1) := by decide +kernel
theorem d_M_observe_120 : decode b_M_observe 120 = .ok (.lsub, 1) := by decide +kernel
theorem d_M_observe_121 : decode b_M_observe 121 = .ok (.ldiv, 1) := by decide +kernel
theorem d_M_observe_122 : decode b_M_observe 122 = .ok (.goto 8, 3) := by decide +kernel
theorem d_M_observe_125 : decode b_M_observe 125 = .ok (.aload_n 0, 1) := by decide +kernel
theorem d_M_observe_126 : decode b_M_observe 126 = .ok (.getfield 86, 3) := by decide +kernel
theorem d_M_observe_129 : decode b_M_observe 129 = .ok (.i2l, 1) := by decide +kernel
theorem d_M_observe_130 : decode b_M_observe 130 = .ok (.lstore 5, 2) := by decide +kernel
theorem d_M_observe_132 : decode b_M_observe 132 = .ok (.aload_n 0, 1) := by decide +kernel
theorem d_M_observe_133 : decode b_M_observe 133 = .ok (.getfield 45, 3) := by decide +kernel
theorem d_M_observe_136 : decode b_M_observe 136 = .ok (.iload 4, 2) := by decide +kernel
theorem d_M_observe_138 : decode b_M_observe 138 = .ok (.laload, 1) := by decide +kernel
theorem d_M_observe_139 : decode b_M_observe 139 = .ok (.lload 5, 2) := by decide +kernel
theorem d_M_observe_141 : decode b_M_observe 141 = .ok (.lload_n 2, 1) := by decide +kernel
theorem d_M_observe_142 : decode b_M_observe 142 = .ok (.aload_n 0, 1) := by decide +kernel
theorem d_M_observe_143 : decode b_M_observe 143 = .ok (.getfield 42, 3) := by decide +kernel
theorem d_M_observe_146 : decode b_M_observe 146 = .ok (.iload 4, 2) := by decide +kernel
theorem d_M_observe_148 : decode b_M_observe 148 = .ok (.laload, 1) := by decide +kernel
theorem d_M_observe_149 : decode b_M_observe 149 = .ok (.lsub, 1) := by decide +kernel
theorem d_M_observe_150 : decode b_M_observe 150 = .ok (.lmul, 1) := by decide +kernel
theorem d_M_observe_151 : decode b_M_observe 151 = .ok (.ladd, 1) := by decide +kernel
theorem d_M_observe_152 : decode b_M_observe 152 = .ok (.lreturn, 1) := by decide +kernel
theorem d_M_price0_0 : decode b_M_price0 0 = .ok (.aload_n 0, 1) := by decide +kernel
theorem d_M_price0_1 : decode b_M_price0 1 = .ok (.getfield 93, 3) := by decide +kernel
theorem d_M_price0_4 : decode b_M_price0 4 = .ok (.l2i, 1) := by decide +kernel
theorem d_M_price0_5 : decode b_M_price0 5 = .ok (.ireturn, 1) := by decide +kernel
theorem d_M_step_0 : decode b_M_step 0 = .ok (.aload_n 0, 1) := by decide +kernel
theorem d_M_step_1 : decode b_M_step 1 = .ok (.getfield 86, 3) := by decide +kernel
theorem d_M_step_4 : decode b_M_step 4 = .ok (.ireturn, 1) := by decide +kernel
theorem d_M_depth_0 : decode b_M_depth 0 = .ok (.aload_n 0, 1) := by decide +kernel
theorem d_M_depth_1 : decode b_M_depth 1 = .ok (.aload_n 0, 1) := by decide +kernel
theorem d_M_depth_2 : decode b_M_depth 2 = .ok (.getfield 86, 3) := by decide +kernel
theorem d_M_depth_5 : decode b_M_depth 5 = .ok (.invokevirtual 167, 3) := by decide +kernel
theorem d_M_depth_8 : decode b_M_depth 8 = .ok (.l2i, 1) := by decide +kernel
theorem d_M_depth_9 : decode b_M_depth 9 = .ok (.ireturn, 1) := by decide +kernel
theorem d_M_wallet_0 : decode b_M_wallet 0 = .ok (.iload_n 1, 1) := by decide +kernel
theorem d_M_wallet_1 : decode b_M_wallet 1 = .ok (.invokestatic 99, 3) := by decide +kernel
theorem d_M_wallet_4 : decode b_M_wallet 4 = .ok (.ifCond .eq 25, 3) := by decide +kernel
theorem d_M_wallet_7 : decode b_M_wallet 7 = .ok (.iload_n 2, 1) := by decide +kernel
theorem d_M_wallet_8 : decode b_M_wallet 8 = .ok (.ifCond .lt 21, 3) := by decide +kernel
theorem d_M_wallet_11 : decode b_M_wallet 11 = .ok (.iload_n 2, 1) := by decide +kernel
theorem d_M_wallet_12 : decode b_M_wallet 12 = .ok (.iconst 1, 1) := by decide +kernel
theorem d_M_wallet_13 : decode b_M_wallet 13 = .ok (.if_icmp .gt 16, 3) := by decide +kernel
theorem d_M_wallet_16 : decode b_M_wallet 16 = .ok (.aload_n 0, 1) := by decide +kernel
theorem d_M_wallet_17 : decode b_M_wallet 17 = .ok (.getfield 13, 3) := by decide +kernel
theorem d_M_wallet_20 : decode b_M_wallet 20 = .ok (.iconst 2, 1) := by decide +kernel
theorem d_M_wallet_21 : decode b_M_wallet 21 = .ok (.iload_n 1, 1) := by decide +kernel
theorem d_M_wallet_22 : decode b_M_wallet 22 = .ok (.imul, 1) := by decide +kernel
theorem d_M_wallet_23 : decode b_M_wallet 23 = .ok (.iload_n 2, 1) := by decide +kernel
theorem d_M_wallet_24 : decode b_M_wallet 24 = .ok (.iadd, 1) := by decide +kernel
theorem d_M_wallet_25 : decode b_M_wallet 25 = .ok (.laload, 1) := by decide +kernel
theorem d_M_wallet_26 : decode b_M_wallet 26 = .ok (.goto 6, 3) := by decide +kernel
theorem d_M_wallet_29 : decode b_M_wallet 29 = .ok (.ldc2_w 119, 3) := by decide +kernel
theorem d_M_wallet_32 : decode b_M_wallet 32 = .ok (.lreturn, 1) := by decide +kernel
theorem d_M_reserve_0 : decode b_M_reserve 0 = .ok (.iload_n 1, 1) := by decide +kernel
theorem d_M_reserve_1 : decode b_M_reserve 1 = .ok (.ifCond .lt 17, 3) := by decide +kernel
theorem d_M_reserve_4 : decode b_M_reserve 4 = .ok (.iload_n 1, 1) := by decide +kernel
theorem d_M_reserve_5 : decode b_M_reserve 5 = .ok (.iconst 1, 1) := by decide +kernel
theorem d_M_reserve_6 : decode b_M_reserve 6 = .ok (.if_icmp .gt 12, 3) := by decide +kernel
theorem d_M_reserve_9 : decode b_M_reserve 9 = .ok (.aload_n 0, 1) := by decide +kernel
theorem d_M_reserve_10 : decode b_M_reserve 10 = .ok (.getfield 16, 3) := by decide +kernel
theorem d_M_reserve_13 : decode b_M_reserve 13 = .ok (.iload_n 1, 1) := by decide +kernel
theorem d_M_reserve_14 : decode b_M_reserve 14 = .ok (.laload, 1) := by decide +kernel
theorem d_M_reserve_15 : decode b_M_reserve 15 = .ok (.goto 6, 3) := by decide +kernel
theorem d_M_reserve_18 : decode b_M_reserve 18 = .ok (.ldc2_w 119, 3) := by decide +kernel
theorem d_M_reserve_21 : decode b_M_reserve 21 = .ok (.lreturn, 1) := by decide +kernel
theorem d_M_lot_0 : decode b_M_lot 0 = .ok (.aload_n 0, 1) := by decide +kernel
theorem d_M_lot_1 : decode b_M_lot 1 = .ok (.iload_n 1, 1) := by decide +kernel
theorem d_M_lot_2 : decode b_M_lot 2 = .ok (.iload_n 2, 1) := by decide +kernel
theorem d_M_lot_3 : decode b_M_lot 3 = .ok (.iload_n 3, 1) := by decide +kernel
theorem d_M_lot_4 : decode b_M_lot 4 = .ok (.invokevirtual 121, 3) := by decide +kernel
theorem d_M_lot_7 : decode b_M_lot 7 = .ok (.istore 5, 2) := by decide +kernel
theorem d_M_lot_9 : decode b_M_lot 9 = .ok (.iload 5, 2) := by decide +kernel
theorem d_M_lot_11 : decode b_M_lot 11 = .ok (.ifCond .ge 7, 3) := by decide +kernel
theorem d_M_lot_14 : decode b_M_lot 14 = .ok (.ldc2_w 146, 3) := by decide +kernel
theorem d_M_lot_17 : decode b_M_lot 17 = .ok (.lreturn, 1) := by decide +kernel
theorem d_M_lot_18 : decode b_M_lot 18 = .ok (.iload 4, 2) := by decide +kernel
theorem d_M_lot_20 : decode b_M_lot 20 = .ok (.ifCond .ne 13, 3) := by decide +kernel
theorem d_M_lot_23 : decode b_M_lot 23 = .ok (.aload_n 0, 1) := by decide +kernel
theorem d_M_lot_24 : decode b_M_lot 24 = .ok (.getfield 33, 3) := by decide +kernel
theorem d_M_lot_27 : decode b_M_lot 27 = .ok (.iload 5, 2) := by decide +kernel
theorem d_M_lot_29 : decode b_M_lot 29 = .ok (.laload, 1) := by decide +kernel
theorem d_M_lot_30 : decode b_M_lot 30 = .ok (.goto 44, 3) := by decide +kernel
theorem d_M_lot_33 : decode b_M_lot 33 = .ok (.iload 4, 2) := by decide +kernel
theorem d_M_lot_35 : decode b_M_lot 35 = .ok (.iconst 1, 1) := by decide +kernel
theorem d_M_lot_36 : decode b_M_lot 36 = .ok (.if_icmp .ne 15, 3) := by decide +kernel
theorem d_M_lot_39 : decode b_M_lot 39 = .ok (.aload_n 0, 1) := by decide +kernel
theorem d_M_lot_40 : decode b_M_lot 40 = .ok (.getfield 36, 3) := by decide +kernel
theorem d_M_lot_43 : decode b_M_lot 43 = .ok (.iconst 2, 1) := by decide +kernel
theorem d_M_lot_44 : decode b_M_lot 44 = .ok (.iload 5, 2) := by decide +kernel
theorem d_M_lot_46 : decode b_M_lot 46 = .ok (.imul, 1) := by decide +kernel
theorem d_M_lot_47 : decode b_M_lot 47 = .ok (.laload, 1) := by decide +kernel
theorem d_M_lot_48 : decode b_M_lot 48 = .ok (.goto 26, 3) := by decide +kernel
theorem d_M_lot_51 : decode b_M_lot 51 = .ok (.iload 4, 2) := by decide +kernel
theorem d_M_lot_53 : decode b_M_lot 53 = .ok (.iconst 2, 1) := by decide +kernel
theorem d_M_lot_54 : decode b_M_lot 54 = .ok (.if_icmp .ne 17, 3) := by decide +kernel
theorem d_M_lot_57 : decode b_M_lot 57 = .ok (.aload_n 0, 1) := by decide +kernel
theorem d_M_lot_58 : decode b_M_lot 58 = .ok (.getfield 36, 3) := by decide +kernel
theorem d_M_lot_61 : decode b_M_lot 61 = .ok (.iconst 2, 1) := by decide +kernel
theorem d_M_lot_62 : decode b_M_lot 62 = .ok (.iload 5, 2) := by decide +kernel
theorem d_M_lot_64 : decode b_M_lot 64 = .ok (.imul, 1) := by decide +kernel
theorem d_M_lot_65 : decode b_M_lot 65 = .ok (.iconst 1, 1) := by decide +kernel
theorem d_M_lot_66 : decode b_M_lot 66 = .ok (.iadd, 1) := by decide +kernel
theorem d_M_lot_67 : decode b_M_lot 67 = .ok (.laload, 1) := by decide +kernel
theorem d_M_lot_68 : decode b_M_lot 68 = .ok (.goto 6, 3) := by decide +kernel
theorem d_M_lot_71 : decode b_M_lot 71 = .ok (.ldc2_w 119, 3) := by decide +kernel
theorem d_M_lot_74 : decode b_M_lot 74 = .ok (.lreturn, 1) := by decide +kernel
theorem d_M_net_0 : decode b_M_net 0 = .ok (.lconst 0, 1) := by decide +kernel
theorem d_M_net_1 : decode b_M_net 1 = .ok (.lstore_n 2, 1) := by decide +kernel
theorem d_M_net_2 : decode b_M_net 2 = .ok (.iconst 0, 1) := by decide +kernel
theorem d_M_net_3 : decode b_M_net 3 = .ok (.istore 4, 2) := by decide +kernel
theorem d_M_net_5 : decode b_M_net 5 = .ok (.iload 4, 2) := by decide +kernel
theorem d_M_net_7 : decode b_M_net 7 = .ok (.bipush 10, 2) := by decide +kernel
theorem d_M_net_9 : decode b_M_net 9 = .ok (.if_icmp .ge 79, 3) := by decide +kernel
theorem d_M_net_12 : decode b_M_net 12 = .ok (.lload_n 2, 1) := by decide +kernel
theorem d_M_net_13 : decode b_M_net 13 = .ok (.aload_n 0, 1) := by decide +kernel
theorem d_M_net_14 : decode b_M_net 14 = .ok (.getfield 19, 3) := by decide +kernel
theorem d_M_net_17 : decode b_M_net 17 = .ok (.iload 4, 2) := by decide +kernel
theorem d_M_net_19 : decode b_M_net 19 = .ok (.baload, 1) := by decide +kernel
theorem d_M_net_20 : decode b_M_net 20 = .ok (.ifCond .eq 24, 3) := by decide +kernel
theorem d_M_net_23 : decode b_M_net 23 = .ok (.aload_n 0, 1) := by decide +kernel
theorem d_M_net_24 : decode b_M_net 24 = .ok (.getfield 27, 3) := by decide +kernel
theorem d_M_net_27 : decode b_M_net 27 = .ok (.iload 4, 2) := by decide +kernel
theorem d_M_net_29 : decode b_M_net 29 = .ok (.iaload, 1) := by decide +kernel
theorem d_M_net_30 : decode b_M_net 30 = .ok (.iload_n 1, 1) := by decide +kernel
theorem d_M_net_31 : decode b_M_net 31 = .ok (.if_icmp .ne 13, 3) := by decide +kernel
theorem d_M_net_34 : decode b_M_net 34 = .ok (.aload_n 0, 1) := by decide +kernel
theorem d_M_net_35 : decode b_M_net 35 = .ok (.getfield 33, 3) := by decide +kernel
theorem d_M_net_38 : decode b_M_net 38 = .ok (.iload 4, 2) := by decide +kernel
theorem d_M_net_40 : decode b_M_net 40 = .ok (.laload, 1) := by decide +kernel
theorem d_M_net_41 : decode b_M_net 41 = .ok (.goto 4, 3) := by decide +kernel
theorem d_M_net_44 : decode b_M_net 44 = .ok (.lconst 0, 1) := by decide +kernel
theorem d_M_net_45 : decode b_M_net 45 = .ok (.ladd, 1) := by decide +kernel
theorem d_M_net_46 : decode b_M_net 46 = .ok (.lstore_n 2, 1) := by decide +kernel
theorem d_M_net_47 : decode b_M_net 47 = .ok (.lload_n 2, 1) := by decide +kernel
theorem d_M_net_48 : decode b_M_net 48 = .ok (.aload_n 0, 1) := by decide +kernel
theorem d_M_net_49 : decode b_M_net 49 = .ok (.getfield 19, 3) := by decide +kernel
theorem d_M_net_52 : decode b_M_net 52 = .ok (.iload 4, 2) := by decide +kernel
theorem d_M_net_54 : decode b_M_net 54 = .ok (.baload, 1) := by decide +kernel
theorem d_M_net_55 : decode b_M_net 55 = .ok (.ifCond .eq 24, 3) := by decide +kernel
theorem d_M_net_58 : decode b_M_net 58 = .ok (.aload_n 0, 1) := by decide +kernel
theorem d_M_net_59 : decode b_M_net 59 = .ok (.getfield 30, 3) := by decide +kernel
theorem d_M_net_62 : decode b_M_net 62 = .ok (.iload 4, 2) := by decide +kernel
theorem d_M_net_64 : decode b_M_net 64 = .ok (.iaload, 1) := by decide +kernel
theorem d_M_net_65 : decode b_M_net 65 = .ok (.iload_n 1, 1) := by decide +kernel
theorem d_M_net_66 : decode b_M_net 66 = .ok (.if_icmp .ne 13, 3) := by decide +kernel
theorem d_M_net_69 : decode b_M_net 69 = .ok (.aload_n 0, 1) := by decide +kernel
theorem d_M_net_70 : decode b_M_net 70 = .ok (.getfield 33, 3) := by decide +kernel
theorem d_M_net_73 : decode b_M_net 73 = .ok (.iload 4, 2) := by decide +kernel
theorem d_M_net_75 : decode b_M_net 75 = .ok (.laload, 1) := by decide +kernel
theorem d_M_net_76 : decode b_M_net 76 = .ok (.goto 4, 3) := by decide +kernel
theorem d_M_net_79 : decode b_M_net 79 = .ok (.lconst 0, 1) := by decide +kernel
theorem d_M_net_80 : decode b_M_net 80 = .ok (.lsub, 1) := by decide +kernel
theorem d_M_net_81 : decode b_M_net 81 = .ok (.lstore_n 2, 1) := by decide +kernel
theorem d_M_net_82 : decode b_M_net 82 = .ok (.iinc 4 1, 3) := by decide +kernel
theorem d_M_net_85 : decode b_M_net 85 = .ok (.goto (-80), 3) := by decide +kernel
theorem d_M_net_88 : decode b_M_net 88 = .ok (.lload_n 2, 1) := by decide +kernel
theorem d_M_net_89 : decode b_M_net 89 = .ok (.l2i, 1) := by decide +kernel
theorem d_M_net_90 : decode b_M_net 90 = .ok (.ireturn, 1) := by decide +kernel
end
section
theorem d_P_init_0 : decode b_P_init 0 = .ok (.aload_n 0, 1) := by decide +kernel
theorem d_P_init_1 : decode b_P_init 1 = .ok (.invokespecial 1, 3) := by decide +kernel
theorem d_P_init_4 : decode b_P_init 4 = .ok (.aload_n 0, 1) := by decide +kernel
theorem d_P_init_5 : decode b_P_init 5 = .ok (.iconst 4, 1) := by decide +kernel
theorem d_P_init_6 : decode b_P_init 6 = .ok (.iconst 2, 1) := by decide +kernel
theorem d_P_init_7 : decode b_P_init 7 = .ok (.multianewarray 9 2, 4) := by decide +kernel
theorem d_P_init_11 : decode b_P_init 11 = .ok (.putfield 11, 3) := by decide +kernel
theorem d_P_init_14 : decode b_P_init 14 = .ok (.aload_n 0, 1) := by decide +kernel
theorem d_P_init_15 : decode b_P_init 15 = .ok (.iconst 2, 1) := by decide +kernel
theorem d_P_init_16 : decode b_P_init 16 = .ok (.newarray .long, 2) := by decide +kernel
theorem d_P_init_18 : decode b_P_init 18 = .ok (.putfield 14, 3) := by decide +kernel
theorem d_P_init_21 : decode b_P_init 21 = .ok (.aload_n 0, 1) := by decide +kernel
theorem d_P_init_22 : decode b_P_init 22 = .ok (.new 18, 3) := by decide +kernel
theorem d_P_init_25 : decode b_P_init 25 = .ok (.dup, 1) := by decide +kernel
theorem d_P_init_26 : decode b_P_init 26 = .ok (.invokespecial 20, 3) := by decide +kernel
theorem d_P_init_29 : decode b_P_init 29 = .ok (.putfield 21, 3) := by decide +kernel
theorem d_P_init_32 : decode b_P_init 32 = .ok (.aload_n 0, 1) := by decide +kernel
theorem d_P_init_33 : decode b_P_init 33 = .ok (.new 25, 3) := by decide +kernel
theorem d_P_init_36 : decode b_P_init 36 = .ok (.dup, 1) := by decide +kernel
theorem d_P_init_37 : decode b_P_init 37 = .ok (.invokespecial 27, 3) := by decide +kernel
theorem d_P_init_40 : decode b_P_init 40 = .ok (.putfield 28, 3) := by decide +kernel
theorem d_P_init_43 : decode b_P_init 43 = .ok (.aload_n 0, 1) := by decide +kernel
theorem d_P_init_44 : decode b_P_init 44 = .ok (.iload_n 1, 1) := by decide +kernel
theorem d_P_init_45 : decode b_P_init 45 = .ok (.invokestatic 32, 3) := by decide +kernel
theorem d_P_init_48 : decode b_P_init 48 = .ok (.ifCond .eq 7, 3) := by decide +kernel
theorem d_P_init_51 : decode b_P_init 51 = .ok (.iload_n 1, 1) := by decide +kernel
theorem d_P_init_52 : decode b_P_init 52 = .ok (.goto 4, 3) := by decide +kernel
theorem d_P_init_55 : decode b_P_init 55 = .ok (.iconst 1, 1) := by decide +kernel
theorem d_P_init_56 : decode b_P_init 56 = .ok (.putfield 36, 3) := by decide +kernel
theorem d_P_init_59 : decode b_P_init 59 = .ok (.aload_n 0, 1) := by decide +kernel
theorem d_P_init_60 : decode b_P_init 60 = .ok (.iload_n 2, 1) := by decide +kernel
theorem d_P_init_61 : decode b_P_init 61 = .ok (.ifCond .lt 13, 3) := by decide +kernel
theorem d_P_init_64 : decode b_P_init 64 = .ok (.iload_n 2, 1) := by decide +kernel
theorem d_P_init_65 : decode b_P_init 65 = .ok (.bipush 100, 2) := by decide +kernel
theorem d_P_init_67 : decode b_P_init 67 = .ok (.if_icmp .gt 7, 3) := by decide +kernel
theorem d_P_init_70 : decode b_P_init 70 = .ok (.iload_n 2, 1) := by decide +kernel
theorem d_P_init_71 : decode b_P_init 71 = .ok (.goto 4, 3) := by decide +kernel
theorem d_P_init_74 : decode b_P_init 74 = .ok (.iconst 3, 1) := by decide +kernel
theorem d_P_init_75 : decode b_P_init 75 = .ok (.putfield 40, 3) := by decide +kernel
theorem d_P_init_78 : decode b_P_init 78 = .ok (.aload_n 0, 1) := by decide +kernel
theorem d_P_init_79 : decode b_P_init 79 = .ok (.new 43, 3) := by decide +kernel
theorem d_P_init_82 : decode b_P_init 82 = .ok (.dup, 1) := by decide +kernel
theorem d_P_init_83 : decode b_P_init 83 = .ok (.aload_n 0, 1) := by decide +kernel
theorem d_P_init_84 : decode b_P_init 84 = .ok (.getfield 40, 3) := by decide +kernel
theorem d_P_init_87 : decode b_P_init 87 = .ok (.invokespecial 45, 3) := by decide +kernel
theorem d_P_init_90 : decode b_P_init 90 = .ok (.putfield 48, 3) := by decide +kernel
theorem d_P_init_93 : decode b_P_init 93 = .ok (.return_, 1) := by decide +kernel
theorem d_P_open_0 : decode b_P_open 0 = .ok (.aload_n 0, 1) := by decide +kernel
theorem d_P_open_1 : decode b_P_open 1 = .ok (.getfield 52, 3) := by decide +kernel
theorem d_P_open_4 : decode b_P_open 4 = .ok (.ifCond .ne 10, 3) := by decide +kernel
theorem d_P_open_7 : decode b_P_open 7 = .ok (.iload_n 1, 1) := by decide +kernel
theorem d_P_open_8 : decode b_P_open 8 = .ok (.invokestatic 56, 3) := by decide +kernel
theorem d_P_open_11 : decode b_P_open 11 = .ok (.ifCond .ne 5, 3) := by decide +kernel
theorem d_P_open_14 : decode b_P_open 14 = .ok (.iconst 0, 1) := by decide +kernel
theorem d_P_open_15 : decode b_P_open 15 = .ok (.ireturn, 1) := by decide +kernel
theorem d_P_open_16 : decode b_P_open 16 = .ok (.aload_n 0, 1) := by decide +kernel
theorem d_P_open_17 : decode b_P_open 17 = .ok (.iconst 1, 1) := by decide +kernel
theorem d_P_open_18 : decode b_P_open 18 = .ok (.putfield 52, 3) := by decide +kernel
theorem d_P_open_21 : decode b_P_open 21 = .ok (.aload_n 0, 1) := by decide +kernel
theorem d_P_open_22 : decode b_P_open 22 = .ok (.iload_n 1, 1) := by decide +kernel
theorem d_P_open_23 : decode b_P_open 23 = .ok (.invokestatic 59, 3) := by decide +kernel
theorem d_P_open_26 : decode b_P_open 26 = .ok (.putfield 63, 3) := by decide +kernel
theorem d_P_open_29 : decode b_P_open 29 = .ok (.aload_n 0, 1) := by decide +kernel
theorem d_P_open_30 : decode b_P_open 30 = .ok (.iload_n 1, 1) := by decide +kernel
theorem d_P_open_31 : decode b_P_open 31 = .ok (.putfield 66, 3) := by decide +kernel
theorem d_P_open_34 : decode b_P_open 34 = .ok (.aload_n 0, 1) := by decide +kernel
theorem d_P_open_35 : decode b_P_open 35 = .ok (.getfield 28, 3) := by decide +kernel
theorem d_P_open_38 : decode b_P_open 38 = .ok (.iload_n 1, 1) := by decide +kernel
theorem d_P_open_39 : decode b_P_open 39 = .ok (.invokevirtual 69, 3) := by decide +kernel
theorem d_P_open_42 : decode b_P_open 42 = .ok (.iconst 1, 1) := by decide +kernel
theorem d_P_open_43 : decode b_P_open 43 = .ok (.ireturn, 1) := by decide +kernel
theorem d_P_fund_0 : decode b_P_fund 0 = .ok (.iload_n 1, 1) := by decide +kernel
theorem d_P_fund_1 : decode b_P_fund 1 = .ok (.invokestatic 72, 3) := by decide +kernel
theorem d_P_fund_4 : decode b_P_fund 4 = .ok (.ifCond .eq 20, 3) := by decide +kernel
theorem d_P_fund_7 : decode b_P_fund 7 = .ok (.iload_n 2, 1) := by decide +kernel
theorem d_P_fund_8 : decode b_P_fund 8 = .ok (.invokestatic 75, 3) := by decide +kernel
theorem d_P_fund_11 : decode b_P_fund 11 = .ok (.ifCond .eq 13, 3) := by decide +kernel
theorem d_P_fund_14 : decode b_P_fund 14 = .ok (.iload_n 3, 1) := by decide +kernel
theorem d_P_fund_15 : decode b_P_fund 15 = .ok (.ifCond .lt 9, 3) := by decide +kernel
theorem d_P_fund_18 : decode b_P_fund 18 = .ok (.iload_n 3, 1) := by decide +kernel
theorem d_P_fund_19 : decode b_P_fund 19 = .ok (.ldc 78, 2) := by decide +kernel
theorem d_P_fund_21 : decode b_P_fund 21 = .ok (.if_icmp .le 5, 3) := by decide +kernel
theorem d_P_fund_24 : decode b_P_fund 24 = .ok (.iconst 0, 1) := by decide +kernel
theorem d_P_fund_25 : decode b_P_fund 25 = .ok (.ireturn, 1) := by decide +kernel
theorem d_P_fund_26 : decode b_P_fund 26 = .ok (.aload_n 0, 1) := by decide +kernel
theorem d_P_fund_27 : decode b_P_fund 27 = .ok (.getfield 11, 3) := by decide +kernel
theorem d_P_fund_30 : decode b_P_fund 30 = .ok (.iload_n 1, 1) := by decide +kernel
theorem d_P_fund_31 : decode b_P_fund 31 = .ok (.aaload, 1) := by decide +kernel
theorem d_P_fund_32 : decode b_P_fund 32 = .ok (.iload_n 2, 1) := by decide +kernel
theorem d_P_fund_33 : decode b_P_fund 33 = .ok (.dup2, 1) := by decide +kernel
theorem d_P_fund_34 : decode b_P_fund 34 = .ok (.laload, 1) := by decide +kernel
theorem d_P_fund_35 : decode b_P_fund 35 = .ok (.iload_n 3, 1) := by decide +kernel
theorem d_P_fund_36 : decode b_P_fund 36 = .ok (.i2l, 1) := by decide +kernel
theorem d_P_fund_37 : decode b_P_fund 37 = .ok (.ladd, 1) := by decide +kernel
theorem d_P_fund_38 : decode b_P_fund 38 = .ok (.lastore, 1) := by decide +kernel
theorem d_P_fund_39 : decode b_P_fund 39 = .ok (.iconst 1, 1) := by decide +kernel
theorem d_P_fund_40 : decode b_P_fund 40 = .ok (.ireturn, 1) := by decide +kernel
theorem d_P_mint_0 : decode b_P_mint 0 = .ok (.aload_n 0, 1) := by decide +kernel
theorem d_P_mint_1 : decode b_P_mint 1 = .ok (.getfield 52, 3) := by decide +kernel
theorem d_P_mint_4 : decode b_P_mint 4 = .ok (.ifCond .ne 7, 3) := by decide +kernel
theorem d_P_mint_7 : decode b_P_mint 7 = .ok (.ldc2_w 79, 3) := by decide +kernel
theorem d_P_mint_10 : decode b_P_mint 10 = .ok (.lreturn, 1) := by decide +kernel
theorem d_P_mint_11 : decode b_P_mint 11 = .ok (.iload_n 1, 1) := by decide +kernel
theorem d_P_mint_12 : decode b_P_mint 12 = .ok (.invokestatic 72, 3) := by decide +kernel
theorem d_P_mint_15 : decode b_P_mint 15 = .ok (.ifCond .eq 25, 3) := by decide +kernel
theorem d_P_mint_18 : decode b_P_mint 18 = .ok (.aload_n 0, 1) := by decide +kernel
theorem d_P_mint_19 : decode b_P_mint 19 = .ok (.iload_n 2, 1) := by decide +kernel
theorem d_P_mint_20 : decode b_P_mint 20 = .ok (.iload_n 3, 1) := by decide +kernel
theorem d_P_mint_21 : decode b_P_mint 21 = .ok (.invokevirtual 81, 3) := by decide +kernel
theorem d_P_mint_24 : decode b_P_mint 24 = .ok (.ifCond .eq 16, 3) := by decide +kernel
theorem d_P_mint_27 : decode b_P_mint 27 = .ok (.iload 4, 2) := by decide +kernel
theorem d_P_mint_29 : decode b_P_mint 29 = .ok (.iconst 1, 1) := by decide +kernel
theorem d_P_mint_30 : decode b_P_mint 30 = .ok (.if_icmp .lt 10, 3) := by decide +kernel
theorem d_P_mint_33 : decode b_P_mint 33 = .ok (.iload 4, 2) := by decide +kernel
theorem d_P_mint_35 : decode b_P_mint 35 = .ok (.ldc 85, 2) := by decide +kernel
theorem d_P_mint_37 : decode b_P_mint 37 = .ok (.if_icmp .le 7, 3) := by decide +kernel
theorem d_P_mint_40 : decode b_P_mint 40 = .ok (.ldc2_w 86, 3) := by decide +kernel
theorem d_P_mint_43 : decode b_P_mint 43 = .ok (.lreturn, 1) := by decide +kernel
theorem d_P_mint_44 : decode b_P_mint 44 = .ok (.aload_n 0, 1) := by decide +kernel
theorem d_P_mint_45 : decode b_P_mint 45 = .ok (.getfield 21, 3) := by decide +kernel
theorem d_P_mint_48 : decode b_P_mint 48 = .ok (.iload_n 1, 1) := by decide +kernel
theorem d_P_mint_49 : decode b_P_mint 49 = .ok (.iload_n 2, 1) := by decide +kernel
theorem d_P_mint_50 : decode b_P_mint 50 = .ok (.iload_n 3, 1) := by decide +kernel
theorem d_P_mint_51 : decode b_P_mint 51 = .ok (.invokevirtual 88, 3) := by decide +kernel
theorem d_P_mint_54 : decode b_P_mint 54 = .ok (.astore 5, 2) := by decide +kernel
theorem d_P_mint_56 : decode b_P_mint 56 = .ok (.aload 5, 2) := by decide +kernel
theorem d_P_mint_58 : decode b_P_mint 58 = .ok (.ifnull 21, 3) := by decide +kernel
theorem d_P_mint_61 : decode b_P_mint 61 = .ok (.aload_n 0, 1) := by decide +kernel
theorem d_P_mint_62 : decode b_P_mint 62 = .ok (.getfield 21, 3) := by decide +kernel
theorem d_P_mint_65 : decode b_P_mint 65 = .ok (.invokevirtual 92, 3) := by decide +kernel
theorem d_P_mint_68 : decode b_P_mint 68 = .ok (.iload 4, 2) := by decide +kernel
theorem d_P_mint_70 : decode b_P_mint 70 = .ok (.i2l, 1) := by decide +kernel
theorem d_P_mint_71 : decode b_P_mint 71 = .ok (.ladd, 1) := by decide +kernel
theorem d_P_mint_72 : decode b_P_mint 72 = .ok (.ldc2_w 96, 3) := by decide +kernel
theorem d_P_mint_75 : decode b_P_mint 75 = .ok (.lcmp, 1) := by decide +kernel
theorem d_P_mint_76 : decode b_P_mint 76 = .ok (.ifCond .le 7, 3) := by decide +kernel
theorem d_P_mint_79 : decode b_P_mint 79 = .ok (.ldc2_w 98, 3) := by decide +kernel
theorem d_P_mint_82 : decode b_P_mint 82 = .ok (.lreturn, 1) := by decide +kernel
theorem d_P_mint_83 : decode b_P_mint 83 = .ok (.aload_n 0, 1) := by decide +kernel
theorem d_P_mint_84 : decode b_P_mint 84 = .ok (.iload_n 2, 1) := by decide +kernel
theorem d_P_mint_85 : decode b_P_mint 85 = .ok (.iload_n 3, 1) := by decide +kernel
theorem d_P_mint_86 : decode b_P_mint 86 = .ok (.iload 4, 2) := by decide +kernel
theorem d_P_mint_88 : decode b_P_mint 88 = .ok (.i2l, 1) := by decide +kernel
theorem d_P_mint_89 : decode b_P_mint 89 = .ok (.iconst 1, 1) := by decide +kernel
theorem d_P_mint_90 : decode b_P_mint 90 = .ok (.invokevirtual 100, 3) := by decide +kernel
theorem d_P_mint_93 : decode b_P_mint 93 = .ok (.lstore 6, 2) := by decide +kernel
theorem d_P_mint_95 : decode b_P_mint 95 = .ok (.aload_n 0, 1) := by decide +kernel
theorem d_P_mint_96 : decode b_P_mint 96 = .ok (.iload_n 2, 1) := by decide +kernel
theorem d_P_mint_97 : decode b_P_mint 97 = .ok (.iload_n 3, 1) := by decide +kernel
theorem d_P_mint_98 : decode b_P_mint 98 = .ok (.iload 4, 2) := by decide +kernel
theorem d_P_mint_100 : decode b_P_mint 100 = .ok (.i2l, 1) := by decide +kernel
theorem d_P_mint_101 : decode b_P_mint 101 = .ok (.iconst 1, 1) := by decide +kernel
theorem d_P_mint_102 : decode b_P_mint 102 = .ok (.invokevirtual 104, 3) := by decide +kernel
theorem d_P_mint_105 : decode b_P_mint 105 = .ok (.lstore 8, 2) := by decide +kernel
theorem d_P_mint_107 : decode b_P_mint 107 = .ok (.aload_n 0, 1) := by decide +kernel
theorem d_P_mint_108 : decode b_P_mint 108 = .ok (.iload_n 1, 1) := by decide +kernel
theorem d_P_mint_109 : decode b_P_mint 109 = .ok (.lload 6, 2) := by decide +kernel
theorem d_P_mint_111 : decode b_P_mint 111 = .ok (.lload 8, 2) := by decide +kernel
theorem d_P_mint_113 : decode b_P_mint 113 = .ok (.invokevirtual 107, 3) := by decide +kernel
theorem d_P_mint_116 : decode b_P_mint 116 = .ok (.ifCond .ne 7, 3) := by decide +kernel
theorem d_P_mint_119 : decode b_P_mint 119 = .ok (.ldc2_w 111, 3) := by decide +kernel
theorem d_P_mint_122 : decode b_P_mint 122 = .ok (.lreturn, 1) := by decide +kernel
theorem d_P_mint_123 : decode b_P_mint 123 = .ok (.aload_n 0, 1) := by decide +kernel
theorem d_P_mint_124 : decode b_P_mint 124 = .ok (.getfield 28, 3) := by decide +kernel
theorem d_P_mint_127 : decode b_P_mint 127 = .ok (.aload_n 0, 1) := by decide +kernel
theorem d_P_mint_128 : decode b_P_mint 128 = .ok (.getfield 66, 3) := by decide +kernel
theorem d_P_mint_131 : decode b_P_mint 131 = .ok (.invokevirtual 69, 3) := by decide +kernel
theorem d_P_mint_134 : decode b_P_mint 134 = .ok (.aload_n 0, 1) := by decide +kernel
theorem d_P_mint_135 : decode b_P_mint 135 = .ok (.iload_n 1, 1) := by decide +kernel
theorem d_P_mint_136 : decode b_P_mint 136 = .ok (.lload 6, 2) := by decide +kernel
theorem d_P_mint_138 : decode b_P_mint 138 = .ok (.lload 8, 2) := by decide +kernel
theorem d_P_mint_140 : decode b_P_mint 140 = .ok (.invokevirtual 113, 3) := by decide +kernel
theorem d_P_mint_143 : decode b_P_mint 143 = .ok (.aload 5, 2) := by decide +kernel
theorem d_P_mint_145 : decode b_P_mint 145 = .ok (.invokevirtual 117, 3) := by decide +kernel
theorem d_P_mint_148 : decode b_P_mint 148 = .ok (.ifCond .ne 11, 3) := by decide +kernel
theorem d_P_mint_151 : decode b_P_mint 151 = .ok (.aload 5, 2) := by decide +kernel
theorem d_P_mint_153 : decode b_P_mint 153 = .ok (.iload_n 1, 1) := by decide +kernel
theorem d_P_mint_154 : decode b_P_mint 154 = .ok (.iload_n 2, 1) := by decide +kernel
theorem d_P_mint_155 : decode b_P_mint 155 = .ok (.iload_n 3, 1) := by decide +kernel
theorem d_P_mint_156 : decode b_P_mint 156 = .ok (.invokevirtual 123, 3) := by decide +kernel
theorem d_P_mint_159 : decode b_P_mint 159 = .ok (.aload 5, 2) := by decide +kernel
theorem d_P_mint_161 : decode b_P_mint 161 = .ok (.invokevirtual 127, 3) := by decide +kernel
theorem d_P_mint_164 : decode b_P_mint 164 = .ok (.aload 5, 2) := by decide +kernel
theorem d_P_mint_166 : decode b_P_mint 166 = .ok (.dup, 1) := by decide +kernel
theorem d_P_mint_167 : decode b_P_mint 167 = .ok (.getfield 130, 3) := by decide +kernel
theorem d_P_mint_170 : decode b_P_mint 170 = .ok (.iload 4, 2) := by decide +kernel
theorem d_P_mint_172 : decode b_P_mint 172 = .ok (.i2l, 1) := by decide +kernel
theorem d_P_mint_173 : decode b_P_mint 173 = .ok (.ladd, 1) := by decide +kernel
theorem d_P_mint_174 : decode b_P_mint 174 = .ok (.putfield 130, 3) := by decide +kernel
theorem d_P_mint_177 : decode b_P_mint 177 = .ok (.lload 6, 2) := by decide +kernel
theorem d_P_mint_179 : decode b_P_mint 179 = .ok (.lload 8, 2) := by decide +kernel
theorem d_P_mint_181 : decode b_P_mint 181 = .ok (.invokestatic 134, 3) := by decide +kernel
theorem d_P_mint_184 : decode b_P_mint 184 = .ok (.lreturn, 1) := by decide +kernel
theorem d_P_burn_0 : decode b_P_burn 0 = .ok (.aload_n 0, 1) := by decide +kernel
theorem d_P_burn_1 : decode b_P_burn 1 = .ok (.getfield 52, 3) := by decide +kernel
theorem d_P_burn_4 : decode b_P_burn 4 = .ok (.ifCond .ne 7, 3) := by decide +kernel
theorem d_P_burn_7 : decode b_P_burn 7 = .ok (.ldc2_w 79, 3) := by decide +kernel
theorem d_P_burn_10 : decode b_P_burn 10 = .ok (.lreturn, 1) := by decide +kernel
theorem d_P_burn_11 : decode b_P_burn 11 = .ok (.aload_n 0, 1) := by decide +kernel
theorem d_P_burn_12 : decode b_P_burn 12 = .ok (.getfield 21, 3) := by decide +kernel
theorem d_P_burn_15 : decode b_P_burn 15 = .ok (.iload_n 1, 1) := by decide +kernel
theorem d_P_burn_16 : decode b_P_burn 16 = .ok (.iload_n 2, 1) := by decide +kernel
theorem d_P_burn_17 : decode b_P_burn 17 = .ok (.iload_n 3, 1) := by decide +kernel
theorem d_P_burn_18 : decode b_P_burn 18 = .ok (.invokevirtual 138, 3) := by decide +kernel
theorem d_P_burn_21 : decode b_P_burn 21 = .ok (.astore 5, 2) := by decide +kernel
theorem d_P_burn_23 : decode b_P_burn 23 = .ok (.aload 5, 2) := by decide +kernel
theorem d_P_burn_25 : decode b_P_burn 25 = .ok (.ifnonnull 7, 3) := by decide +kernel
theorem d_P_burn_28 : decode b_P_burn 28 = .ok (.ldc2_w 141, 3) := by decide +kernel
theorem d_P_burn_31 : decode b_P_burn 31 = .ok (.lreturn, 1) := by decide +kernel
theorem d_P_burn_32 : decode b_P_burn 32 = .ok (.iload 4, 2) := by decide +kernel
theorem d_P_burn_34 : decode b_P_burn 34 = .ok (.ifCond .lt 15, 3) := by decide +kernel
theorem d_P_burn_37 : decode b_P_burn 37 = .ok (.iload 4, 2) := by decide +kernel
theorem d_P_burn_39 : decode b_P_burn 39 = .ok (.i2l, 1) := by decide +kernel
theorem d_P_burn_40 : decode b_P_burn 40 = .ok (.aload 5, 2) := by decide +kernel
theorem d_P_burn_42 : decode b_P_burn 42 = .ok (.getfield 130, 3) := by decide +kernel
theorem d_P_burn_45 : decode b_P_burn 45 = .ok (.lcmp, 1) := by decide +kernel
theorem d_P_burn_46 : decode b_P_burn 46 = .ok (.ifCond .le 7, 3) := by decide +kernel
theorem d_P_burn_49 : decode b_P_burn 49 = .ok (.ldc2_w 86, 3) := by decide +kernel
theorem d_P_burn_52 : decode b_P_burn 52 = .ok (.lreturn, 1) := by decide +kernel
theorem d_P_burn_53 : decode b_P_burn 53 = .ok (.aload_n 0, 1) := by decide +kernel
theorem d_P_burn_54 : decode b_P_burn 54 = .ok (.getfield 28, 3) := by decide +kernel
theorem d_P_burn_57 : decode b_P_burn 57 = .ok (.aload_n 0, 1) := by decide +kernel
theorem d_P_burn_58 : decode b_P_burn 58 = .ok (.getfield 66, 3) := by decide +kernel
theorem d_P_burn_61 : decode b_P_burn 61 = .ok (.invokevirtual 69, 3) := by decide +kernel
theorem d_P_burn_64 : decode b_P_burn 64 = .ok (.aload_n 0, 1) := by decide +kernel
theorem d_P_burn_65 : decode b_P_burn 65 = .ok (.iload_n 2, 1) := by decide +kernel
theorem d_P_burn_66 : decode b_P_burn 66 = .ok (.iload_n 3, 1) := by decide +kernel
theorem d_P_burn_67 : decode b_P_burn 67 = .ok (.iload 4, 2) := by decide +kernel
theorem d_P_burn_69 : decode b_P_burn 69 = .ok (.i2l, 1) := by decide +kernel
theorem d_P_burn_70 : decode b_P_burn 70 = .ok (.iconst 0, 1) := by decide +kernel
theorem d_P_burn_71 : decode b_P_burn 71 = .ok (.invokevirtual 100, 3) := by decide +kernel
theorem d_P_burn_74 : decode b_P_burn 74 = .ok (.lstore 6, 2) := by decide +kernel
theorem d_P_burn_76 : decode b_P_burn 76 = .ok (.aload_n 0, 1) := by decide +kernel
theorem d_P_burn_77 : decode b_P_burn 77 = .ok (.iload_n 2, 1) := by decide +kernel
theorem d_P_burn_78 : decode b_P_burn 78 = .ok (.iload_n 3, 1) := by decide +kernel
theorem d_P_burn_79 : decode b_P_burn 79 = .ok (.iload 4, 2) := by decide +kernel
theorem d_P_burn_81 : decode b_P_burn 81 = .ok (.i2l, 1) := by decide +kernel
theorem d_P_burn_82 : decode b_P_burn 82 = .ok (.iconst 0, 1) := by decide +kernel
theorem d_P_burn_83 : decode b_P_burn 83 = .ok (.invokevirtual 104, 3) := by decide +kernel
theorem d_P_burn_86 : decode b_P_burn 86 = .ok (.lstore 8, 2) := by decide +kernel
theorem d_P_burn_88 : decode b_P_burn 88 = .ok (.aload 5, 2) := by decide +kernel
theorem d_P_burn_90 : decode b_P_burn 90 = .ok (.invokevirtual 127, 3) := by decide +kernel
theorem d_P_burn_93 : decode b_P_burn 93 = .ok (.aload 5, 2) := by decide +kernel
theorem d_P_burn_95 : decode b_P_burn 95 = .ok (.dup, 1) := by decide +kernel
theorem d_P_burn_96 : decode b_P_burn 96 = .ok (.getfield 130, 3) := by decide +kernel
theorem d_P_burn_99 : decode b_P_burn 99 = .ok (.iload 4, 2) := by decide +kernel
theorem d_P_burn_101 : decode b_P_burn 101 = .ok (.i2l, 1) := by decide +kernel
theorem d_P_burn_102 : decode b_P_burn 102 = .ok (.lsub, 1) := by decide +kernel
theorem d_P_burn_103 : decode b_P_burn 103 = .ok (.putfield 130, 3) := by decide +kernel
theorem d_P_burn_106 : decode b_P_burn 106 = .ok (.aload 5, 2) := by decide +kernel
theorem d_P_burn_108 : decode b_P_burn 108 = .ok (.getfield 143, 3) := by decide +kernel
theorem d_P_burn_111 : decode b_P_burn 111 = .ok (.iconst 0, 1) := by decide +kernel
theorem d_P_burn_112 : decode b_P_burn 112 = .ok (.dup2, 1) := by decide +kernel
theorem d_P_burn_113 : decode b_P_burn 113 = .ok (.laload, 1) := by decide +kernel
theorem d_P_burn_114 : decode b_P_burn 114 = .ok (.lload 6, 2) := by decide +kernel
theorem d_P_burn_116 : decode b_P_burn 116 = .ok (.ladd, 1) := by decide +kernel
theorem d_P_burn_117 : decode b_P_burn 117 = .ok (.lastore, 1) := by decide +kernel
theorem d_P_burn_118 : decode b_P_burn 118 = .ok (.aload 5, 2) := by decide +kernel
theorem d_P_burn_120 : decode b_P_burn 120 = .ok (.getfield 143, 3) := by decide +kernel
theorem d_P_burn_123 : decode b_P_burn 123 = .ok (.iconst 1, 1) := by decide +kernel
theorem d_P_burn_124 : decode b_P_burn 124 = .ok (.dup2, 1) := by decide +kernel
theorem d_P_burn_125 : decode b_P_burn 125 = .ok (.laload, 1) := by decide +kernel
theorem d_P_burn_126 : decode b_P_burn 126 = .ok (.lload 8, 2) := by decide +kernel
theorem d_P_burn_128 : decode b_P_burn 128 = .ok (.ladd, 1) := by decide +kernel
theorem d_P_burn_129 : decode b_P_burn 129 = .ok (.lastore, 1) := by decide +kernel
theorem d_P_burn_130 : decode b_P_burn 130 = .ok (.lload 6, 2) := by decide +kernel
theorem d_P_burn_132 : decode b_P_burn 132 = .ok (.lload 8, 2) := by decide +kernel
theorem d_P_burn_134 : decode b_P_burn 134 = .ok (.invokestatic 134, 3) := by decide +kernel
theorem d_P_burn_137 : decode b_P_burn 137 = .ok (.lreturn, 1) := by decide +kernel
theorem d_P_collect_0 : decode b_P_collect 0 = .ok (.aload_n 0, 1) := by decide +kernel
theorem d_P_collect_1 : decode b_P_collect 1 = .ok (.getfield 52, 3) := by decide +kernel
theorem d_P_collect_4 : decode b_P_collect 4 = .ok (.ifCond .ne 7, 3) := by decide +kernel
theorem d_P_collect_7 : decode b_P_collect 7 = .ok (.ldc2_w 79, 3) := by decide +kernel
theorem d_P_collect_10 : decode b_P_collect 10 = .ok (.lreturn, 1) := by decide +kernel
theorem d_P_collect_11 : decode b_P_collect 11 = .ok (.aload_n 0, 1) := by decide +kernel
theorem d_P_collect_12 : decode b_P_collect 12 = .ok (.getfield 21, 3) := by decide +kernel
theorem d_P_collect_15 : decode b_P_collect 15 = .ok (.iload_n 1, 1) := by decide +kernel
theorem d_P_collect_16 : decode b_P_collect 16 = .ok (.iload_n 2, 1) := by decide +kernel
theorem d_P_collect_17 : decode b_P_collect 17 = .ok (.iload_n 3, 1) := by decide +kernel
theorem d_P_collect_18 : decode b_P_collect 18 = .ok (.invokevirtual 138, 3) := by decide +kernel
theorem d_P_collect_21 : decode b_P_collect 21 = .ok (.astore 4, 2) := by decide +kernel
theorem d_P_collect_23 : decode b_P_collect 23 = .ok (.aload 4, 2) := by decide +kernel
theorem d_P_collect_25 : decode b_P_collect 25 = .ok (.ifnonnull 7, 3) := by decide +kernel
theorem d_P_collect_28 : decode b_P_collect 28 = .ok (.ldc2_w 141, 3) := by decide +kernel
theorem d_P_collect_31 : decode b_P_collect 31 = .ok (.lreturn, 1) := by decide +kernel
theorem d_P_collect_32 : decode b_P_collect 32 = .ok (.aload 4, 2) := by decide +kernel
theorem d_P_collect_34 : decode b_P_collect 34 = .ok (.getfield 143, 3) := by decide +kernel
theorem d_P_collect_37 : decode b_P_collect 37 = .ok (.iconst 0, 1) := by decide +kernel
theorem d_P_collect_38 : decode b_P_collect 38 = .ok (.laload, 1) := by decide +kernel
theorem d_P_collect_39 : decode b_P_collect 39 = .ok (.lstore 5, 2) := by decide +kernel
theorem d_P_collect_41 : decode b_P_collect 41 = .ok (.aload 4, 2) := by decide +kernel
theorem d_P_collect_43 : decode b_P_collect 43 = .ok (.getfield 143, 3) := by decide +kernel
theorem d_P_collect_46 : decode b_P_collect 46 = .ok (.iconst 1, 1) := by decide +kernel
theorem d_P_collect_47 : decode b_P_collect 47 = .ok (.laload, 1) := by decide +kernel
theorem d_P_collect_48 : decode b_P_collect 48 = .ok (.lstore 7, 2) := by decide +kernel
theorem d_P_collect_50 : decode b_P_collect 50 = .ok (.aload 4, 2) := by decide +kernel
theorem d_P_collect_52 : decode b_P_collect 52 = .ok (.getfield 143, 3) := by decide +kernel
theorem d_P_collect_55 : decode b_P_collect 55 = .ok (.iconst 0, 1) := by decide +kernel
theorem d_P_collect_56 : decode b_P_collect 56 = .ok (.lconst 0, 1) := by decide +kernel
theorem d_P_collect_57 : decode b_P_collect 57 = .ok (.lastore, 1) := by decide +kernel
theorem d_P_collect_58 : decode b_P_collect 58 = .ok (.aload 4, 2) := by decide +kernel
theorem d_P_collect_60 : decode b_P_collect 60 = .ok (.getfield 143, 3) := by decide +kernel
theorem d_P_collect_63 : decode b_P_collect 63 = .ok (.iconst 1, 1) := by decide +kernel
theorem d_P_collect_64 : decode b_P_collect 64 = .ok (.lconst 0, 1) := by decide +kernel
theorem d_P_collect_65 : decode b_P_collect 65 = .ok (.lastore, 1) := by decide +kernel
theorem d_P_collect_66 : decode b_P_collect 66 = .ok (.aload_n 0, 1) := by decide +kernel
theorem d_P_collect_67 : decode b_P_collect 67 = .ok (.iload_n 1, 1) := by decide +kernel
theorem d_P_collect_68 : decode b_P_collect 68 = .ok (.lload 5, 2) := by decide +kernel
theorem d_P_collect_70 : decode b_P_collect 70 = .ok (.lneg, 1) := by decide +kernel
theorem d_P_collect_71 : decode b_P_collect 71 = .ok (.lload 7, 2) := by decide +kernel
theorem d_P_collect_73 : decode b_P_collect 73 = .ok (.lneg, 1) := by decide +kernel
theorem d_P_collect_74 : decode b_P_collect 74 = .ok (.invokevirtual 113, 3) := by decide +kernel
theorem d_P_collect_77 : decode b_P_collect 77 = .ok (.lload 5, 2) := by decide +kernel
theorem d_P_collect_79 : decode b_P_collect 79 = .ok (.lload 7, 2) := by decide +kernel
theorem d_P_collect_81 : decode b_P_collect 81 = .ok (.invokestatic 134, 3) := by decide +kernel
theorem d_P_collect_84 : decode b_P_collect 84 = .ok (.lreturn, 1) := by decide +kernel
theorem d_P_swap_0 : decode b_P_swap 0 = .ok (.aload_n 0, 1) := by decide +kernel
theorem d_P_swap_1 : decode b_P_swap 1 = .ok (.getfield 52, 3) := by decide +kernel
theorem d_P_swap_4 : decode b_P_swap 4 = .ok (.ifCond .ne 7, 3) := by decide +kernel
theorem d_P_swap_7 : decode b_P_swap 7 = .ok (.ldc2_w 79, 3) := by decide +kernel
theorem d_P_swap_10 : decode b_P_swap 10 = .ok (.lreturn, 1) := by decide +kernel
theorem d_P_swap_11 : decode b_P_swap 11 = .ok (.iload_n 1, 1) := by decide +kernel
theorem d_P_swap_12 : decode b_P_swap 12 = .ok (.invokestatic 72, 3) := by decide +kernel
theorem d_P_swap_15 : decode b_P_swap 15 = .ok (.ifCond .eq 14, 3) := by decide +kernel
theorem d_P_swap_18 : decode b_P_swap 18 = .ok (.aload_n 0, 1) := by decide +kernel
theorem d_P_swap_19 : decode b_P_swap 19 = .ok (.iload_n 2, 1) := by decide +kernel
theorem d_P_swap_20 : decode b_P_swap 20 = .ok (.iload_n 3, 1) := by decide +kernel
theorem d_P_swap_21 : decode b_P_swap 21 = .ok (.iload 4, 2) := by decide +kernel
theorem d_P_swap_23 : decode b_P_swap 23 = .ok (.invokevirtual 146, 3) := by decide +kernel
theorem d_P_swap_26 : decode b_P_swap 26 = .ok (.ifCond .ne 7, 3) := by decide +kernel
theorem d_P_swap_29 : decode b_P_swap 29 = .ok (.ldc2_w 86, 3) := by decide +kernel
theorem d_P_swap_32 : decode b_P_swap 32 = .ok (.lreturn, 1) := by decide +kernel
theorem d_P_swap_33 : decode b_P_swap 33 = .ok (.aload_n 0, 1) := by decide +kernel
theorem d_P_swap_34 : decode b_P_swap 34 = .ok (.getfield 48, 3) := by decide +kernel
theorem d_P_swap_37 : decode b_P_swap 37 = .ok (.aload_n 0, 1) := by decide +kernel
theorem d_P_swap_38 : decode b_P_swap 38 = .ok (.getfield 63, 3) := by decide +kernel
theorem d_P_swap_41 : decode b_P_swap 41 = .ok (.aload_n 0, 1) := by decide +kernel
theorem d_P_swap_42 : decode b_P_swap 42 = .ok (.getfield 66, 3) := by decide +kernel
theorem d_P_swap_45 : decode b_P_swap 45 = .ok (.iload_n 2, 1) := by decide +kernel
theorem d_P_swap_46 : decode b_P_swap 46 = .ok (.invokevirtual 150, 3) := by decide +kernel
theorem d_P_swap_49 : decode b_P_swap 49 = .ok (.aload_n 0, 1) := by decide +kernel
theorem d_P_swap_50 : decode b_P_swap 50 = .ok (.getfield 48, 3) := by decide +kernel
theorem d_P_swap_53 : decode b_P_swap 53 = .ok (.aload_n 0, 1) := by decide +kernel
theorem d_P_swap_54 : decode b_P_swap 54 = .ok (.getfield 21, 3) := by decide +kernel
theorem d_P_swap_57 : decode b_P_swap 57 = .ok (.iload_n 3, 1) := by decide +kernel
theorem d_P_swap_58 : decode b_P_swap 58 = .ok (.iload 4, 2) := by decide +kernel
theorem d_P_swap_60 : decode b_P_swap 60 = .ok (.invokestatic 59, 3) := by decide +kernel
theorem d_P_swap_63 : decode b_P_swap 63 = .ok (.invokevirtual 154, 3) := by decide +kernel
theorem d_P_swap_66 : decode b_P_swap 66 = .ok (.aload_n 0, 1) := by decide +kernel
theorem d_P_swap_67 : decode b_P_swap 67 = .ok (.getfield 48, 3) := by decide +kernel
theorem d_P_swap_70 : decode b_P_swap 70 = .ok (.invokevirtual 158, 3) := by decide +kernel
theorem d_P_swap_73 : decode b_P_swap 73 = .ok (.istore 5, 2) := by decide +kernel
theorem d_P_swap_75 : decode b_P_swap 75 = .ok (.aload_n 0, 1) := by decide +kernel
theorem d_P_swap_76 : decode b_P_swap 76 = .ok (.getfield 11, 3) := by decide +kernel
theorem d_P_swap_79 : decode b_P_swap 79 = .ok (.iload_n 1, 1) := by decide +kernel
theorem d_P_swap_80 : decode b_P_swap 80 = .ok (.aaload, 1) := by decide +kernel
theorem d_P_swap_81 : decode b_P_swap 81 = .ok (.iload 5, 2) := by decide +kernel
theorem d_P_swap_83 : decode b_P_swap 83 = .ok (.laload, 1) := by decide +kernel
theorem d_P_swap_84 : decode b_P_swap 84 = .ok (.aload_n 0, 1) := by decide +kernel
theorem d_P_swap_85 : decode b_P_swap 85 = .ok (.getfield 48, 3) := by decide +kernel
theorem d_P_swap_88 : decode b_P_swap 88 = .ok (.getfield 162, 3) := by decide +kernel
theorem d_P_swap_91 : decode b_P_swap 91 = .ok (.lcmp, 1) := by decide +kernel
theorem d_P_swap_92 : decode b_P_swap 92 = .ok (.ifCond .ge 7, 3) := by decide +kernel
theorem d_P_swap_95 : decode b_P_swap 95 = .ok (.ldc2_w 111, 3) := by decide +kernel
theorem d_P_swap_98 : decode b_P_swap 98 = .ok (.lreturn, 1) := by decide +kernel
theorem d_P_swap_99 : decode b_P_swap 99 = .ok (.aload_n 0, 1) := by decide +kernel
theorem d_P_swap_100 : decode b_P_swap 100 = .ok (.getfield 28, 3) := by decide +kernel
theorem d_P_swap_103 : decode b_P_swap 103 = .ok (.aload_n 0, 1) := by decide +kernel
theorem d_P_swap_104 : decode b_P_swap 104 = .ok (.getfield 66, 3) := by decide +kernel
theorem d_P_swap_107 : decode b_P_swap 107 = .ok (.invokevirtual 69, 3) := by decide +kernel
theorem d_P_swap_110 : decode b_P_swap 110 = .ok (.aload_n 0, 1) := by decide +kernel
theorem d_P_swap_111 : decode b_P_swap 111 = .ok (.iload_n 1, 1) := by decide +kernel
theorem d_P_swap_112 : decode b_P_swap 112 = .ok (.iload 5, 2) := by decide +kernel
theorem d_P_swap_114 : decode b_P_swap 114 = .ok (.aload_n 0, 1) := by decide +kernel
theorem d_P_swap_115 : decode b_P_swap 115 = .ok (.getfield 48, 3) := by decide +kernel
theorem d_P_swap_118 : decode b_P_swap 118 = .ok (.getfield 162, 3) := by decide +kernel
theorem d_P_swap_121 : decode b_P_swap 121 = .ok (.invokevirtual 165, 3) := by decide +kernel
theorem d_P_swap_124 : decode b_P_swap 124 = .ok (.aload_n 0, 1) := by decide +kernel
theorem d_P_swap_125 : decode b_P_swap 125 = .ok (.iload_n 1, 1) := by decide +kernel
theorem d_P_swap_126 : decode b_P_swap 126 = .ok (.iconst 1, 1) := by decide +kernel
theorem d_P_swap_127 : decode b_P_swap 127 = .ok (.iload 5, 2) := by decide +kernel
theorem d_P_swap_129 : decode b_P_swap 129 = .ok (.isub, 1) := by decide +kernel
theorem d_P_swap_130 : decode b_P_swap 130 = .ok (.aload_n 0, 1) := by decide +kernel
theorem d_P_swap_131 : decode b_P_swap 131 = .ok (.getfield 48, 3) := by decide +kernel
theorem d_P_swap_134 : decode b_P_swap 134 = .ok (.getfield 169, 3) := by decide +kernel
theorem d_P_swap_137 : decode b_P_swap 137 = .ok (.lneg, 1) := by decide +kernel
theorem d_P_swap_138 : decode b_P_swap 138 = .ok (.invokevirtual 165, 3) := by decide +kernel
theorem d_P_swap_141 : decode b_P_swap 141 = .ok (.aload_n 0, 1) := by decide +kernel
theorem d_P_swap_142 : decode b_P_swap 142 = .ok (.getfield 21, 3) := by decide +kernel
theorem d_P_swap_145 : decode b_P_swap 145 = .ok (.iload 5, 2) := by decide +kernel
theorem d_P_swap_147 : decode b_P_swap 147 = .ok (.invokevirtual 172, 3) := by decide +kernel
theorem d_P_swap_150 : decode b_P_swap 150 = .ok (.aload_n 0, 1) := by decide +kernel
theorem d_P_swap_151 : decode b_P_swap 151 = .ok (.aload_n 0, 1) := by decide +kernel
theorem d_P_swap_152 : decode b_P_swap 152 = .ok (.getfield 48, 3) := by decide +kernel
theorem d_P_swap_155 : decode b_P_swap 155 = .ok (.getfield 175, 3) := by decide +kernel
theorem d_P_swap_158 : decode b_P_swap 158 = .ok (.putfield 63, 3) := by decide +kernel
theorem d_P_swap_161 : decode b_P_swap 161 = .ok (.aload_n 0, 1) := by decide +kernel
theorem d_P_swap_162 : decode b_P_swap 162 = .ok (.aload_n 0, 1) := by decide +kernel
theorem d_P_swap_163 : decode b_P_swap 163 = .ok (.getfield 48, 3) := by decide +kernel
theorem d_P_swap_166 : decode b_P_swap 166 = .ok (.getfield 178, 3) := by decide +kernel
theorem d_P_swap_169 : decode b_P_swap 169 = .ok (.putfield 66, 3) := by decide +kernel
theorem d_P_swap_172 : decode b_P_swap 172 = .ok (.aload_n 0, 1) := by decide +kernel
theorem d_P_swap_173 : decode b_P_swap 173 = .ok (.getfield 48, 3) := by decide +kernel
theorem d_P_swap_176 : decode b_P_swap 176 = .ok (.getfield 162, 3) := by decide +kernel
theorem d_P_swap_179 : decode b_P_swap 179 = .ok (.aload_n 0, 1) := by decide +kernel
theorem d_P_swap_180 : decode b_P_swap 180 = .ok (.getfield 48, 3) := by decide +kernel
theorem d_P_swap_183 : decode b_P_swap 183 = .ok (.getfield 169, 3) := by decide +kernel
theorem d_P_swap_186 : decode b_P_swap 186 = .ok (.invokestatic 134, 3) := by decide +kernel
theorem d_P_swap_189 : decode b_P_swap 189 = .ok (.lreturn, 1) := by decide +kernel
theorem d_P_quote_0 : decode b_P_quote 0 = .ok (.aload_n 0, 1) := by decide +kernel
theorem d_P_quote_1 : decode b_P_quote 1 = .ok (.getfield 52, 3) := by decide +kernel
theorem d_P_quote_4 : decode b_P_quote 4 = .ok (.ifCond .ne 7, 3) := by decide +kernel
theorem d_P_quote_7 : decode b_P_quote 7 = .ok (.ldc2_w 79, 3) := by decide +kernel
theorem d_P_quote_10 : decode b_P_quote 10 = .ok (.lreturn, 1) := by decide +kernel
theorem d_P_quote_11 : decode b_P_quote 11 = .ok (.aload_n 0, 1) := by decide +kernel
theorem d_P_quote_12 : decode b_P_quote 12 = .ok (.iload_n 1, 1) := by decide +kernel
theorem d_P_quote_13 : decode b_P_quote 13 = .ok (.iload_n 2, 1) := by decide +kernel
theorem d_P_quote_14 : decode b_P_quote 14 = .ok (.iload_n 3, 1) := by decide +kernel
theorem d_P_quote_15 : decode b_P_quote 15 = .ok (.invokevirtual 146, 3) := by decide +kernel
theorem d_P_quote_18 : decode b_P_quote 18 = .ok (.ifCond .ne 7, 3) := by decide +kernel
theorem d_P_quote_21 : decode b_P_quote 21 = .ok (.ldc2_w 86, 3) := by decide +kernel
theorem d_P_quote_24 : decode b_P_quote 24 = .ok (.lreturn, 1) := by decide +kernel
theorem d_P_quote_25 : decode b_P_quote 25 = .ok (.aload_n 0, 1) := by decide +kernel
theorem d_P_quote_26 : decode b_P_quote 26 = .ok (.getfield 48, 3) := by decide +kernel
theorem d_P_quote_29 : decode b_P_quote 29 = .ok (.aload_n 0, 1) := by decide +kernel
theorem d_P_quote_30 : decode b_P_quote 30 = .ok (.getfield 63, 3) := by decide +kernel
theorem d_P_quote_33 : decode b_P_quote 33 = .ok (.aload_n 0, 1) := by decide +kernel
theorem d_P_quote_34 : decode b_P_quote 34 = .ok (.getfield 66, 3) := by decide +kernel
theorem d_P_quote_37 : decode b_P_quote 37 = .ok (.iload_n 1, 1) := by decide +kernel
theorem d_P_quote_38 : decode b_P_quote 38 = .ok (.invokevirtual 150, 3) := by decide +kernel
theorem d_P_quote_41 : decode b_P_quote 41 = .ok (.aload_n 0, 1) := by decide +kernel
theorem d_P_quote_42 : decode b_P_quote 42 = .ok (.getfield 48, 3) := by decide +kernel
theorem d_P_quote_45 : decode b_P_quote 45 = .ok (.aload_n 0, 1) := by decide +kernel
theorem d_P_quote_46 : decode b_P_quote 46 = .ok (.getfield 21, 3) := by decide +kernel
theorem d_P_quote_49 : decode b_P_quote 49 = .ok (.iload_n 2, 1) := by decide +kernel
theorem d_P_quote_50 : decode b_P_quote 50 = .ok (.iload_n 3, 1) := by decide +kernel
theorem d_P_quote_51 : decode b_P_quote 51 = .ok (.invokestatic 59, 3) := by decide +kernel
theorem d_P_quote_54 : decode b_P_quote 54 = .ok (.invokevirtual 154, 3) := by decide +kernel
theorem d_P_quote_57 : decode b_P_quote 57 = .ok (.aload_n 0, 1) := by decide +kernel
theorem d_P_quote_58 : decode b_P_quote 58 = .ok (.getfield 48, 3) := by decide +kernel
theorem d_P_quote_61 : decode b_P_quote 61 = .ok (.getfield 162, 3) := by decide +kernel
theorem d_P_quote_64 : decode b_P_quote 64 = .ok (.aload_n 0, 1) := by decide +kernel
theorem d_P_quote_65 : decode b_P_quote 65 = .ok (.getfield 48, 3) := by decide +kernel
theorem d_P_quote_68 : decode b_P_quote 68 = .ok (.getfield 169, 3) := by decide +kernel
theorem d_P_quote_71 : decode b_P_quote 71 = .ok (.invokestatic 134, 3) := by decide +kernel
theorem d_P_quote_74 : decode b_P_quote 74 = .ok (.lreturn, 1) := by decide +kernel
theorem d_P_flash_0 : decode b_P_flash 0 = .ok (.aload_n 0, 1) := by decide +kernel
theorem d_P_flash_1 : decode b_P_flash 1 = .ok (.getfield 52, 3) := by decide +kernel
theorem d_P_flash_4 : decode b_P_flash 4 = .ok (.ifCond .ne 7, 3) := by decide +kernel
theorem d_P_flash_7 : decode b_P_flash 7 = .ok (.ldc2_w 79, 3) := by decide +kernel
theorem d_P_flash_10 : decode b_P_flash 10 = .ok (.lreturn, 1) := by decide +kernel
theorem d_P_flash_11 : decode b_P_flash 11 = .ok (.aload_n 0, 1) := by decide +kernel
theorem d_P_flash_12 : decode b_P_flash 12 = .ok (.getfield 21, 3) := by decide +kernel
theorem d_P_flash_15 : decode b_P_flash 15 = .ok (.aload_n 0, 1) := by decide +kernel
theorem d_P_flash_16 : decode b_P_flash 16 = .ok (.getfield 66, 3) := by decide +kernel
theorem d_P_flash_19 : decode b_P_flash 19 = .ok (.invokevirtual 181, 3) := by decide +kernel
theorem d_P_flash_22 : decode b_P_flash 22 = .ok (.lstore 4, 2) := by decide +kernel
theorem d_P_flash_24 : decode b_P_flash 24 = .ok (.iload_n 1, 1) := by decide +kernel
theorem d_P_flash_25 : decode b_P_flash 25 = .ok (.invokestatic 72, 3) := by decide +kernel
theorem d_P_flash_28 : decode b_P_flash 28 = .ok (.ifCond .eq 28, 3) := by decide +kernel
theorem d_P_flash_31 : decode b_P_flash 31 = .ok (.aload_n 0, 1) := by decide +kernel
theorem d_P_flash_32 : decode b_P_flash 32 = .ok (.iconst 0, 1) := by decide +kernel
theorem d_P_flash_33 : decode b_P_flash 33 = .ok (.iload_n 2, 1) := by decide +kernel
theorem d_P_flash_34 : decode b_P_flash 34 = .ok (.invokevirtual 185, 3) := by decide +kernel
theorem d_P_flash_37 : decode b_P_flash 37 = .ok (.ifCond .eq 19, 3) := by decide +kernel
theorem d_P_flash_40 : decode b_P_flash 40 = .ok (.aload_n 0, 1) := by decide +kernel
theorem d_P_flash_41 : decode b_P_flash 41 = .ok (.iconst 1, 1) := by decide +kernel
theorem d_P_flash_42 : decode b_P_flash 42 = .ok (.iload_n 3, 1) := by decide +kernel
theorem d_P_flash_43 : decode b_P_flash 43 = .ok (.invokevirtual 185, 3) := by decide +kernel
theorem d_P_flash_46 : decode b_P_flash 46 = .ok (.ifCond .eq 10, 3) := by decide +kernel
theorem d_P_flash_49 : decode b_P_flash 49 = .ok (.lload 4, 2) := by decide +kernel
theorem d_P_flash_51 : decode b_P_flash 51 = .ok (.lconst 0, 1) := by decide +kernel
theorem d_P_flash_52 : decode b_P_flash 52 = .ok (.lcmp, 1) := by decide +kernel
theorem d_P_flash_53 : decode b_P_flash 53 = .ok (.ifCond .ne 7, 3) := by decide +kernel
theorem d_P_flash_56 : decode b_P_flash 56 = .ok (.ldc2_w 86, 3) := by decide +kernel
theorem d_P_flash_59 : decode b_P_flash 59 = .ok (.lreturn, 1) := by decide +kernel
theorem d_P_flash_60 : decode b_P_flash 60 = .ok (.iload_n 2, 1) := by decide +kernel
theorem d_P_flash_61 : decode b_P_flash 61 = .ok (.i2l, 1) := by decide +kernel
theorem d_P_flash_62 : decode b_P_flash 62 = .ok (.aload_n 0, 1) := by decide +kernel
theorem d_P_flash_63 : decode b_P_flash 63 = .ok (.getfield 40, 3) := by decide +kernel
theorem d_P_flash_66 : decode b_P_flash 66 = .ok (.i2l, 1) := by decide +kernel
theorem d_P_flash_67 : decode b_P_flash 67 = .ok (.lmul, 1) := by decide +kernel
theorem d_P_flash_68 : decode b_P_flash 68 = .ok (.ldc2_w 188, 3) := by decide +kernel
theorem d_P_flash_71 : decode b_P_flash 71 = .ok (.iconst 1, 1) := by decide +kernel
theorem d_P_flash_72 : decode b_P_flash 72 = .ok (.invokestatic 190, 3) := by decide +kernel
theorem d_P_flash_75 : decode b_P_flash 75 = .ok (.lstore 6, 2) := by decide +kernel
theorem d_P_flash_77 : decode b_P_flash 77 = .ok (.iload_n 3, 1) := by decide +kernel
theorem d_P_flash_78 : decode b_P_flash 78 = .ok (.i2l, 1) := by decide +kernel
theorem d_P_flash_79 : decode b_P_flash 79 = .ok (.aload_n 0, 1) := by decide +kernel
theorem d_P_flash_80 : decode b_P_flash 80 = .ok (.getfield 40, 3) := by decide +kernel
theorem d_P_flash_83 : decode b_P_flash 83 = .ok (.i2l, 1) := by decide +kernel
theorem d_P_flash_84 : decode b_P_flash 84 = .ok (.lmul, 1) := by decide +kernel
theorem d_P_flash_85 : decode b_P_flash 85 = .ok (.ldc2_w 188, 3) := by decide +kernel
theorem d_P_flash_88 : decode b_P_flash 88 = .ok (.iconst 1, 1) := by decide +kernel
theorem d_P_flash_89 : decode b_P_flash 89 = .ok (.invokestatic 190, 3) := by decide +kernel
theorem d_P_flash_92 : decode b_P_flash 92 = .ok (.lstore 8, 2) := by decide +kernel
theorem d_P_flash_94 : decode b_P_flash 94 = .ok (.aload_n 0, 1) := by decide +kernel
theorem d_P_flash_95 : decode b_P_flash 95 = .ok (.iload_n 1, 1) := by decide +kernel
theorem d_P_flash_96 : decode b_P_flash 96 = .ok (.lload 6, 2) := by decide +kernel
theorem d_P_flash_98 : decode b_P_flash 98 = .ok (.lload 8, 2) := by decide +kernel
theorem d_P_flash_100 : decode b_P_flash 100 = .ok (.invokevirtual 107, 3) := by decide +kernel
theorem d_P_flash_103 : decode b_P_flash 103 = .ok (.ifCond .ne 7, 3) := by decide +kernel
theorem d_P_flash_106 : decode b_P_flash 106 = .ok (.ldc2_w 111, 3) := by decide +kernel
theorem d_P_flash_109 : decode b_P_flash 109 = .ok (.lreturn, 1) := by decide +kernel
theorem d_P_flash_110 : decode b_P_flash 110 = .ok (.aload_n 0, 1) := by decide +kernel
theorem d_P_flash_111 : decode b_P_flash 111 = .ok (.iload_n 1, 1) := by decide +kernel
theorem d_P_flash_112 : decode b_P_flash 112 = .ok (.lload 6, 2) := by decide +kernel
theorem d_P_flash_114 : decode b_P_flash 114 = .ok (.lload 8, 2) := by decide +kernel
theorem d_P_flash_116 : decode b_P_flash 116 = .ok (.invokevirtual 113, 3) := by decide +kernel
theorem d_P_flash_119 : decode b_P_flash 119 = .ok (.aload_n 0, 1) := by decide +kernel
theorem d_P_flash_120 : decode b_P_flash 120 = .ok (.iconst 0, 1) := by decide +kernel
theorem d_P_flash_121 : decode b_P_flash 121 = .ok (.lload 6, 2) := by decide +kernel
theorem d_P_flash_123 : decode b_P_flash 123 = .ok (.lload 4, 2) := by decide +kernel
theorem d_P_flash_125 : decode b_P_flash 125 = .ok (.invokevirtual 194, 3) := by decide +kernel
theorem d_P_flash_128 : decode b_P_flash 128 = .ok (.aload_n 0, 1) := by decide +kernel
theorem d_P_flash_129 : decode b_P_flash 129 = .ok (.iconst 1, 1) := by decide +kernel
theorem d_P_flash_130 : decode b_P_flash 130 = .ok (.lload 8, 2) := by decide +kernel
theorem d_P_flash_132 : decode b_P_flash 132 = .ok (.lload 4, 2) := by decide +kernel
theorem d_P_flash_134 : decode b_P_flash 134 = .ok (.invokevirtual 194, 3) := by decide +kernel
theorem d_P_flash_137 : decode b_P_flash 137 = .ok (.lload 6, 2) := by decide +kernel
theorem d_P_flash_139 : decode b_P_flash 139 = .ok (.lload 8, 2) := by decide +kernel
theorem d_P_flash_141 : decode b_P_flash 141 = .ok (.invokestatic 134, 3) := by decide +kernel
theorem d_P_flash_144 : decode b_P_flash 144 = .ok (.lreturn, 1) := by decide +kernel
theorem d_P_advance_0 : decode b_P_advance 0 = .ok (.iload_n 1, 1) := by decide +kernel
theorem d_P_advance_1 : decode b_P_advance 1 = .ok (.ifCond .lt 10, 3) := by decide +kernel
theorem d_P_advance_4 : decode b_P_advance 4 = .ok (.iload_n 1, 1) := by decide +kernel
theorem d_P_advance_5 : decode b_P_advance 5 = .ok (.sipush 10000, 3) := by decide +kernel
theorem d_P_advance_8 : decode b_P_advance 8 = .ok (.if_icmp .le 5, 3) := by decide +kernel
theorem d_P_advance_11 : decode b_P_advance 11 = .ok (.iconst 0, 1) := by decide +kernel
theorem d_P_advance_12 : decode b_P_advance 12 = .ok (.ireturn, 1) := by decide +kernel
theorem d_P_advance_13 : decode b_P_advance 13 = .ok (.aload_n 0, 1) := by decide +kernel
theorem d_P_advance_14 : decode b_P_advance 14 = .ok (.getfield 28, 3) := by decide +kernel
theorem d_P_advance_17 : decode b_P_advance 17 = .ok (.iload_n 1, 1) := by decide +kernel
theorem d_P_advance_18 : decode b_P_advance 18 = .ok (.aload_n 0, 1) := by decide +kernel
theorem d_P_advance_19 : decode b_P_advance 19 = .ok (.getfield 66, 3) := by decide +kernel
theorem d_P_advance_22 : decode b_P_advance 22 = .ok (.invokevirtual 197, 3) := by decide +kernel
theorem d_P_advance_25 : decode b_P_advance 25 = .ok (.iconst 1, 1) := by decide +kernel
theorem d_P_advance_26 : decode b_P_advance 26 = .ok (.ireturn, 1) := by decide +kernel
theorem d_P_observe_0 : decode b_P_observe 0 = .ok (.aload_n 0, 1) := by decide +kernel
theorem d_P_observe_1 : decode b_P_observe 1 = .ok (.getfield 52, 3) := by decide +kernel
theorem d_P_observe_4 : decode b_P_observe 4 = .ok (.ifCond .ne 7, 3) := by decide +kernel
theorem d_P_observe_7 : decode b_P_observe 7 = .ok (.ldc2_w 79, 3) := by decide +kernel
theorem d_P_observe_10 : decode b_P_observe 10 = .ok (.lreturn, 1) := by decide +kernel
theorem d_P_observe_11 : decode b_P_observe 11 = .ok (.iload_n 1, 1) := by decide +kernel
theorem d_P_observe_12 : decode b_P_observe 12 = .ok (.ifCond .ge 7, 3) := by decide +kernel
theorem d_P_observe_15 : decode b_P_observe 15 = .ok (.ldc2_w 86, 3) := by decide +kernel
theorem d_P_observe_18 : decode b_P_observe 18 = .ok (.lreturn, 1) := by decide +kernel
theorem d_P_observe_19 : decode b_P_observe 19 = .ok (.aload_n 0, 1) := by decide +kernel
theorem d_P_observe_20 : decode b_P_observe 20 = .ok (.getfield 28, 3) := by decide +kernel
theorem d_P_observe_23 : decode b_P_observe 23 = .ok (.getfield 201, 3) := by decide +kernel
theorem d_P_observe_26 : decode b_P_observe 26 = .ok (.iload_n 1, 1) := by decide +kernel
theorem d_P_observe_27 : decode b_P_observe 27 = .ok (.i2l, 1) := by decide +kernel
theorem d_P_observe_28 : decode b_P_observe 28 = .ok (.lsub, 1) := by decide +kernel
theorem d_P_observe_29 : decode b_P_observe 29 = .ok (.lstore_n 2, 1) := by decide +kernel
theorem d_P_observe_30 : decode b_P_observe 30 = .ok (.aload_n 0, 1) := by decide +kernel
theorem d_P_observe_31 : decode b_P_observe 31 = .ok (.getfield 28, 3) := by decide +kernel
theorem d_P_observe_34 : decode b_P_observe 34 = .ok (.lload_n 2, 1) := by decide +kernel
theorem d_P_observe_35 : decode b_P_observe 35 = .ok (.invokevirtual 204, 3) := by decide +kernel
theorem d_P_observe_38 : decode b_P_observe 38 = .ok (.ifCond .eq 18, 3) := by decide +kernel
theorem d_P_observe_41 : decode b_P_observe 41 = .ok (.aload_n 0, 1) := by decide +kernel
theorem d_P_observe_42 : decode b_P_observe 42 = .ok (.getfield 28, 3) := by decide +kernel
theorem d_P_observe_45 : decode b_P_observe 45 = .ok (.lload_n 2, 1) := by decide +kernel
theorem d_P_observe_46 : decode b_P_observe 46 = .ok (.aload_n 0, 1) := by decide +kernel
theorem d_P_observe_47 : decode b_P_observe 47 = .ok (.getfield 66, 3) := by decide +kernel
theorem d_P_observe_50 : decode b_P_observe 50 = .ok (.invokevirtual 208, 3) := by decide +kernel
theorem d_P_observe_53 : decode b_P_observe 53 = .ok (.goto 6, 3) := by decide +kernel
theorem d_P_observe_56 : decode b_P_observe 56 = .ok (.ldc2_w 212, 3) := by decide +kernel
theorem d_P_observe_59 : decode b_P_observe 59 = .ok (.lreturn, 1) := by decide +kernel
theorem d_P_price_0 : decode b_P_price 0 = .ok (.aload_n 0, 1) := by decide +kernel
theorem d_P_price_1 : decode b_P_price 1 = .ok (.getfield 63, 3) := by decide +kernel
theorem d_P_price_4 : decode b_P_price 4 = .ok (.ireturn, 1) := by decide +kernel
theorem d_P_step_0 : decode b_P_step 0 = .ok (.aload_n 0, 1) := by decide +kernel
theorem d_P_step_1 : decode b_P_step 1 = .ok (.getfield 66, 3) := by decide +kernel
theorem d_P_step_4 : decode b_P_step 4 = .ok (.ireturn, 1) := by decide +kernel
theorem d_P_depth_0 : decode b_P_depth 0 = .ok (.aload_n 0, 1) := by decide +kernel
theorem d_P_depth_1 : decode b_P_depth 1 = .ok (.getfield 21, 3) := by decide +kernel
theorem d_P_depth_4 : decode b_P_depth 4 = .ok (.aload_n 0, 1) := by decide +kernel
theorem d_P_depth_5 : decode b_P_depth 5 = .ok (.getfield 66, 3) := by decide +kernel
theorem d_P_depth_8 : decode b_P_depth 8 = .ok (.invokevirtual 181, 3) := by decide +kernel
theorem d_P_depth_11 : decode b_P_depth 11 = .ok (.l2i, 1) := by decide +kernel
theorem d_P_depth_12 : decode b_P_depth 12 = .ok (.ireturn, 1) := by decide +kernel
theorem d_P_wallet_0 : decode b_P_wallet 0 = .ok (.iload_n 1, 1) := by decide +kernel
theorem d_P_wallet_1 : decode b_P_wallet 1 = .ok (.invokestatic 72, 3) := by decide +kernel
theorem d_P_wallet_4 : decode b_P_wallet 4 = .ok (.ifCond .eq 21, 3) := by decide +kernel
theorem d_P_wallet_7 : decode b_P_wallet 7 = .ok (.iload_n 2, 1) := by decide +kernel
theorem d_P_wallet_8 : decode b_P_wallet 8 = .ok (.invokestatic 75, 3) := by decide +kernel
theorem d_P_wallet_11 : decode b_P_wallet 11 = .ok (.ifCond .eq 14, 3) := by decide +kernel
theorem d_P_wallet_14 : decode b_P_wallet 14 = .ok (.aload_n 0, 1) := by decide +kernel
theorem d_P_wallet_15 : decode b_P_wallet 15 = .ok (.getfield 11, 3) := by decide +kernel
theorem d_P_wallet_18 : decode b_P_wallet 18 = .ok (.iload_n 1, 1) := by decide +kernel
theorem d_P_wallet_19 : decode b_P_wallet 19 = .ok (.aaload, 1) := by decide +kernel
theorem d_P_wallet_20 : decode b_P_wallet 20 = .ok (.iload_n 2, 1) := by decide +kernel
theorem d_P_wallet_21 : decode b_P_wallet 21 = .ok (.laload, 1) := by decide +kernel
theorem d_P_wallet_22 : decode b_P_wallet 22 = .ok (.goto 6, 3) := by decide +kernel
theorem d_P_wallet_25 : decode b_P_wallet 25 = .ok (.ldc2_w 86, 3) := by decide +kernel
theorem d_P_wallet_28 : decode b_P_wallet 28 = .ok (.lreturn, 1) := by decide +kernel
theorem d_P_reserve_0 : decode b_P_reserve 0 = .ok (.iload_n 1, 1) := by decide +kernel
theorem d_P_reserve_1 : decode b_P_reserve 1 = .ok (.invokestatic 75, 3) := by decide +kernel
theorem d_P_reserve_4 : decode b_P_reserve 4 = .ok (.ifCond .eq 12, 3) := by decide +kernel
theorem d_P_reserve_7 : decode b_P_reserve 7 = .ok (.aload_n 0, 1) := by decide +kernel
theorem d_P_reserve_8 : decode b_P_reserve 8 = .ok (.getfield 14, 3) := by decide +kernel
theorem d_P_reserve_11 : decode b_P_reserve 11 = .ok (.iload_n 1, 1) := by decide +kernel
theorem d_P_reserve_12 : decode b_P_reserve 12 = .ok (.laload, 1) := by decide +kernel
theorem d_P_reserve_13 : decode b_P_reserve 13 = .ok (.goto 6, 3) := by decide +kernel
theorem d_P_reserve_16 : decode b_P_reserve 16 = .ok (.ldc2_w 86, 3) := by decide +kernel
theorem d_P_reserve_19 : decode b_P_reserve 19 = .ok (.lreturn, 1) := by decide +kernel
theorem d_P_lot_0 : decode b_P_lot 0 = .ok (.aload_n 0, 1) := by decide +kernel
theorem d_P_lot_1 : decode b_P_lot 1 = .ok (.getfield 21, 3) := by decide +kernel
theorem d_P_lot_4 : decode b_P_lot 4 = .ok (.iload_n 1, 1) := by decide +kernel
theorem d_P_lot_5 : decode b_P_lot 5 = .ok (.iload_n 2, 1) := by decide +kernel
theorem d_P_lot_6 : decode b_P_lot 6 = .ok (.iload_n 3, 1) := by decide +kernel
theorem d_P_lot_7 : decode b_P_lot 7 = .ok (.invokevirtual 138, 3) := by decide +kernel
theorem d_P_lot_10 : decode b_P_lot 10 = .ok (.astore 5, 2) := by decide +kernel
theorem d_P_lot_12 : decode b_P_lot 12 = .ok (.aload 5, 2) := by decide +kernel
theorem d_P_lot_14 : decode b_P_lot 14 = .ok (.ifnonnull 7, 3) := by decide +kernel
theorem d_P_lot_17 : decode b_P_lot 17 = .ok (.ldc2_w 141, 3) := by decide +kernel
theorem d_P_lot_20 : decode b_P_lot 20 = .ok (.lreturn, 1) := by decide +kernel
theorem d_P_lot_21 : decode b_P_lot 21 = .ok (.iload 4, 2) := by decide +kernel
theorem d_P_lot_23 : decode b_P_lot 23 = .ok (.tableswitch 47 0 2 #[25, 31, 39], 25) := by decide +kernel
theorem d_P_lot_48 : decode b_P_lot 48 = .ok (.aload 5, 2) := by decide +kernel
theorem d_P_lot_50 : decode b_P_lot 50 = .ok (.getfield 130, 3) := by decide +kernel
theorem d_P_lot_53 : decode b_P_lot 53 = .ok (.lreturn, 1) := by decide +kernel
theorem d_P_lot_54 : decode b_P_lot 54 = .ok (.aload 5, 2) := by decide +kernel
theorem d_P_lot_56 : decode b_P_lot 56 = .ok (.getfield 143, 3) := by decide +kernel
theorem d_P_lot_59 : decode b_P_lot 59 = .ok (.iconst 0, 1) := by decide +kernel
theorem d_P_lot_60 : decode b_P_lot 60 = .ok (.laload, 1) := by decide +kernel
theorem d_P_lot_61 : decode b_P_lot 61 = .ok (.lreturn, 1) := by decide +kernel
theorem d_P_lot_62 : decode b_P_lot 62 = .ok (.aload 5, 2) := by decide +kernel
theorem d_P_lot_64 : decode b_P_lot 64 = .ok (.getfield 143, 3) := by decide +kernel
theorem d_P_lot_67 : decode b_P_lot 67 = .ok (.iconst 1, 1) := by decide +kernel
theorem d_P_lot_68 : decode b_P_lot 68 = .ok (.laload, 1) := by decide +kernel
theorem d_P_lot_69 : decode b_P_lot 69 = .ok (.lreturn, 1) := by decide +kernel
theorem d_P_lot_70 : decode b_P_lot 70 = .ok (.ldc2_w 86, 3) := by decide +kernel
theorem d_P_lot_73 : decode b_P_lot 73 = .ok (.lreturn, 1) := by decide +kernel
theorem d_P_net_0 : decode b_P_net 0 = .ok (.aload_n 0, 1) := by decide +kernel
theorem d_P_net_1 : decode b_P_net 1 = .ok (.getfield 21, 3) := by decide +kernel
theorem d_P_net_4 : decode b_P_net 4 = .ok (.iload_n 1, 1) := by decide +kernel
theorem d_P_net_5 : decode b_P_net 5 = .ok (.invokevirtual 214, 3) := by decide +kernel
theorem d_P_net_8 : decode b_P_net 8 = .ok (.l2i, 1) := by decide +kernel
theorem d_P_net_9 : decode b_P_net 9 = .ok (.ireturn, 1) := by decide +kernel
theorem d_P_isSpacing_0 : decode b_P_isSpacing 0 = .ok (.iload_n 0, 1) := by decide +kernel
theorem d_P_isSpacing_1 : decode b_P_isSpacing 1 = .ok (.iconst 1, 1) := by decide +kernel
theorem d_P_isSpacing_2 : decode b_P_isSpacing 2 = .ok (.if_icmp .lt 24, 3) := by decide +kernel
theorem d_P_isSpacing_5 : decode b_P_isSpacing 5 = .ok (.iload_n 0, 1) := by decide +kernel
theorem d_P_isSpacing_6 : decode b_P_isSpacing 6 = .ok (.bipush 8, 2) := by decide +kernel
theorem d_P_isSpacing_8 : decode b_P_isSpacing 8 = .ok (.if_icmp .gt 18, 3) := by decide +kernel
theorem d_P_isSpacing_11 : decode b_P_isSpacing 11 = .ok (.iload_n 0, 1) := by decide +kernel
theorem d_P_isSpacing_12 : decode b_P_isSpacing 12 = .ok (.iconst 5, 1) := by decide +kernel
theorem d_P_isSpacing_13 : decode b_P_isSpacing 13 = .ok (.if_icmp .eq 13, 3) := by decide +kernel
theorem d_P_isSpacing_16 : decode b_P_isSpacing 16 = .ok (.iload_n 0, 1) := by decide +kernel
theorem d_P_isSpacing_17 : decode b_P_isSpacing 17 = .ok (.bipush 7, 2) := by decide +kernel
theorem d_P_isSpacing_19 : decode b_P_isSpacing 19 = .ok (.if_icmp .eq 7, 3) := by decide +kernel
theorem d_P_isSpacing_22 : decode b_P_isSpacing 22 = .ok (.iconst 1, 1) := by decide +kernel
theorem d_P_isSpacing_23 : decode b_P_isSpacing 23 = .ok (.goto 4, 3) := by decide +kernel
theorem d_P_isSpacing_26 : decode b_P_isSpacing 26 = .ok (.iconst 0, 1) := by decide +kernel
theorem d_P_isSpacing_27 : decode b_P_isSpacing 27 = .ok (.ireturn, 1) := by decide +kernel
theorem d_P_isStep_0 : decode b_P_isStep 0 = .ok (.iload_n 0, 1) := by decide +kernel
theorem d_P_isStep_1 : decode b_P_isStep 1 = .ok (.bipush (-24), 2) := by decide +kernel
theorem d_P_isStep_3 : decode b_P_isStep 3 = .ok (.if_icmp .lt 13, 3) := by decide +kernel
theorem d_P_isStep_6 : decode b_P_isStep 6 = .ok (.iload_n 0, 1) := by decide +kernel
theorem d_P_isStep_7 : decode b_P_isStep 7 = .ok (.bipush 24, 2) := by decide +kernel
theorem d_P_isStep_9 : decode b_P_isStep 9 = .ok (.if_icmp .gt 7, 3) := by decide +kernel
theorem d_P_isStep_12 : decode b_P_isStep 12 = .ok (.iconst 1, 1) := by decide +kernel
theorem d_P_isStep_13 : decode b_P_isStep 13 = .ok (.goto 4, 3) := by decide +kernel
theorem d_P_isStep_16 : decode b_P_isStep 16 = .ok (.iconst 0, 1) := by decide +kernel
theorem d_P_isStep_17 : decode b_P_isStep 17 = .ok (.ireturn, 1) := by decide +kernel
theorem d_P_isOwner_0 : decode b_P_isOwner 0 = .ok (.iload_n 0, 1) := by decide +kernel
theorem d_P_isOwner_1 : decode b_P_isOwner 1 = .ok (.ifCond .lt 12, 3) := by decide +kernel
theorem d_P_isOwner_4 : decode b_P_isOwner 4 = .ok (.iload_n 0, 1) := by decide +kernel
theorem d_P_isOwner_5 : decode b_P_isOwner 5 = .ok (.iconst 4, 1) := by decide +kernel
theorem d_P_isOwner_6 : decode b_P_isOwner 6 = .ok (.if_icmp .ge 7, 3) := by decide +kernel
theorem d_P_isOwner_9 : decode b_P_isOwner 9 = .ok (.iconst 1, 1) := by decide +kernel
theorem d_P_isOwner_10 : decode b_P_isOwner 10 = .ok (.goto 4, 3) := by decide +kernel
theorem d_P_isOwner_13 : decode b_P_isOwner 13 = .ok (.iconst 0, 1) := by decide +kernel
theorem d_P_isOwner_14 : decode b_P_isOwner 14 = .ok (.ireturn, 1) := by decide +kernel
theorem d_P_isToken_0 : decode b_P_isToken 0 = .ok (.iload_n 0, 1) := by decide +kernel
theorem d_P_isToken_1 : decode b_P_isToken 1 = .ok (.ifCond .lt 12, 3) := by decide +kernel
theorem d_P_isToken_4 : decode b_P_isToken 4 = .ok (.iload_n 0, 1) := by decide +kernel
theorem d_P_isToken_5 : decode b_P_isToken 5 = .ok (.iconst 2, 1) := by decide +kernel
theorem d_P_isToken_6 : decode b_P_isToken 6 = .ok (.if_icmp .ge 7, 3) := by decide +kernel
theorem d_P_isToken_9 : decode b_P_isToken 9 = .ok (.iconst 1, 1) := by decide +kernel
theorem d_P_isToken_10 : decode b_P_isToken 10 = .ok (.goto 4, 3) := by decide +kernel
theorem d_P_isToken_13 : decode b_P_isToken 13 = .ok (.iconst 0, 1) := by decide +kernel
theorem d_P_isToken_14 : decode b_P_isToken 14 = .ok (.ireturn, 1) := by decide +kernel
theorem d_P_isRange_0 : decode b_P_isRange 0 = .ok (.iload_n 1, 1) := by decide +kernel
theorem d_P_isRange_1 : decode b_P_isRange 1 = .ok (.invokestatic 56, 3) := by decide +kernel
theorem d_P_isRange_4 : decode b_P_isRange 4 = .ok (.ifCond .eq 37, 3) := by decide +kernel
theorem d_P_isRange_7 : decode b_P_isRange 7 = .ok (.iload_n 2, 1) := by decide +kernel
theorem d_P_isRange_8 : decode b_P_isRange 8 = .ok (.invokestatic 56, 3) := by decide +kernel
theorem d_P_isRange_11 : decode b_P_isRange 11 = .ok (.ifCond .eq 30, 3) := by decide +kernel
theorem d_P_isRange_14 : decode b_P_isRange 14 = .ok (.iload_n 1, 1) := by decide +kernel
theorem d_P_isRange_15 : decode b_P_isRange 15 = .ok (.iload_n 2, 1) := by decide +kernel
theorem d_P_isRange_16 : decode b_P_isRange 16 = .ok (.if_icmp .ge 25, 3) := by decide +kernel
theorem d_P_isRange_19 : decode b_P_isRange 19 = .ok (.iload_n 1, 1) := by decide +kernel
theorem d_P_isRange_20 : decode b_P_isRange 20 = .ok (.aload_n 0, 1) := by decide +kernel
theorem d_P_isRange_21 : decode b_P_isRange 21 = .ok (.getfield 36, 3) := by decide +kernel
theorem d_P_isRange_24 : decode b_P_isRange 24 = .ok (.irem, 1) := by decide +kernel
theorem d_P_isRange_25 : decode b_P_isRange 25 = .ok (.ifCond .ne 16, 3) := by decide +kernel
theorem d_P_isRange_28 : decode b_P_isRange 28 = .ok (.iload_n 2, 1) := by decide +kernel
theorem d_P_isRange_29 : decode b_P_isRange 29 = .ok (.aload_n 0, 1) := by decide +kernel
theorem d_P_isRange_30 : decode b_P_isRange 30 = .ok (.getfield 36, 3) := by decide +kernel
theorem d_P_isRange_33 : decode b_P_isRange 33 = .ok (.irem, 1) := by decide +kernel
theorem d_P_isRange_34 : decode b_P_isRange 34 = .ok (.ifCond .ne 7, 3) := by decide +kernel
theorem d_P_isRange_37 : decode b_P_isRange 37 = .ok (.iconst 1, 1) := by decide +kernel
theorem d_P_isRange_38 : decode b_P_isRange 38 = .ok (.goto 4, 3) := by decide +kernel
theorem d_P_isRange_41 : decode b_P_isRange 41 = .ok (.iconst 0, 1) := by decide +kernel
theorem d_P_isRange_42 : decode b_P_isRange 42 = .ok (.ireturn, 1) := by decide +kernel
theorem d_P_isTrade_0 : decode b_P_isTrade 0 = .ok (.iload_n 2, 1) := by decide +kernel
theorem d_P_isTrade_1 : decode b_P_isTrade 1 = .ok (.ifCond .eq 22, 3) := by decide +kernel
theorem d_P_isTrade_4 : decode b_P_isTrade 4 = .ok (.iload_n 2, 1) := by decide +kernel
theorem d_P_isTrade_5 : decode b_P_isTrade 5 = .ok (.ldc 217, 2) := by decide +kernel
theorem d_P_isTrade_7 : decode b_P_isTrade 7 = .ok (.if_icmp .lt 16, 3) := by decide +kernel
theorem d_P_isTrade_10 : decode b_P_isTrade 10 = .ok (.iload_n 2, 1) := by decide +kernel
theorem d_P_isTrade_11 : decode b_P_isTrade 11 = .ok (.ldc 85, 2) := by decide +kernel
theorem d_P_isTrade_13 : decode b_P_isTrade 13 = .ok (.if_icmp .gt 10, 3) := by decide +kernel
theorem d_P_isTrade_16 : decode b_P_isTrade 16 = .ok (.iload_n 3, 1) := by decide +kernel
theorem d_P_isTrade_17 : decode b_P_isTrade 17 = .ok (.invokestatic 56, 3) := by decide +kernel
theorem d_P_isTrade_20 : decode b_P_isTrade 20 = .ok (.ifCond .ne 5, 3) := by decide +kernel
theorem d_P_isTrade_23 : decode b_P_isTrade 23 = .ok (.iconst 0, 1) := by decide +kernel
theorem d_P_isTrade_24 : decode b_P_isTrade 24 = .ok (.ireturn, 1) := by decide +kernel
theorem d_P_isTrade_25 : decode b_P_isTrade 25 = .ok (.iload_n 1, 1) := by decide +kernel
theorem d_P_isTrade_26 : decode b_P_isTrade 26 = .ok (.ifCond .eq 22, 3) := by decide +kernel
theorem d_P_isTrade_29 : decode b_P_isTrade 29 = .ok (.iload_n 3, 1) := by decide +kernel
theorem d_P_isTrade_30 : decode b_P_isTrade 30 = .ok (.invokestatic 59, 3) := by decide +kernel
theorem d_P_isTrade_33 : decode b_P_isTrade 33 = .ok (.aload_n 0, 1) := by decide +kernel
theorem d_P_isTrade_34 : decode b_P_isTrade 34 = .ok (.getfield 63, 3) := by decide +kernel
theorem d_P_isTrade_37 : decode b_P_isTrade 37 = .ok (.if_icmp .ge 7, 3) := by decide +kernel
theorem d_P_isTrade_40 : decode b_P_isTrade 40 = .ok (.iconst 1, 1) := by decide +kernel
theorem d_P_isTrade_41 : decode b_P_isTrade 41 = .ok (.goto 23, 3) := by decide +kernel
theorem d_P_isTrade_44 : decode b_P_isTrade 44 = .ok (.iconst 0, 1) := by decide +kernel
theorem d_P_isTrade_45 : decode b_P_isTrade 45 = .ok (.goto 19, 3) := by decide +kernel
theorem d_P_isTrade_48 : decode b_P_isTrade 48 = .ok (.iload_n 3, 1) := by decide +kernel
theorem d_P_isTrade_49 : decode b_P_isTrade 49 = .ok (.invokestatic 59, 3) := by decide +kernel
theorem d_P_isTrade_52 : decode b_P_isTrade 52 = .ok (.aload_n 0, 1) := by decide +kernel
theorem d_P_isTrade_53 : decode b_P_isTrade 53 = .ok (.getfield 63, 3) := by decide +kernel
theorem d_P_isTrade_56 : decode b_P_isTrade 56 = .ok (.if_icmp .le 7, 3) := by decide +kernel
theorem d_P_isTrade_59 : decode b_P_isTrade 59 = .ok (.iconst 1, 1) := by decide +kernel
theorem d_P_isTrade_60 : decode b_P_isTrade 60 = .ok (.goto 4, 3) := by decide +kernel
theorem d_P_isTrade_63 : decode b_P_isTrade 63 = .ok (.iconst 0, 1) := by decide +kernel
theorem d_P_isTrade_64 : decode b_P_isTrade 64 = .ok (.ireturn, 1) := by decide +kernel
theorem d_P_canLend_0 : decode b_P_canLend 0 = .ok (.iload_n 2, 1) := by decide +kernel
theorem d_P_canLend_1 : decode b_P_canLend 1 = .ok (.ifCond .lt 25, 3) := by decide +kernel
theorem d_P_canLend_4 : decode b_P_canLend 4 = .ok (.iload_n 2, 1) := by decide +kernel
theorem d_P_canLend_5 : decode b_P_canLend 5 = .ok (.ldc 85, 2) := by decide +kernel
theorem d_P_canLend_7 : decode b_P_canLend 7 = .ok (.if_icmp .gt 19, 3) := by decide +kernel
theorem d_P_canLend_10 : decode b_P_canLend 10 = .ok (.iload_n 2, 1) := by decide +kernel
theorem d_P_canLend_11 : decode b_P_canLend 11 = .ok (.i2l, 1) := by decide +kernel
theorem d_P_canLend_12 : decode b_P_canLend 12 = .ok (.aload_n 0, 1) := by decide +kernel
theorem d_P_canLend_13 : decode b_P_canLend 13 = .ok (.getfield 14, 3) := by decide +kernel
theorem d_P_canLend_16 : decode b_P_canLend 16 = .ok (.iload_n 1, 1) := by decide +kernel
theorem d_P_canLend_17 : decode b_P_canLend 17 = .ok (.laload, 1) := by decide +kernel
theorem d_P_canLend_18 : decode b_P_canLend 18 = .ok (.lcmp, 1) := by decide +kernel
theorem d_P_canLend_19 : decode b_P_canLend 19 = .ok (.ifCond .gt 7, 3) := by decide +kernel
theorem d_P_canLend_22 : decode b_P_canLend 22 = .ok (.iconst 1, 1) := by decide +kernel
theorem d_P_canLend_23 : decode b_P_canLend 23 = .ok (.goto 4, 3) := by decide +kernel
theorem d_P_canLend_26 : decode b_P_canLend 26 = .ok (.iconst 0, 1) := by decide +kernel
theorem d_P_canLend_27 : decode b_P_canLend 27 = .ok (.ireturn, 1) := by decide +kernel
theorem d_P_canPay_0 : decode b_P_canPay 0 = .ok (.aload_n 0, 1) := by decide +kernel
theorem d_P_canPay_1 : decode b_P_canPay 1 = .ok (.getfield 11, 3) := by decide +kernel
theorem d_P_canPay_4 : decode b_P_canPay 4 = .ok (.iload_n 1, 1) := by decide +kernel
theorem d_P_canPay_5 : decode b_P_canPay 5 = .ok (.aaload, 1) := by decide +kernel
theorem d_P_canPay_6 : decode b_P_canPay 6 = .ok (.iconst 0, 1) := by decide +kernel
theorem d_P_canPay_7 : decode b_P_canPay 7 = .ok (.laload, 1) := by decide +kernel
theorem d_P_canPay_8 : decode b_P_canPay 8 = .ok (.lload_n 2, 1) := by decide +kernel
theorem d_P_canPay_9 : decode b_P_canPay 9 = .ok (.lcmp, 1) := by decide +kernel
theorem d_P_canPay_10 : decode b_P_canPay 10 = .ok (.ifCond .lt 21, 3) := by decide +kernel
theorem d_P_canPay_13 : decode b_P_canPay 13 = .ok (.aload_n 0, 1) := by decide +kernel
theorem d_P_canPay_14 : decode b_P_canPay 14 = .ok (.getfield 11, 3) := by decide +kernel
theorem d_P_canPay_17 : decode b_P_canPay 17 = .ok (.iload_n 1, 1) := by decide +kernel
theorem d_P_canPay_18 : decode b_P_canPay 18 = .ok (.aaload, 1) := by decide +kernel
theorem d_P_canPay_19 : decode b_P_canPay 19 = .ok (.iconst 1, 1) := by decide +kernel
theorem d_P_canPay_20 : decode b_P_canPay 20 = .ok (.laload, 1) := by decide +kernel
theorem d_P_canPay_21 : decode b_P_canPay 21 = .ok (.lload 4, 2) := by decide +kernel
theorem d_P_canPay_23 : decode b_P_canPay 23 = .ok (.lcmp, 1) := by decide +kernel
theorem d_P_canPay_24 : decode b_P_canPay 24 = .ok (.ifCond .lt 7, 3) := by decide +kernel
theorem d_P_canPay_27 : decode b_P_canPay 27 = .ok (.iconst 1, 1) := by decide +kernel
theorem d_P_canPay_28 : decode b_P_canPay 28 = .ok (.goto 4, 3) := by decide +kernel
theorem d_P_canPay_31 : decode b_P_canPay 31 = .ok (.iconst 0, 1) := by decide +kernel
theorem d_P_canPay_32 : decode b_P_canPay 32 = .ok (.ireturn, 1) := by decide +kernel
theorem d_P_pay_0 : decode b_P_pay 0 = .ok (.aload_n 0, 1) := by decide +kernel
theorem d_P_pay_1 : decode b_P_pay 1 = .ok (.iload_n 1, 1) := by decide +kernel
theorem d_P_pay_2 : decode b_P_pay 2 = .ok (.iconst 0, 1) := by decide +kernel
theorem d_P_pay_3 : decode b_P_pay 3 = .ok (.lload_n 2, 1) := by decide +kernel
theorem d_P_pay_4 : decode b_P_pay 4 = .ok (.invokevirtual 165, 3) := by decide +kernel
theorem d_P_pay_7 : decode b_P_pay 7 = .ok (.aload_n 0, 1) := by decide +kernel
theorem d_P_pay_8 : decode b_P_pay 8 = .ok (.iload_n 1, 1) := by decide +kernel
theorem d_P_pay_9 : decode b_P_pay 9 = .ok (.iconst 1, 1) := by decide +kernel
theorem d_P_pay_10 : decode b_P_pay 10 = .ok (.lload 4, 2) := by decide +kernel
theorem d_P_pay_12 : decode b_P_pay 12 = .ok (.invokevirtual 165, 3) := by decide +kernel
theorem d_P_pay_15 : decode b_P_pay 15 = .ok (.return_, 1) := by decide +kernel
theorem d_P_transfer_0 : decode b_P_transfer 0 = .ok (.aload_n 0, 1) := by decide +kernel
theorem d_P_transfer_1 : decode b_P_transfer 1 = .ok (.getfield 11, 3) := by decide +kernel
theorem d_P_transfer_4 : decode b_P_transfer 4 = .ok (.iload_n 1, 1) := by decide +kernel
theorem d_P_transfer_5 : decode b_P_transfer 5 = .ok (.aaload, 1) := by decide +kernel
theorem d_P_transfer_6 : decode b_P_transfer 6 = .ok (.iload_n 2, 1) := by decide +kernel
theorem d_P_transfer_7 : decode b_P_transfer 7 = .ok (.dup2, 1) := by decide +kernel
theorem d_P_transfer_8 : decode b_P_transfer 8 = .ok (.laload, 1) := by decide +kernel
theorem d_P_transfer_9 : decode b_P_transfer 9 = .ok (.lload_n 3, 1) := by decide +kernel
theorem d_P_transfer_10 : decode b_P_transfer 10 = .ok (.lsub, 1) := by decide +kernel
theorem d_P_transfer_11 : decode b_P_transfer 11 = .ok (.lastore, 1) := by decide +kernel
theorem d_P_transfer_12 : decode b_P_transfer 12 = .ok (.aload_n 0, 1) := by decide +kernel
theorem d_P_transfer_13 : decode b_P_transfer 13 = .ok (.getfield 14, 3) := by decide +kernel
theorem d_P_transfer_16 : decode b_P_transfer 16 = .ok (.iload_n 2, 1) := by decide +kernel
theorem d_P_transfer_17 : decode b_P_transfer 17 = .ok (.dup2, 1) := by decide +kernel
theorem d_P_transfer_18 : decode b_P_transfer 18 = .ok (.laload, 1) := by decide +kernel
theorem d_P_transfer_19 : decode b_P_transfer 19 = .ok (.lload_n 3, 1) := by decide +kernel
theorem d_P_transfer_20 : decode b_P_transfer 20 = .ok (.ladd, 1) := by decide +kernel
theorem d_P_transfer_21 : decode b_P_transfer 21 = .ok (.lastore, 1) := by decide +kernel
theorem d_P_transfer_22 : decode b_P_transfer 22 = .ok (.return_, 1) := by decide +kernel
theorem d_P_takeFee_0 : decode b_P_takeFee 0 = .ok (.aload_n 0, 1) := by decide +kernel
theorem d_P_takeFee_1 : decode b_P_takeFee 1 = .ok (.getfield 21, 3) := by decide +kernel
theorem d_P_takeFee_4 : decode b_P_takeFee 4 = .ok (.invokevirtual 218, 3) := by decide +kernel
theorem d_P_takeFee_7 : decode b_P_takeFee 7 = .ok (.aload_n 0, 1) := by decide +kernel
theorem d_P_takeFee_8 : decode b_P_takeFee 8 = .ok (.getfield 21, 3) := by decide +kernel
theorem d_P_takeFee_11 : decode b_P_takeFee 11 = .ok (.aload_n 0, 1) := by decide +kernel
theorem d_P_takeFee_12 : decode b_P_takeFee 12 = .ok (.getfield 66, 3) := by decide +kernel
theorem d_P_takeFee_15 : decode b_P_takeFee 15 = .ok (.lload_n 2, 1) := by decide +kernel
theorem d_P_takeFee_16 : decode b_P_takeFee 16 = .ok (.lload 4, 2) := by decide +kernel
theorem d_P_takeFee_18 : decode b_P_takeFee 18 = .ok (.invokevirtual 221, 3) := by decide +kernel
theorem d_P_takeFee_21 : decode b_P_takeFee 21 = .ok (.aload_n 0, 1) := by decide +kernel
theorem d_P_takeFee_22 : decode b_P_takeFee 22 = .ok (.getfield 21, 3) := by decide +kernel
theorem d_P_takeFee_25 : decode b_P_takeFee 25 = .ok (.iload_n 1, 1) := by decide +kernel
theorem d_P_takeFee_26 : decode b_P_takeFee 26 = .ok (.invokevirtual 172, 3) := by decide +kernel
theorem d_P_takeFee_29 : decode b_P_takeFee 29 = .ok (.return_, 1) := by decide +kernel
theorem d_P_zeroOfRange_0 : decode b_P_zeroOfRange 0 = .ok (.aload_n 0, 1) := by decide +kernel
theorem d_P_zeroOfRange_1 : decode b_P_zeroOfRange 1 = .ok (.getfield 66, 3) := by decide +kernel
theorem d_P_zeroOfRange_4 : decode b_P_zeroOfRange 4 = .ok (.iload_n 2, 1) := by decide +kernel
theorem d_P_zeroOfRange_5 : decode b_P_zeroOfRange 5 = .ok (.if_icmp .lt 5, 3) := by decide +kernel
theorem d_P_zeroOfRange_8 : decode b_P_zeroOfRange 8 = .ok (.lconst 0, 1) := by decide +kernel
theorem d_P_zeroOfRange_9 : decode b_P_zeroOfRange 9 = .ok (.lreturn, 1) := by decide +kernel
theorem d_P_zeroOfRange_10 : decode b_P_zeroOfRange 10 = .ok (.aload_n 0, 1) := by decide +kernel
theorem d_P_zeroOfRange_11 : decode b_P_zeroOfRange 11 = .ok (.getfield 66, 3) := by decide +kernel
theorem d_P_zeroOfRange_14 : decode b_P_zeroOfRange 14 = .ok (.iload_n 1, 1) := by decide +kernel
theorem d_P_zeroOfRange_15 : decode b_P_zeroOfRange 15 = .ok (.if_icmp .ge 10, 3) := by decide +kernel
theorem d_P_zeroOfRange_18 : decode b_P_zeroOfRange 18 = .ok (.iload_n 1, 1) := by decide +kernel
theorem d_P_zeroOfRange_19 : decode b_P_zeroOfRange 19 = .ok (.invokestatic 59, 3) := by decide +kernel
theorem d_P_zeroOfRange_22 : decode b_P_zeroOfRange 22 = .ok (.goto 7, 3) := by decide +kernel
theorem d_P_zeroOfRange_25 : decode b_P_zeroOfRange 25 = .ok (.aload_n 0, 1) := by decide +kernel
theorem d_P_zeroOfRange_26 : decode b_P_zeroOfRange 26 = .ok (.getfield 63, 3) := by decide +kernel
theorem d_P_zeroOfRange_29 : decode b_P_zeroOfRange 29 = .ok (.istore 6, 2) := by decide +kernel
theorem d_P_zeroOfRange_31 : decode b_P_zeroOfRange 31 = .ok (.iload 6, 2) := by decide +kernel
theorem d_P_zeroOfRange_33 : decode b_P_zeroOfRange 33 = .ok (.i2l, 1) := by decide +kernel
theorem d_P_zeroOfRange_34 : decode b_P_zeroOfRange 34 = .ok (.iload_n 2, 1) := by decide +kernel
theorem d_P_zeroOfRange_35 : decode b_P_zeroOfRange 35 = .ok (.invokestatic 59, 3) := by decide +kernel
theorem d_P_zeroOfRange_38 : decode b_P_zeroOfRange 38 = .ok (.i2l, 1) := by decide +kernel
theorem d_P_zeroOfRange_39 : decode b_P_zeroOfRange 39 = .ok (.lload_n 3, 1) := by decide +kernel
theorem d_P_zeroOfRange_40 : decode b_P_zeroOfRange 40 = .ok (.iload 5, 2) := by decide +kernel
theorem d_P_zeroOfRange_42 : decode b_P_zeroOfRange 42 = .ok (.invokestatic 224, 3) := by decide +kernel
theorem d_P_zeroOfRange_45 : decode b_P_zeroOfRange 45 = .ok (.lreturn, 1) := by decide +kernel
theorem d_P_oneOfRange_0 : decode b_P_oneOfRange 0 = .ok (.aload_n 0, 1) := by decide +kernel
theorem d_P_oneOfRange_1 : decode b_P_oneOfRange 1 = .ok (.getfield 66, 3) := by decide +kernel
theorem d_P_oneOfRange_4 : decode b_P_oneOfRange 4 = .ok (.iload_n 1, 1) := by decide +kernel
theorem d_P_oneOfRange_5 : decode b_P_oneOfRange 5 = .ok (.if_icmp .ge 5, 3) := by decide +kernel
theorem d_P_oneOfRange_8 : decode b_P_oneOfRange 8 = .ok (.lconst 0, 1) := by decide +kernel
theorem d_P_oneOfRange_9 : decode b_P_oneOfRange 9 = .ok (.lreturn, 1) := by decide +kernel
theorem d_P_oneOfRange_10 : decode b_P_oneOfRange 10 = .ok (.aload_n 0, 1) := by decide +kernel
theorem d_P_oneOfRange_11 : decode b_P_oneOfRange 11 = .ok (.getfield 66, 3) := by decide +kernel
theorem d_P_oneOfRange_14 : decode b_P_oneOfRange 14 = .ok (.iload_n 2, 1) := by decide +kernel
theorem d_P_oneOfRange_15 : decode b_P_oneOfRange 15 = .ok (.if_icmp .lt 10, 3) := by decide +kernel
theorem d_P_oneOfRange_18 : decode b_P_oneOfRange 18 = .ok (.iload_n 2, 1) := by decide +kernel
theorem d_P_oneOfRange_19 : decode b_P_oneOfRange 19 = .ok (.invokestatic 59, 3) := by decide +kernel
theorem d_P_oneOfRange_22 : decode b_P_oneOfRange 22 = .ok (.goto 7, 3) := by decide +kernel
theorem d_P_oneOfRange_25 : decode b_P_oneOfRange 25 = .ok (.aload_n 0, 1) := by decide +kernel
theorem d_P_oneOfRange_26 : decode b_P_oneOfRange 26 = .ok (.getfield 63, 3) := by decide +kernel
theorem d_P_oneOfRange_29 : decode b_P_oneOfRange 29 = .ok (.istore 6, 2) := by decide +kernel
theorem d_P_oneOfRange_31 : decode b_P_oneOfRange 31 = .ok (.iload_n 1, 1) := by decide +kernel
theorem d_P_oneOfRange_32 : decode b_P_oneOfRange 32 = .ok (.invokestatic 59, 3) := by decide +kernel
theorem d_P_oneOfRange_35 : decode b_P_oneOfRange 35 = .ok (.i2l, 1) := by decide +kernel
theorem d_P_oneOfRange_36 : decode b_P_oneOfRange 36 = .ok (.iload 6, 2) := by decide +kernel
theorem d_P_oneOfRange_38 : decode b_P_oneOfRange 38 = .ok (.i2l, 1) := by decide +kernel
theorem d_P_oneOfRange_39 : decode b_P_oneOfRange 39 = .ok (.lload_n 3, 1) := by decide +kernel
theorem d_P_oneOfRange_40 : decode b_P_oneOfRange 40 = .ok (.iload 5, 2) := by decide +kernel
theorem d_P_oneOfRange_42 : decode b_P_oneOfRange 42 = .ok (.invokestatic 228, 3) := by decide +kernel
theorem d_P_oneOfRange_45 : decode b_P_oneOfRange 45 = .ok (.lreturn, 1) := by decide +kernel
theorem d_P_zeroBetween_0 : decode b_P_zeroBetween 0 = .ok (.lload 4, 2) := by decide +kernel
theorem d_P_zeroBetween_2 : decode b_P_zeroBetween 2 = .ok (.ldc2_w 231, 3) := by decide +kernel
theorem d_P_zeroBetween_5 : decode b_P_zeroBetween 5 = .ok (.lmul, 1) := by decide +kernel
theorem d_P_zeroBetween_6 : decode b_P_zeroBetween 6 = .ok (.lload_n 2, 1) := by decide +kernel
theorem d_P_zeroBetween_7 : decode b_P_zeroBetween 7 = .ok (.lload_n 0, 1) := by decide +kernel
theorem d_P_zeroBetween_8 : decode b_P_zeroBetween 8 = .ok (.lsub, 1) := by decide +kernel
theorem d_P_zeroBetween_9 : decode b_P_zeroBetween 9 = .ok (.lmul, 1) := by decide +kernel
theorem d_P_zeroBetween_10 : decode b_P_zeroBetween 10 = .ok (.lload_n 0, 1) := by decide +kernel
theorem d_P_zeroBetween_11 : decode b_P_zeroBetween 11 = .ok (.lload_n 2, 1) := by decide +kernel
theorem d_P_zeroBetween_12 : decode b_P_zeroBetween 12 = .ok (.lmul, 1) := by decide +kernel
theorem d_P_zeroBetween_13 : decode b_P_zeroBetween 13 = .ok (.iload 6, 2) := by decide +kernel
theorem d_P_zeroBetween_15 : decode b_P_zeroBetween 15 = .ok (.invokestatic 190, 3) := by decide +kernel
theorem d_P_zeroBetween_18 : decode b_P_zeroBetween 18 = .ok (.lreturn, 1) := by decide +kernel
theorem d_P_oneBetween_0 : decode b_P_oneBetween 0 = .ok (.lload 4, 2) := by decide +kernel
theorem d_P_oneBetween_2 : decode b_P_oneBetween 2 = .ok (.lload_n 2, 1) := by decide +kernel
theorem d_P_oneBetween_3 : decode b_P_oneBetween 3 = .ok (.lload_n 0, 1) := by decide +kernel
theorem d_P_oneBetween_4 : decode b_P_oneBetween 4 = .ok (.lsub, 1) := by decide +kernel
theorem d_P_oneBetween_5 : decode b_P_oneBetween 5 = .ok (.lmul, 1) := by decide +kernel
theorem d_P_oneBetween_6 : decode b_P_oneBetween 6 = .ok (.ldc2_w 231, 3) := by decide +kernel
theorem d_P_oneBetween_9 : decode b_P_oneBetween 9 = .ok (.iload 6, 2) := by decide +kernel
theorem d_P_oneBetween_11 : decode b_P_oneBetween 11 = .ok (.invokestatic 190, 3) := by decide +kernel
theorem d_P_oneBetween_14 : decode b_P_oneBetween 14 = .ok (.lreturn, 1) := by decide +kernel
theorem d_P_quotient_0 : decode b_P_quotient 0 = .ok (.lload_n 2, 1) := by decide +kernel
theorem d_P_quotient_1 : decode b_P_quotient 1 = .ok (.lconst 1, 1) := by decide +kernel
theorem d_P_quotient_2 : decode b_P_quotient 2 = .ok (.lcmp, 1) := by decide +kernel
theorem d_P_quotient_3 : decode b_P_quotient 3 = .ok (.ifCond .ge 5, 3) := by decide +kernel
theorem d_P_quotient_6 : decode b_P_quotient 6 = .ok (.lconst 0, 1) := by decide +kernel
theorem d_P_quotient_7 : decode b_P_quotient 7 = .ok (.lreturn, 1) := by decide +kernel
theorem d_P_quotient_8 : decode b_P_quotient 8 = .ok (.lload_n 0, 1) := by decide +kernel
theorem d_P_quotient_9 : decode b_P_quotient 9 = .ok (.lload_n 2, 1) := by decide +kernel
theorem d_P_quotient_10 : decode b_P_quotient 10 = .ok (.ldiv, 1) := by decide +kernel
theorem d_P_quotient_11 : decode b_P_quotient 11 = .ok (.lstore 5, 2) := by decide +kernel
theorem d_P_quotient_13 : decode b_P_quotient 13 = .ok (.iload 4, 2) := by decide +kernel
theorem d_P_quotient_15 : decode b_P_quotient 15 = .ok (.ifCond .eq 18, 3) := by decide +kernel
theorem d_P_quotient_18 : decode b_P_quotient 18 = .ok (.lload_n 0, 1) := by decide +kernel
theorem d_P_quotient_19 : decode b_P_quotient 19 = .ok (.lload_n 2, 1) := by decide +kernel
theorem d_P_quotient_20 : decode b_P_quotient 20 = .ok (.lrem, 1) := by decide +kernel
theorem d_P_quotient_21 : decode b_P_quotient 21 = .ok (.lconst 0, 1) := by decide +kernel
theorem d_P_quotient_22 : decode b_P_quotient 22 = .ok (.lcmp, 1) := by decide +kernel
theorem d_P_quotient_23 : decode b_P_quotient 23 = .ok (.ifCond .eq 10, 3) := by decide +kernel
theorem d_P_quotient_26 : decode b_P_quotient 26 = .ok (.lload 5, 2) := by decide +kernel
theorem d_P_quotient_28 : decode b_P_quotient 28 = .ok (.lconst 1, 1) := by decide +kernel
theorem d_P_quotient_29 : decode b_P_quotient 29 = .ok (.ladd, 1) := by decide +kernel
theorem d_P_quotient_30 : decode b_P_quotient 30 = .ok (.goto 5, 3) := by decide +kernel
theorem d_P_quotient_33 : decode b_P_quotient 33 = .ok (.lload 5, 2) := by decide +kernel
theorem d_P_quotient_35 : decode b_P_quotient 35 = .ok (.lreturn, 1) := by decide +kernel
theorem d_P_pair_0 : decode b_P_pair 0 = .ok (.lload_n 0, 1) := by decide +kernel
theorem d_P_pair_1 : decode b_P_pair 1 = .ok (.ldc2_w 233, 3) := by decide +kernel
theorem d_P_pair_4 : decode b_P_pair 4 = .ok (.lmul, 1) := by decide +kernel
theorem d_P_pair_5 : decode b_P_pair 5 = .ok (.lload_n 2, 1) := by decide +kernel
theorem d_P_pair_6 : decode b_P_pair 6 = .ok (.ladd, 1) := by decide +kernel
theorem d_P_pair_7 : decode b_P_pair 7 = .ok (.lreturn, 1) := by decide +kernel
theorem d_P_priceOf_0 : decode b_P_priceOf 0 = .ok (.getstatic 235, 3) := by decide +kernel
theorem d_P_priceOf_3 : decode b_P_priceOf 3 = .ok (.iload_n 0, 1) := by decide +kernel
theorem d_P_priceOf_4 : decode b_P_priceOf 4 = .ok (.bipush (-24), 2) := by decide +kernel
theorem d_P_priceOf_6 : decode b_P_priceOf 6 = .ok (.isub, 1) := by decide +kernel
theorem d_P_priceOf_7 : decode b_P_priceOf 7 = .ok (.iaload, 1) := by decide +kernel
theorem d_P_priceOf_8 : decode b_P_priceOf 8 = .ok (.ireturn, 1) := by decide +kernel
theorem d_P_greatestStepAt_0 : decode b_P_greatestStepAt 0 = .ok (.bipush 24, 2) := by decide +kernel
theorem d_P_greatestStepAt_2 : decode b_P_greatestStepAt 2 = .ok (.istore_n 1, 1) := by decide +kernel
theorem d_P_greatestStepAt_3 : decode b_P_greatestStepAt 3 = .ok (.iload_n 1, 1) := by decide +kernel
theorem d_P_greatestStepAt_4 : decode b_P_greatestStepAt 4 = .ok (.bipush (-24), 2) := by decide +kernel
theorem d_P_greatestStepAt_6 : decode b_P_greatestStepAt 6 = .ok (.if_icmp .lt 17, 3) := by decide +kernel
theorem d_P_greatestStepAt_9 : decode b_P_greatestStepAt 9 = .ok (.iload_n 1, 1) := by decide +kernel
theorem d_P_greatestStepAt_10 : decode b_P_greatestStepAt 10 = .ok (.invokestatic 59, 3) := by decide +kernel
theorem d_P_greatestStepAt_13 : decode b_P_greatestStepAt 13 = .ok (.iload_n 0, 1) := by decide +kernel
theorem d_P_greatestStepAt_14 : decode b_P_greatestStepAt 14 = .ok (.if_icmp .le 9, 3) := by decide +kernel
theorem d_P_greatestStepAt_17 : decode b_P_greatestStepAt 17 = .ok (.iinc 1 (-1), 3) := by decide +kernel
theorem d_P_greatestStepAt_20 : decode b_P_greatestStepAt 20 = .ok (.goto (-17), 3) := by decide +kernel
theorem d_P_greatestStepAt_23 : decode b_P_greatestStepAt 23 = .ok (.iload_n 1, 1) := by decide +kernel
theorem d_P_greatestStepAt_24 : decode b_P_greatestStepAt 24 = .ok (.ireturn, 1) := by decide +kernel
end
section
theorem d_T_init_0 : decode b_T_init 0 = .ok (.aload_n 0, 1) := by decide +kernel
theorem d_T_init_1 : decode b_T_init 1 = .ok (.invokespecial 3, 3) := by decide +kernel
theorem d_T_init_4 : decode b_T_init 4 = .ok (.aload_n 0, 1) := by decide +kernel
theorem d_T_init_5 : decode b_T_init 5 = .ok (.iconst 2, 1) := by decide +kernel
theorem d_T_init_6 : decode b_T_init 6 = .ok (.newarray .long, 2) := by decide +kernel
theorem d_T_init_8 : decode b_T_init 8 = .ok (.putfield 9, 3) := by decide +kernel
theorem d_T_init_11 : decode b_T_init 11 = .ok (.aload_n 0, 1) := by decide +kernel
theorem d_T_init_12 : decode b_T_init 12 = .ok (.iconst 2, 1) := by decide +kernel
theorem d_T_init_13 : decode b_T_init 13 = .ok (.newarray .long, 2) := by decide +kernel
theorem d_T_init_15 : decode b_T_init 15 = .ok (.putfield 15, 3) := by decide +kernel
theorem d_T_init_18 : decode b_T_init 18 = .ok (.return_, 1) := by decide +kernel
theorem d_T_isThere_0 : decode b_T_isThere 0 = .ok (.aload_n 0, 1) := by decide +kernel
theorem d_T_isThere_1 : decode b_T_isThere 1 = .ok (.getfield 18, 3) := by decide +kernel
theorem d_T_isThere_4 : decode b_T_isThere 4 = .ok (.lconst 0, 1) := by decide +kernel
theorem d_T_isThere_5 : decode b_T_isThere 5 = .ok (.lcmp, 1) := by decide +kernel
theorem d_T_isThere_6 : decode b_T_isThere 6 = .ok (.ifCond .ne 25, 3) := by decide +kernel
theorem d_T_isThere_9 : decode b_T_isThere 9 = .ok (.aload_n 0, 1) := by decide +kernel
theorem d_T_isThere_10 : decode b_T_isThere 10 = .ok (.getfield 9, 3) := by decide +kernel
theorem d_T_isThere_13 : decode b_T_isThere 13 = .ok (.iconst 0, 1) := by decide +kernel
theorem d_T_isThere_14 : decode b_T_isThere 14 = .ok (.laload, 1) := by decide +kernel
theorem d_T_isThere_15 : decode b_T_isThere 15 = .ok (.lconst 0, 1) := by decide +kernel
theorem d_T_isThere_16 : decode b_T_isThere 16 = .ok (.lcmp, 1) := by decide +kernel
theorem d_T_isThere_17 : decode b_T_isThere 17 = .ok (.ifCond .ne 14, 3) := by decide +kernel
theorem d_T_isThere_20 : decode b_T_isThere 20 = .ok (.aload_n 0, 1) := by decide +kernel
theorem d_T_isThere_21 : decode b_T_isThere 21 = .ok (.getfield 9, 3) := by decide +kernel
theorem d_T_isThere_24 : decode b_T_isThere 24 = .ok (.iconst 1, 1) := by decide +kernel
theorem d_T_isThere_25 : decode b_T_isThere 25 = .ok (.laload, 1) := by decide +kernel
theorem d_T_isThere_26 : decode b_T_isThere 26 = .ok (.lconst 0, 1) := by decide +kernel
theorem d_T_isThere_27 : decode b_T_isThere 27 = .ok (.lcmp, 1) := by decide +kernel
theorem d_T_isThere_28 : decode b_T_isThere 28 = .ok (.ifCond .eq 7, 3) := by decide +kernel
theorem d_T_isThere_31 : decode b_T_isThere 31 = .ok (.iconst 1, 1) := by decide +kernel
theorem d_T_isThere_32 : decode b_T_isThere 32 = .ok (.goto 4, 3) := by decide +kernel
theorem d_T_isThere_35 : decode b_T_isThere 35 = .ok (.iconst 0, 1) := by decide +kernel
theorem d_T_isThere_36 : decode b_T_isThere 36 = .ok (.ireturn, 1) := by decide +kernel
theorem d_T_isFor_0 : decode b_T_isFor 0 = .ok (.aload_n 0, 1) := by decide +kernel
theorem d_T_isFor_1 : decode b_T_isFor 1 = .ok (.getfield 22, 3) := by decide +kernel
theorem d_T_isFor_4 : decode b_T_isFor 4 = .ok (.iload_n 1, 1) := by decide +kernel
theorem d_T_isFor_5 : decode b_T_isFor 5 = .ok (.if_icmp .ne 23, 3) := by decide +kernel
theorem d_T_isFor_8 : decode b_T_isFor 8 = .ok (.aload_n 0, 1) := by decide +kernel
theorem d_T_isFor_9 : decode b_T_isFor 9 = .ok (.getfield 26, 3) := by decide +kernel
theorem d_T_isFor_12 : decode b_T_isFor 12 = .ok (.iload_n 2, 1) := by decide +kernel
theorem d_T_isFor_13 : decode b_T_isFor 13 = .ok (.if_icmp .ne 15, 3) := by decide +kernel
theorem d_T_isFor_16 : decode b_T_isFor 16 = .ok (.aload_n 0, 1) := by decide +kernel
theorem d_T_isFor_17 : decode b_T_isFor 17 = .ok (.getfield 29, 3) := by decide +kernel
theorem d_T_isFor_20 : decode b_T_isFor 20 = .ok (.iload_n 3, 1) := by decide +kernel
theorem d_T_isFor_21 : decode b_T_isFor 21 = .ok (.if_icmp .ne 7, 3) := by decide +kernel
theorem d_T_isFor_24 : decode b_T_isFor 24 = .ok (.iconst 1, 1) := by decide +kernel
theorem d_T_isFor_25 : decode b_T_isFor 25 = .ok (.goto 4, 3) := by decide +kernel
theorem d_T_isFor_28 : decode b_T_isFor 28 = .ok (.iconst 0, 1) := by decide +kernel
theorem d_T_isFor_29 : decode b_T_isFor 29 = .ok (.ireturn, 1) := by decide +kernel
theorem d_T_isInRange_0 : decode b_T_isInRange 0 = .ok (.aload_n 0, 1) := by decide +kernel
theorem d_T_isInRange_1 : decode b_T_isInRange 1 = .ok (.getfield 26, 3) := by decide +kernel
theorem d_T_isInRange_4 : decode b_T_isInRange 4 = .ok (.iload_n 1, 1) := by decide +kernel
theorem d_T_isInRange_5 : decode b_T_isInRange 5 = .ok (.if_icmp .gt 15, 3) := by decide +kernel
theorem d_T_isInRange_8 : decode b_T_isInRange 8 = .ok (.iload_n 1, 1) := by decide +kernel
theorem d_T_isInRange_9 : decode b_T_isInRange 9 = .ok (.aload_n 0, 1) := by decide +kernel
theorem d_T_isInRange_10 : decode b_T_isInRange 10 = .ok (.getfield 29, 3) := by decide +kernel
theorem d_T_isInRange_13 : decode b_T_isInRange 13 = .ok (.if_icmp .ge 7, 3) := by decide +kernel
theorem d_T_isInRange_16 : decode b_T_isInRange 16 = .ok (.iconst 1, 1) := by decide +kernel
theorem d_T_isInRange_17 : decode b_T_isInRange 17 = .ok (.goto 4, 3) := by decide +kernel
theorem d_T_isInRange_20 : decode b_T_isInRange 20 = .ok (.iconst 0, 1) := by decide +kernel
theorem d_T_isInRange_21 : decode b_T_isInRange 21 = .ok (.ireturn, 1) := by decide +kernel
theorem d_T_begin_0 : decode b_T_begin 0 = .ok (.aload_n 0, 1) := by decide +kernel
theorem d_T_begin_1 : decode b_T_begin 1 = .ok (.iload_n 1, 1) := by decide +kernel
theorem d_T_begin_2 : decode b_T_begin 2 = .ok (.putfield 22, 3) := by decide +kernel
theorem d_T_begin_5 : decode b_T_begin 5 = .ok (.aload_n 0, 1) := by decide +kernel
theorem d_T_begin_6 : decode b_T_begin 6 = .ok (.iload_n 2, 1) := by decide +kernel
theorem d_T_begin_7 : decode b_T_begin 7 = .ok (.putfield 26, 3) := by decide +kernel
theorem d_T_begin_10 : decode b_T_begin 10 = .ok (.aload_n 0, 1) := by decide +kernel
theorem d_T_begin_11 : decode b_T_begin 11 = .ok (.iload_n 3, 1) := by decide +kernel
theorem d_T_begin_12 : decode b_T_begin 12 = .ok (.putfield 29, 3) := by decide +kernel
theorem d_T_begin_15 : decode b_T_begin 15 = .ok (.return_, 1) := by decide +kernel
theorem d_T_settle_0 : decode b_T_settle 0 = .ok (.iconst 0, 1) := by decide +kernel
theorem d_T_settle_1 : decode b_T_settle 1 = .ok (.istore_n 1, 1) := by decide +kernel
theorem d_T_settle_2 : decode b_T_settle 2 = .ok (.iload_n 1, 1) := by decide +kernel
theorem d_T_settle_3 : decode b_T_settle 3 = .ok (.iconst 2, 1) := by decide +kernel
theorem d_T_settle_4 : decode b_T_settle 4 = .ok (.if_icmp .ge 40, 3) := by decide +kernel
theorem d_T_settle_7 : decode b_T_settle 7 = .ok (.aload_n 0, 1) := by decide +kernel
theorem d_T_settle_8 : decode b_T_settle 8 = .ok (.getfield 9, 3) := by decide +kernel
theorem d_T_settle_11 : decode b_T_settle 11 = .ok (.iload_n 1, 1) := by decide +kernel
theorem d_T_settle_12 : decode b_T_settle 12 = .ok (.dup2, 1) := by decide +kernel
theorem d_T_settle_13 : decode b_T_settle 13 = .ok (.laload, 1) := by decide +kernel
theorem d_T_settle_14 : decode b_T_settle 14 = .ok (.aload_n 0, 1) := by decide +kernel
theorem d_T_settle_15 : decode b_T_settle 15 = .ok (.getfield 15, 3) := by decide +kernel
theorem d_T_settle_18 : decode b_T_settle 18 = .ok (.iload_n 1, 1) := by decide +kernel
theorem d_T_settle_19 : decode b_T_settle 19 = .ok (.laload, 1) := by decide +kernel
theorem d_T_settle_20 : decode b_T_settle 20 = .ok (.aload_n 0, 1) := by decide +kernel
theorem d_T_settle_21 : decode b_T_settle 21 = .ok (.getfield 18, 3) := by decide +kernel
theorem d_T_settle_24 : decode b_T_settle 24 = .ok (.lmul, 1) := by decide +kernel
theorem d_T_settle_25 : decode b_T_settle 25 = .ok (.ldc2_w 32, 3) := by decide +kernel
theorem d_T_settle_28 : decode b_T_settle 28 = .ok (.ldiv, 1) := by decide +kernel
theorem d_T_settle_29 : decode b_T_settle 29 = .ok (.ladd, 1) := by decide +kernel
theorem d_T_settle_30 : decode b_T_settle 30 = .ok (.lastore, 1) := by decide +kernel
theorem d_T_settle_31 : decode b_T_settle 31 = .ok (.aload_n 0, 1) := by decide +kernel
theorem d_T_settle_32 : decode b_T_settle 32 = .ok (.getfield 15, 3) := by decide +kernel
theorem d_T_settle_35 : decode b_T_settle 35 = .ok (.iload_n 1, 1) := by decide +kernel
theorem d_T_settle_36 : decode b_T_settle 36 = .ok (.lconst 0, 1) := by decide +kernel
theorem d_T_settle_37 : decode b_T_settle 37 = .ok (.lastore, 1) := by decide +kernel
theorem d_T_settle_38 : decode b_T_settle 38 = .ok (.iinc 1 1, 3) := by decide +kernel
theorem d_T_settle_41 : decode b_T_settle 41 = .ok (.goto (-39), 3) := by decide +kernel
theorem d_T_settle_44 : decode b_T_settle 44 = .ok (.return_, 1) := by decide +kernel
end
section
def f_P_isSpacing_26_2 (n : Int32) : Int32 := (0 : Int32)
def f_P_isSpacing_26_5 (n : Int32) : Int32 := (0 : Int32)
def f_P_isSpacing_26_8 (n : Int32) : Int32 := (0 : Int32)
def f_P_isSpacing_26_11 (n : Int32) : Int32 := (0 : Int32)
def f_P_isSpacing_22_12 (n : Int32) : Int32 := (1 : Int32)
def f_P_isSpacing_16_9 (n : Int32) : Int32 := (if n = (7 : Int32) then f_P_isSpacing_26_11 n else f_P_isSpacing_22_12 n)
def f_P_isSpacing_11_6 (n : Int32) : Int32 := (if n = (5 : Int32) then f_P_isSpacing_26_8 n else f_P_isSpacing_16_9 n)
def f_P_isSpacing_5_3 (n : Int32) : Int32 := (if (8 : Int32) < n then f_P_isSpacing_26_5 n else f_P_isSpacing_11_6 n)
def f_P_isSpacing (n : Int32) : Int32 := (if n < (1 : Int32) then f_P_isSpacing_26_2 n else f_P_isSpacing_5_3 n)
set_option maxHeartbeats 4000000 in
set_option maxRecDepth 100000 in
theorem c_P_isSpacing (l : Launch) (n : Int32) : Met l y_P_isSpacing w_P_isSpacing ({ frames := 0, cells := 0, slots := 0, locals := 0 }) (va_Pc [.int n] (fun _ => True)) (vp_Si (fun r => r = f_P_isSpacing n)) 0 0 (fun _ => False) := by
  refine Met.ofW (cc := b_P_isSpacing) (maxL := 1) (ret := (some .boolean)) (by decide) rfl ?_
  intro p e s m args below meth c s₁ B hml hv
  obtain ⟨rfl, -⟩ := hv
  have hx := B.exec
  have hb := B.bytes
  have hr := B.returns
  have hts := atoms_spec (ws := w_P_isSpacing) B.pre
  have ht := fun (w : Cond) (h : w ∈ gA) => hts w (List.mem_cons_of_mem _ h)
  have hown : s.vm.findClass "RangedPool" = some m.cls := findClass_of_methodNamed B.named
  have hlocks := B.notSynchronized
  have hl := lv_entry ([.int n]) (n := 1) (Nat.le_of_ble_eq_true rfl)
  rw [lg_entry_eq]
  generalize (lg_sl ([.int n]) ++ List.replicate (1 - (lg_sl ([.int n])).length) Slot.unset).toArray = ls at hl ⊢
  have hl : lv_has ls 1 [(0, .int n)] := hl
  have hF : f_P_isSpacing n = f_P_isSpacing n := rfl
  refine lv_iload_n hx hb d_P_isSpacing_0 rfl (lv_at hl 0 rfl) ?_
  refine lv_iconst (v := (1 : Int32)) hx hb d_P_isSpacing_1 (by decide) ?_
  refine lv_icmp_lt (tgt := 26) hx hb d_P_isSpacing_2 (by decide) (fun c1 => ?_) (fun c1 => ?_)
  ·
    have c1 : n < (1 : Int32) := c1
    have hF : f_P_isSpacing n = f_P_isSpacing_26_2 n := hF.trans (if_pos c1)
    refine lv_iconst (v := (0 : Int32)) hx hb d_P_isSpacing_26 (by decide) ?_
    exact W.zret (ty := .boolean) (v := (0 : Int32)) hx hb hr (g_zr (by decide)) (fun t hh hW => ⟨_, rfl, hF.symm, hh⟩) (fun _ h => by cases h) d_P_isSpacing_27
  ·
    have c1 : ¬ (n < (1 : Int32)) := c1
    have hF : f_P_isSpacing n = f_P_isSpacing_5_3 n := hF.trans (if_neg c1)
    refine lv_iload_n hx hb d_P_isSpacing_5 rfl (lv_at hl 0 rfl) ?_
    refine lv_bipush (v := (8 : Int32)) hx hb d_P_isSpacing_6 (by decide) ?_
    refine lv_icmp_gt (tgt := 26) hx hb d_P_isSpacing_8 (by decide) (fun c4 => ?_) (fun c4 => ?_)
    ·
      have c4 : (8 : Int32) < n := c4
      have hF : f_P_isSpacing n = f_P_isSpacing_26_5 n := hF.trans (if_pos c4)
      refine lv_iconst (v := (0 : Int32)) hx hb d_P_isSpacing_26 (by decide) ?_
      exact W.zret (ty := .boolean) (v := (0 : Int32)) hx hb hr (g_zr (by decide)) (fun t hh hW => ⟨_, rfl, hF.symm, hh⟩) (fun _ h => by cases h) d_P_isSpacing_27
    ·
      have c4 : ¬ ((8 : Int32) < n) := c4
      have hF : f_P_isSpacing n = f_P_isSpacing_11_6 n := hF.trans (if_neg c4)
      refine lv_iload_n hx hb d_P_isSpacing_11 rfl (lv_at hl 0 rfl) ?_
      refine lv_iconst (v := (5 : Int32)) hx hb d_P_isSpacing_12 (by decide) ?_
      refine lv_icmp_eq (tgt := 26) hx hb d_P_isSpacing_13 (by decide) (fun c7 => ?_) (fun c7 => ?_)
      ·
        have c7 : n = (5 : Int32) := c7
        have hF : f_P_isSpacing n = f_P_isSpacing_26_8 n := hF.trans (if_pos c7)
        refine lv_iconst (v := (0 : Int32)) hx hb d_P_isSpacing_26 (by decide) ?_
        exact W.zret (ty := .boolean) (v := (0 : Int32)) hx hb hr (g_zr (by decide)) (fun t hh hW => ⟨_, rfl, hF.symm, hh⟩) (fun _ h => by cases h) d_P_isSpacing_27
      ·
        have c7 : ¬ (n = (5 : Int32)) := c7
        have hF : f_P_isSpacing n = f_P_isSpacing_16_9 n := hF.trans (if_neg c7)
        refine lv_iload_n hx hb d_P_isSpacing_16 rfl (lv_at hl 0 rfl) ?_
        refine lv_bipush (v := (7 : Int32)) hx hb d_P_isSpacing_17 (by decide) ?_
        refine lv_icmp_eq (tgt := 26) hx hb d_P_isSpacing_19 (by decide) (fun c10 => ?_) (fun c10 => ?_)
        ·
          have c10 : n = (7 : Int32) := c10
          have hF : f_P_isSpacing n = f_P_isSpacing_26_11 n := hF.trans (if_pos c10)
          refine lv_iconst (v := (0 : Int32)) hx hb d_P_isSpacing_26 (by decide) ?_
          exact W.zret (ty := .boolean) (v := (0 : Int32)) hx hb hr (g_zr (by decide)) (fun t hh hW => ⟨_, rfl, hF.symm, hh⟩) (fun _ h => by cases h) d_P_isSpacing_27
        ·
          have c10 : ¬ (n = (7 : Int32)) := c10
          have hF : f_P_isSpacing n = f_P_isSpacing_22_12 n := hF.trans (if_neg c10)
          refine lv_iconst (v := (1 : Int32)) hx hb d_P_isSpacing_22 (by decide) ?_
          refine lv_goto (tgt := 27) hx hb d_P_isSpacing_23 (by decide) ?_
          exact W.zret (ty := .boolean) (v := (1 : Int32)) hx hb hr (g_zr (by decide)) (fun t hh hW => ⟨_, rfl, hF.symm, hh⟩) (fun _ h => by cases h) d_P_isSpacing_27
def f_P_isStep_16_2 (n : Int32) : Int32 := (0 : Int32)
def f_P_isStep_16_5 (n : Int32) : Int32 := (0 : Int32)
def f_P_isStep_12_6 (n : Int32) : Int32 := (1 : Int32)
def f_P_isStep_6_3 (n : Int32) : Int32 := (if (24 : Int32) < n then f_P_isStep_16_5 n else f_P_isStep_12_6 n)
def f_P_isStep (n : Int32) : Int32 := (if n < (-24 : Int32) then f_P_isStep_16_2 n else f_P_isStep_6_3 n)
set_option maxHeartbeats 4000000 in
set_option maxRecDepth 100000 in
theorem c_P_isStep (l : Launch) (n : Int32) : Met l y_P_isStep w_P_isStep ({ frames := 0, cells := 0, slots := 0, locals := 0 }) (va_Pc [.int n] (fun _ => True)) (vp_Si (fun r => r = f_P_isStep n)) 0 0 (fun _ => False) := by
  refine Met.ofW (cc := b_P_isStep) (maxL := 1) (ret := (some .boolean)) (by decide) rfl ?_
  intro p e s m args below meth c s₁ B hml hv
  obtain ⟨rfl, -⟩ := hv
  have hx := B.exec
  have hb := B.bytes
  have hr := B.returns
  have hts := atoms_spec (ws := w_P_isStep) B.pre
  have ht := fun (w : Cond) (h : w ∈ gA) => hts w (List.mem_cons_of_mem _ h)
  have hown : s.vm.findClass "RangedPool" = some m.cls := findClass_of_methodNamed B.named
  have hlocks := B.notSynchronized
  have hl := lv_entry ([.int n]) (n := 1) (Nat.le_of_ble_eq_true rfl)
  rw [lg_entry_eq]
  generalize (lg_sl ([.int n]) ++ List.replicate (1 - (lg_sl ([.int n])).length) Slot.unset).toArray = ls at hl ⊢
  have hl : lv_has ls 1 [(0, .int n)] := hl
  have hF : f_P_isStep n = f_P_isStep n := rfl
  refine lv_iload_n hx hb d_P_isStep_0 rfl (lv_at hl 0 rfl) ?_
  refine lv_bipush (v := (-24 : Int32)) hx hb d_P_isStep_1 (by decide) ?_
  refine lv_icmp_lt (tgt := 16) hx hb d_P_isStep_3 (by decide) (fun c1 => ?_) (fun c1 => ?_)
  ·
    have c1 : n < (-24 : Int32) := c1
    have hF : f_P_isStep n = f_P_isStep_16_2 n := hF.trans (if_pos c1)
    refine lv_iconst (v := (0 : Int32)) hx hb d_P_isStep_16 (by decide) ?_
    exact W.zret (ty := .boolean) (v := (0 : Int32)) hx hb hr (g_zr (by decide)) (fun t hh hW => ⟨_, rfl, hF.symm, hh⟩) (fun _ h => by cases h) d_P_isStep_17
  ·
    have c1 : ¬ (n < (-24 : Int32)) := c1
    have hF : f_P_isStep n = f_P_isStep_6_3 n := hF.trans (if_neg c1)
    refine lv_iload_n hx hb d_P_isStep_6 rfl (lv_at hl 0 rfl) ?_
    refine lv_bipush (v := (24 : Int32)) hx hb d_P_isStep_7 (by decide) ?_
    refine lv_icmp_gt (tgt := 16) hx hb d_P_isStep_9 (by decide) (fun c4 => ?_) (fun c4 => ?_)
    ·
      have c4 : (24 : Int32) < n := c4
      have hF : f_P_isStep n = f_P_isStep_16_5 n := hF.trans (if_pos c4)
      refine lv_iconst (v := (0 : Int32)) hx hb d_P_isStep_16 (by decide) ?_
      exact W.zret (ty := .boolean) (v := (0 : Int32)) hx hb hr (g_zr (by decide)) (fun t hh hW => ⟨_, rfl, hF.symm, hh⟩) (fun _ h => by cases h) d_P_isStep_17
    ·
      have c4 : ¬ ((24 : Int32) < n) := c4
      have hF : f_P_isStep n = f_P_isStep_12_6 n := hF.trans (if_neg c4)
      refine lv_iconst (v := (1 : Int32)) hx hb d_P_isStep_12 (by decide) ?_
      refine lv_goto (tgt := 17) hx hb d_P_isStep_13 (by decide) ?_
      exact W.zret (ty := .boolean) (v := (1 : Int32)) hx hb hr (g_zr (by decide)) (fun t hh hW => ⟨_, rfl, hF.symm, hh⟩) (fun _ h => by cases h) d_P_isStep_17
def f_P_isOwner_13_2 (o : Int32) : Int32 := (0 : Int32)
def f_P_isOwner_13_5 (o : Int32) : Int32 := (0 : Int32)
def f_P_isOwner_9_6 (o : Int32) : Int32 := (1 : Int32)
def f_P_isOwner_4_3 (o : Int32) : Int32 := (if (4 : Int32) ≤ o then f_P_isOwner_13_5 o else f_P_isOwner_9_6 o)
def f_P_isOwner (o : Int32) : Int32 := (if o < 0 then f_P_isOwner_13_2 o else f_P_isOwner_4_3 o)
set_option maxHeartbeats 4000000 in
set_option maxRecDepth 100000 in
theorem c_P_isOwner (l : Launch) (o : Int32) : Met l y_P_isOwner w_P_isOwner ({ frames := 0, cells := 0, slots := 0, locals := 0 }) (va_Pc [.int o] (fun _ => True)) (vp_Si (fun r => r = f_P_isOwner o)) 0 0 (fun _ => False) := by
  refine Met.ofW (cc := b_P_isOwner) (maxL := 1) (ret := (some .boolean)) (by decide) rfl ?_
  intro p e s m args below meth c s₁ B hml hv
  obtain ⟨rfl, -⟩ := hv
  have hx := B.exec
  have hb := B.bytes
  have hr := B.returns
  have hts := atoms_spec (ws := w_P_isOwner) B.pre
  have ht := fun (w : Cond) (h : w ∈ gA) => hts w (List.mem_cons_of_mem _ h)
  have hown : s.vm.findClass "RangedPool" = some m.cls := findClass_of_methodNamed B.named
  have hlocks := B.notSynchronized
  have hl := lv_entry ([.int o]) (n := 1) (Nat.le_of_ble_eq_true rfl)
  rw [lg_entry_eq]
  generalize (lg_sl ([.int o]) ++ List.replicate (1 - (lg_sl ([.int o])).length) Slot.unset).toArray = ls at hl ⊢
  have hl : lv_has ls 1 [(0, .int o)] := hl
  have hF : f_P_isOwner o = f_P_isOwner o := rfl
  refine lv_iload_n hx hb d_P_isOwner_0 rfl (lv_at hl 0 rfl) ?_
  refine lv_if_lt (tgt := 13) hx hb d_P_isOwner_1 (by decide) (fun c1 => ?_) (fun c1 => ?_)
  ·
    have c1 : o < 0 := c1
    have hF : f_P_isOwner o = f_P_isOwner_13_2 o := hF.trans (if_pos c1)
    refine lv_iconst (v := (0 : Int32)) hx hb d_P_isOwner_13 (by decide) ?_
    exact W.zret (ty := .boolean) (v := (0 : Int32)) hx hb hr (g_zr (by decide)) (fun t hh hW => ⟨_, rfl, hF.symm, hh⟩) (fun _ h => by cases h) d_P_isOwner_14
  ·
    have c1 : ¬ (o < 0) := c1
    have hF : f_P_isOwner o = f_P_isOwner_4_3 o := hF.trans (if_neg c1)
    refine lv_iload_n hx hb d_P_isOwner_4 rfl (lv_at hl 0 rfl) ?_
    refine lv_iconst (v := (4 : Int32)) hx hb d_P_isOwner_5 (by decide) ?_
    refine lv_icmp_ge (tgt := 13) hx hb d_P_isOwner_6 (by decide) (fun c4 => ?_) (fun c4 => ?_)
    ·
      have c4 : (4 : Int32) ≤ o := c4
      have hF : f_P_isOwner o = f_P_isOwner_13_5 o := hF.trans (if_pos c4)
      refine lv_iconst (v := (0 : Int32)) hx hb d_P_isOwner_13 (by decide) ?_
      exact W.zret (ty := .boolean) (v := (0 : Int32)) hx hb hr (g_zr (by decide)) (fun t hh hW => ⟨_, rfl, hF.symm, hh⟩) (fun _ h => by cases h) d_P_isOwner_14
    ·
      have c4 : ¬ ((4 : Int32) ≤ o) := c4
      have hF : f_P_isOwner o = f_P_isOwner_9_6 o := hF.trans (if_neg c4)
      refine lv_iconst (v := (1 : Int32)) hx hb d_P_isOwner_9 (by decide) ?_
      refine lv_goto (tgt := 14) hx hb d_P_isOwner_10 (by decide) ?_
      exact W.zret (ty := .boolean) (v := (1 : Int32)) hx hb hr (g_zr (by decide)) (fun t hh hW => ⟨_, rfl, hF.symm, hh⟩) (fun _ h => by cases h) d_P_isOwner_14
def f_P_isToken_13_2 (n : Int32) : Int32 := (0 : Int32)
def f_P_isToken_13_5 (n : Int32) : Int32 := (0 : Int32)
def f_P_isToken_9_6 (n : Int32) : Int32 := (1 : Int32)
def f_P_isToken_4_3 (n : Int32) : Int32 := (if (2 : Int32) ≤ n then f_P_isToken_13_5 n else f_P_isToken_9_6 n)
def f_P_isToken (n : Int32) : Int32 := (if n < 0 then f_P_isToken_13_2 n else f_P_isToken_4_3 n)
set_option maxHeartbeats 4000000 in
set_option maxRecDepth 100000 in
theorem c_P_isToken (l : Launch) (n : Int32) : Met l y_P_isToken w_P_isToken ({ frames := 0, cells := 0, slots := 0, locals := 0 }) (va_Pc [.int n] (fun _ => True)) (vp_Si (fun r => r = f_P_isToken n)) 0 0 (fun _ => False) := by
  refine Met.ofW (cc := b_P_isToken) (maxL := 1) (ret := (some .boolean)) (by decide) rfl ?_
  intro p e s m args below meth c s₁ B hml hv
  obtain ⟨rfl, -⟩ := hv
  have hx := B.exec
  have hb := B.bytes
  have hr := B.returns
  have hts := atoms_spec (ws := w_P_isToken) B.pre
  have ht := fun (w : Cond) (h : w ∈ gA) => hts w (List.mem_cons_of_mem _ h)
  have hown : s.vm.findClass "RangedPool" = some m.cls := findClass_of_methodNamed B.named
  have hlocks := B.notSynchronized
  have hl := lv_entry ([.int n]) (n := 1) (Nat.le_of_ble_eq_true rfl)
  rw [lg_entry_eq]
  generalize (lg_sl ([.int n]) ++ List.replicate (1 - (lg_sl ([.int n])).length) Slot.unset).toArray = ls at hl ⊢
  have hl : lv_has ls 1 [(0, .int n)] := hl
  have hF : f_P_isToken n = f_P_isToken n := rfl
  refine lv_iload_n hx hb d_P_isToken_0 rfl (lv_at hl 0 rfl) ?_
  refine lv_if_lt (tgt := 13) hx hb d_P_isToken_1 (by decide) (fun c1 => ?_) (fun c1 => ?_)
  ·
    have c1 : n < 0 := c1
    have hF : f_P_isToken n = f_P_isToken_13_2 n := hF.trans (if_pos c1)
    refine lv_iconst (v := (0 : Int32)) hx hb d_P_isToken_13 (by decide) ?_
    exact W.zret (ty := .boolean) (v := (0 : Int32)) hx hb hr (g_zr (by decide)) (fun t hh hW => ⟨_, rfl, hF.symm, hh⟩) (fun _ h => by cases h) d_P_isToken_14
  ·
    have c1 : ¬ (n < 0) := c1
    have hF : f_P_isToken n = f_P_isToken_4_3 n := hF.trans (if_neg c1)
    refine lv_iload_n hx hb d_P_isToken_4 rfl (lv_at hl 0 rfl) ?_
    refine lv_iconst (v := (2 : Int32)) hx hb d_P_isToken_5 (by decide) ?_
    refine lv_icmp_ge (tgt := 13) hx hb d_P_isToken_6 (by decide) (fun c4 => ?_) (fun c4 => ?_)
    ·
      have c4 : (2 : Int32) ≤ n := c4
      have hF : f_P_isToken n = f_P_isToken_13_5 n := hF.trans (if_pos c4)
      refine lv_iconst (v := (0 : Int32)) hx hb d_P_isToken_13 (by decide) ?_
      exact W.zret (ty := .boolean) (v := (0 : Int32)) hx hb hr (g_zr (by decide)) (fun t hh hW => ⟨_, rfl, hF.symm, hh⟩) (fun _ h => by cases h) d_P_isToken_14
    ·
      have c4 : ¬ ((2 : Int32) ≤ n) := c4
      have hF : f_P_isToken n = f_P_isToken_9_6 n := hF.trans (if_neg c4)
      refine lv_iconst (v := (1 : Int32)) hx hb d_P_isToken_9 (by decide) ?_
      refine lv_goto (tgt := 14) hx hb d_P_isToken_10 (by decide) ?_
      exact W.zret (ty := .boolean) (v := (1 : Int32)) hx hb hr (g_zr (by decide)) (fun t hh hW => ⟨_, rfl, hF.symm, hh⟩) (fun _ h => by cases h) d_P_isToken_14
def f_P_quotient_33_5 (a : Int64) (b : Int64) (up : Int32) : Int64 := a / b
def k_P_quotient_33_5 (a : Int64) (b : Int64) (up : Int32) : Prop := True
def f_P_quotient_33_9 (a : Int64) (b : Int64) (up : Int32) : Int64 := a / b
def k_P_quotient_33_9 (a : Int64) (b : Int64) (up : Int32) : Prop := True
def f_P_quotient_26_10 (a : Int64) (b : Int64) (up : Int32) : Int64 := (a / b) + (1 : Int64)
def k_P_quotient_26_10 (a : Int64) (b : Int64) (up : Int32) : Prop := True
def f_P_quotient_18_6 (a : Int64) (b : Int64) (up : Int32) : Int64 := (if (a - a / b * b) = (0 : Int64) then f_P_quotient_33_9 a b up else f_P_quotient_26_10 a b up)
def k_P_quotient_18_6 (a : Int64) (b : Int64) (up : Int32) : Prop := (¬ b = 0) ∧ (if (a - a / b * b) = (0 : Int64) then k_P_quotient_33_9 a b up else k_P_quotient_26_10 a b up)
def f_P_quotient_8_2 (a : Int64) (b : Int64) (up : Int32) : Int64 := (if up = 0 then f_P_quotient_33_5 a b up else f_P_quotient_18_6 a b up)
def k_P_quotient_8_2 (a : Int64) (b : Int64) (up : Int32) : Prop := (¬ b = 0) ∧ (if up = 0 then k_P_quotient_33_5 a b up else k_P_quotient_18_6 a b up)
def f_P_quotient_6_11 (a : Int64) (b : Int64) (up : Int32) : Int64 := (0 : Int64)
def k_P_quotient_6_11 (a : Int64) (b : Int64) (up : Int32) : Prop := True
def f_P_quotient (a : Int64) (b : Int64) (up : Int32) : Int64 := (if (1 : Int64) ≤ b then f_P_quotient_8_2 a b up else f_P_quotient_6_11 a b up)
def k_P_quotient (a : Int64) (b : Int64) (up : Int32) : Prop := (if (1 : Int64) ≤ b then k_P_quotient_8_2 a b up else k_P_quotient_6_11 a b up)
set_option maxHeartbeats 4000000 in
set_option maxRecDepth 100000 in
theorem c_P_quotient (l : Launch) (a : Int64) (b : Int64) (up : Int32) (hQ : k_P_quotient a b up) : Met l y_P_quotient w_P_quotient ({ frames := 0, cells := 0, slots := 0, locals := 0 }) (va_Pc [.long a, .long b, .int up] (fun _ => True)) (vp_Sl (fun r => r = f_P_quotient a b up)) 0 0 (fun _ => False) := by
  refine Met.ofW (cc := b_P_quotient) (maxL := 7) (ret := (some .long)) (by decide) rfl ?_
  intro p e s m args below meth c s₁ B hml hv
  obtain ⟨rfl, -⟩ := hv
  have hx := B.exec
  have hb := B.bytes
  have hr := B.returns
  have hts := atoms_spec (ws := w_P_quotient) B.pre
  have ht := fun (w : Cond) (h : w ∈ gA) => hts w (List.mem_cons_of_mem _ h)
  have hown : s.vm.findClass "RangedPool" = some m.cls := findClass_of_methodNamed B.named
  have hlocks := B.notSynchronized
  have hl := lv_entry ([.long a, .long b, .int up]) (n := 7) (Nat.le_of_ble_eq_true rfl)
  rw [lg_entry_eq]
  generalize (lg_sl ([.long a, .long b, .int up]) ++ List.replicate (7 - (lg_sl ([.long a, .long b, .int up])).length) Slot.unset).toArray = ls at hl ⊢
  have hl : lv_has ls 7 [(0, .long a), (2, .long b), (4, .int up)] := hl
  have hF : f_P_quotient a b up = f_P_quotient a b up := rfl
  refine lv_lload_n hx hb d_P_quotient_0 rfl (lv_at hl 1 rfl) ?_
  refine lv_lconst (v := (1 : Int64)) hx hb d_P_quotient_1 (by decide) ?_
  refine W.lcmp hx hb d_P_quotient_2 ?_
  refine lv_if_ge (tgt := 8) hx hb d_P_quotient_3 (by decide) (fun c1 => ?_) (fun c1 => ?_)
  ·
    have c1 : (1 : Int64) ≤ b := (lg_cmp_ge _ _).mp c1
    have hF : f_P_quotient a b up = f_P_quotient_8_2 a b up := hF.trans (if_pos c1)
    have hQ : k_P_quotient_8_2 a b up := Eq.mp (if_pos c1) hQ
    refine lv_lload_n hx hb d_P_quotient_8 rfl (lv_at hl 0 rfl) ?_
    refine lv_lload_n hx hb d_P_quotient_9 rfl (lv_at hl 1 rfl) ?_
    obtain ⟨hs3, hQ⟩ := hQ
    refine lv_ldiv hx hb d_P_quotient_10 (hs3) ?_
    refine lv_lstore (lv' := [(5, .long (a / b)), (0, .long a), (2, .long b), (4, .int up)]) hx hb d_P_quotient_11 hl (by decide) rfl (fun ls hl => ?_)
    refine lv_iload hx hb d_P_quotient_13 (lv_at hl 3 rfl) ?_
    refine lv_if_eq (tgt := 33) hx hb d_P_quotient_15 (by decide) (fun c4 => ?_) (fun c4 => ?_)
    ·
      have c4 : up = 0 := c4
      have hF : f_P_quotient a b up = f_P_quotient_33_5 a b up := hF.trans (if_pos c4)
      have hQ : k_P_quotient_33_5 a b up := Eq.mp (if_pos c4) hQ
      refine lv_lload hx hb d_P_quotient_33 (lv_at hl 0 rfl) ?_
      exact W.lret (v := a / b) hx hb hr (fun t hh hW => ⟨_, rfl, hF.symm, hh⟩) (fun _ h => by cases h) d_P_quotient_35
    ·
      have c4 : ¬ (up = 0) := c4
      have hF : f_P_quotient a b up = f_P_quotient_18_6 a b up := hF.trans (if_neg c4)
      have hQ : k_P_quotient_18_6 a b up := Eq.mp (if_neg c4) hQ
      refine lv_lload_n hx hb d_P_quotient_18 rfl (lv_at hl 1 rfl) ?_
      refine lv_lload_n hx hb d_P_quotient_19 rfl (lv_at hl 2 rfl) ?_
      obtain ⟨hs7, hQ⟩ := hQ
      refine lv_lrem hx hb d_P_quotient_20 (hs7) ?_
      refine lv_lconst (v := (0 : Int64)) hx hb d_P_quotient_21 (by decide) ?_
      refine W.lcmp hx hb d_P_quotient_22 ?_
      refine lv_if_eq (tgt := 33) hx hb d_P_quotient_23 (by decide) (fun c8 => ?_) (fun c8 => ?_)
      ·
        have c8 : (a - a / b * b) = (0 : Int64) := (lg_cmp_eq _ _).mp c8
        have hF : f_P_quotient a b up = f_P_quotient_33_9 a b up := hF.trans (if_pos c8)
        have hQ : k_P_quotient_33_9 a b up := Eq.mp (if_pos c8) hQ
        refine lv_lload hx hb d_P_quotient_33 (lv_at hl 0 rfl) ?_
        exact W.lret (v := a / b) hx hb hr (fun t hh hW => ⟨_, rfl, hF.symm, hh⟩) (fun _ h => by cases h) d_P_quotient_35
      ·
        have c8 : ¬ ((a - a / b * b) = (0 : Int64)) := mt (lg_cmp_eq _ _).mpr c8
        have hF : f_P_quotient a b up = f_P_quotient_26_10 a b up := hF.trans (if_neg c8)
        have hQ : k_P_quotient_26_10 a b up := Eq.mp (if_neg c8) hQ
        refine lv_lload hx hb d_P_quotient_26 (lv_at hl 0 rfl) ?_
        refine lv_lconst (v := (1 : Int64)) hx hb d_P_quotient_28 (by decide) ?_
        refine lv_ladd hx hb d_P_quotient_29 ?_
        refine lv_goto (tgt := 35) hx hb d_P_quotient_30 (by decide) ?_
        exact W.lret (v := (a / b) + (1 : Int64)) hx hb hr (fun t hh hW => ⟨_, rfl, hF.symm, hh⟩) (fun _ h => by cases h) d_P_quotient_35
  ·
    have c1 : ¬ ((1 : Int64) ≤ b) := mt (lg_cmp_ge _ _).mpr c1
    have hF : f_P_quotient a b up = f_P_quotient_6_11 a b up := hF.trans (if_neg c1)
    have hQ : k_P_quotient_6_11 a b up := Eq.mp (if_neg c1) hQ
    refine lv_lconst (v := (0 : Int64)) hx hb d_P_quotient_6 (by decide) ?_
    exact W.lret (v := (0 : Int64)) hx hb hr (fun t hh hW => ⟨_, rfl, hF.symm, hh⟩) (fun _ h => by cases h) d_P_quotient_7
def f_P_zeroBetween (a : Int64) (b : Int64) (w : Int64) (up : Int32) : Int64 := f_P_quotient ((w * (65536 : Int64)) * (b - a)) (a * b) up
def k_P_zeroBetween (a : Int64) (b : Int64) (w : Int64) (up : Int32) : Prop := (k_P_quotient ((w * (65536 : Int64)) * (b - a)) (a * b) up) ∧ True
set_option maxHeartbeats 4000000 in
set_option maxRecDepth 100000 in
theorem c_P_zeroBetween (l : Launch) (a : Int64) (b : Int64) (w : Int64) (up : Int32) (hQ : k_P_zeroBetween a b w up) : Met l y_P_zeroBetween w_P_zeroBetween ({ frames := 1, cells := 0, slots := 0, locals := 26 }) (va_Pc [.long a, .long b, .long w, .int up] (fun _ => True)) (vp_Sl (fun r => r = f_P_zeroBetween a b w up)) 0 0 (fun _ => False) := by
  refine Met.ofW (cc := b_P_zeroBetween) (maxL := 7) (ret := (some .long)) (by decide) rfl ?_
  intro p e s m args below meth c s₁ B hml hv
  obtain ⟨rfl, -⟩ := hv
  have hx := B.exec
  have hb := B.bytes
  have hr := B.returns
  have hts := atoms_spec (ws := w_P_zeroBetween) B.pre
  have ht := fun (w : Cond) (h : w ∈ gA) => hts w (List.mem_cons_of_mem _ h)
  have hown : s.vm.findClass "RangedPool" = some m.cls := findClass_of_methodNamed B.named
  have hlocks := B.notSynchronized
  have hl := lv_entry ([.long a, .long b, .long w, .int up]) (n := 7) (Nat.le_of_ble_eq_true rfl)
  rw [lg_entry_eq]
  generalize (lg_sl ([.long a, .long b, .long w, .int up]) ++ List.replicate (7 - (lg_sl ([.long a, .long b, .long w, .int up])).length) Slot.unset).toArray = ls at hl ⊢
  have hl : lv_has ls 7 [(0, .long a), (2, .long b), (4, .long w), (6, .int up)] := hl
  have hF : f_P_zeroBetween a b w up = f_P_zeroBetween a b w up := rfl
  refine lv_lload hx hb d_P_zeroBetween_0 (lv_at hl 2 rfl) ?_
  refine lv_ldc2 (v := (65536 : Int64)) hx hb hown (ht _ kw231) d_P_zeroBetween_2 ?_
  refine lv_lmul hx hb d_P_zeroBetween_5 ?_
  refine lv_lload_n hx hb d_P_zeroBetween_6 rfl (lv_at hl 1 rfl) ?_
  refine lv_lload_n hx hb d_P_zeroBetween_7 rfl (lv_at hl 0 rfl) ?_
  refine lv_lsub hx hb d_P_zeroBetween_8 ?_
  refine lv_lmul hx hb d_P_zeroBetween_9 ?_
  refine lv_lload_n hx hb d_P_zeroBetween_10 rfl (lv_at hl 0 rfl) ?_
  refine lv_lload_n hx hb d_P_zeroBetween_11 rfl (lv_at hl 1 rfl) ?_
  refine lv_lmul hx hb d_P_zeroBetween_12 ?_
  refine lv_iload hx hb d_P_zeroBetween_13 (lv_at hl 3 rfl) ?_
  obtain ⟨hs1, hQ⟩ := hQ
  refine g_cSlE (va_runS (As := [.long ((w * (65536 : Int64)) * (b - a)), .long (a * b), .int up]) (rest := []) ⟨hx, hb, hml, hown, ht⟩ (c_P_quotient l ((w * (65536 : Int64)) * (b - a)) (a * b) up hs1) (va_cwS 3 ht gc_P_190 rfl rfl rfl (by decide +kernel) ⟨Nat.le_of_ble_eq_true rfl, Nat.le_of_ble_eq_true rfl⟩) (g_pr0 _) rfl rfl hl.1 rfl (lv_room (Nat.le_of_ble_eq_true rfl)) d_P_zeroBetween_15 ⟨Nat.le_of_ble_eq_true rfl, Nat.le_of_ble_eq_true rfl⟩) ?_
  exact W.lret (v := f_P_quotient ((w * (65536 : Int64)) * (b - a)) (a * b) up) hx hb hr (fun t hh hW => ⟨_, rfl, hF.symm, hh⟩) (fun _ h => by cases h) d_P_zeroBetween_18
def f_P_oneBetween (a : Int64) (b : Int64) (w : Int64) (up : Int32) : Int64 := f_P_quotient (w * (b - a)) (65536 : Int64) up
def k_P_oneBetween (a : Int64) (b : Int64) (w : Int64) (up : Int32) : Prop := (k_P_quotient (w * (b - a)) (65536 : Int64) up) ∧ True
set_option maxHeartbeats 4000000 in
set_option maxRecDepth 100000 in
theorem c_P_oneBetween (l : Launch) (a : Int64) (b : Int64) (w : Int64) (up : Int32) (hQ : k_P_oneBetween a b w up) : Met l y_P_oneBetween w_P_oneBetween ({ frames := 1, cells := 0, slots := 0, locals := 26 }) (va_Pc [.long a, .long b, .long w, .int up] (fun _ => True)) (vp_Sl (fun r => r = f_P_oneBetween a b w up)) 0 0 (fun _ => False) := by
  refine Met.ofW (cc := b_P_oneBetween) (maxL := 7) (ret := (some .long)) (by decide) rfl ?_
  intro p e s m args below meth c s₁ B hml hv
  obtain ⟨rfl, -⟩ := hv
  have hx := B.exec
  have hb := B.bytes
  have hr := B.returns
  have hts := atoms_spec (ws := w_P_oneBetween) B.pre
  have ht := fun (w : Cond) (h : w ∈ gA) => hts w (List.mem_cons_of_mem _ h)
  have hown : s.vm.findClass "RangedPool" = some m.cls := findClass_of_methodNamed B.named
  have hlocks := B.notSynchronized
  have hl := lv_entry ([.long a, .long b, .long w, .int up]) (n := 7) (Nat.le_of_ble_eq_true rfl)
  rw [lg_entry_eq]
  generalize (lg_sl ([.long a, .long b, .long w, .int up]) ++ List.replicate (7 - (lg_sl ([.long a, .long b, .long w, .int up])).length) Slot.unset).toArray = ls at hl ⊢
  have hl : lv_has ls 7 [(0, .long a), (2, .long b), (4, .long w), (6, .int up)] := hl
  have hF : f_P_oneBetween a b w up = f_P_oneBetween a b w up := rfl
  refine lv_lload hx hb d_P_oneBetween_0 (lv_at hl 2 rfl) ?_
  refine lv_lload_n hx hb d_P_oneBetween_2 rfl (lv_at hl 1 rfl) ?_
  refine lv_lload_n hx hb d_P_oneBetween_3 rfl (lv_at hl 0 rfl) ?_
  refine lv_lsub hx hb d_P_oneBetween_4 ?_
  refine lv_lmul hx hb d_P_oneBetween_5 ?_
  refine lv_ldc2 (v := (65536 : Int64)) hx hb hown (ht _ kw231) d_P_oneBetween_6 ?_
  refine lv_iload hx hb d_P_oneBetween_9 (lv_at hl 3 rfl) ?_
  obtain ⟨hs1, hQ⟩ := hQ
  refine g_cSlE (va_runS (As := [.long (w * (b - a)), .long (65536 : Int64), .int up]) (rest := []) ⟨hx, hb, hml, hown, ht⟩ (c_P_quotient l (w * (b - a)) (65536 : Int64) up hs1) (va_cwS 3 ht gc_P_190 rfl rfl rfl (by decide +kernel) ⟨Nat.le_of_ble_eq_true rfl, Nat.le_of_ble_eq_true rfl⟩) (g_pr0 _) rfl rfl hl.1 rfl (lv_room (Nat.le_of_ble_eq_true rfl)) d_P_oneBetween_11 ⟨Nat.le_of_ble_eq_true rfl, Nat.le_of_ble_eq_true rfl⟩) ?_
  exact W.lret (v := f_P_quotient (w * (b - a)) (65536 : Int64) up) hx hb hr (fun t hh hW => ⟨_, rfl, hF.symm, hh⟩) (fun _ h => by cases h) d_P_oneBetween_14
def f_P_pair (a : Int64) (b : Int64) : Int64 := (a * (4294967296 : Int64)) + b
set_option maxHeartbeats 4000000 in
set_option maxRecDepth 100000 in
theorem c_P_pair (l : Launch) (a : Int64) (b : Int64) : Met l y_P_pair w_P_pair ({ frames := 0, cells := 0, slots := 0, locals := 0 }) (va_Pc [.long a, .long b] (fun _ => True)) (vp_Sl (fun r => r = f_P_pair a b)) 0 0 (fun _ => False) := by
  refine Met.ofW (cc := b_P_pair) (maxL := 4) (ret := (some .long)) (by decide) rfl ?_
  intro p e s m args below meth c s₁ B hml hv
  obtain ⟨rfl, -⟩ := hv
  have hx := B.exec
  have hb := B.bytes
  have hr := B.returns
  have hts := atoms_spec (ws := w_P_pair) B.pre
  have ht := fun (w : Cond) (h : w ∈ gA) => hts w (List.mem_cons_of_mem _ h)
  have hown : s.vm.findClass "RangedPool" = some m.cls := findClass_of_methodNamed B.named
  have hlocks := B.notSynchronized
  have hl := lv_entry ([.long a, .long b]) (n := 4) (Nat.le_of_ble_eq_true rfl)
  rw [lg_entry_eq]
  generalize (lg_sl ([.long a, .long b]) ++ List.replicate (4 - (lg_sl ([.long a, .long b])).length) Slot.unset).toArray = ls at hl ⊢
  have hl : lv_has ls 4 [(0, .long a), (2, .long b)] := hl
  have hF : f_P_pair a b = f_P_pair a b := rfl
  refine lv_lload_n hx hb d_P_pair_0 rfl (lv_at hl 0 rfl) ?_
  refine lv_ldc2 (v := (4294967296 : Int64)) hx hb hown (ht _ kw268) d_P_pair_1 ?_
  refine lv_lmul hx hb d_P_pair_4 ?_
  refine lv_lload_n hx hb d_P_pair_5 rfl (lv_at hl 1 rfl) ?_
  refine lv_ladd hx hb d_P_pair_6 ?_
  exact W.lret (v := (a * (4294967296 : Int64)) + b) hx hb hr (fun t hh hW => ⟨_, rfl, hF.symm, hh⟩) (fun _ h => by cases h) d_P_pair_7
def f_P_priceOf (n : Int32) : Int32 := x_tab ((n - (-24 : Int32)).toNatClampNeg)
def k_P_priceOf (n : Int32) : Prop := (vp_in (n - (-24 : Int32)) 49) ∧ True
set_option maxHeartbeats 4000000 in
set_option maxRecDepth 100000 in
theorem c_P_priceOf (l : Launch) (tb : Nat) (n : Int32) (hQ : k_P_priceOf n) : Met l y_P_priceOf w_P_priceOf ({ frames := 0, cells := 0, slots := 0, locals := 0 }) (va_Pc [.int n] ((x_Z tb) (fun _ => False))) (vp_Si (fun r => r = f_P_priceOf n)) 0 0 (fun _ => False) := by
  refine Met.ofW (cc := b_P_priceOf) (maxL := 1) (ret := (some .int)) (by decide) rfl ?_
  intro p e s m args below meth c s₁ B hml hv
  obtain ⟨rfl, hz⟩ := hv
  have hx := B.exec
  have hb := B.bytes
  have hr := B.returns
  have hts := atoms_spec (ws := w_P_priceOf) B.pre
  have ht := fun (w : Cond) (h : w ∈ gA) => hts w (List.mem_cons_of_mem _ h)
  have hown : s.vm.findClass "RangedPool" = some m.cls := findClass_of_methodNamed B.named
  have hlocks := B.notSynchronized
  have hS : va_S (fun _ => False) s.heap s.heap [] := va_S.rf
  have hl := lv_entry ([.int n]) (n := 1) (Nat.le_of_ble_eq_true rfl)
  rw [lg_entry_eq]
  generalize (lg_sl ([.int n]) ++ List.replicate (1 - (lg_sl ([.int n])).length) Slot.unset).toArray = ls at hl ⊢
  have hl : lv_has ls 1 [(0, .int n)] := hl
  have hF : f_P_priceOf n = f_P_priceOf n := rfl
  refine va_gets (C := "RangedPool") hx hb hz.2.1 hS hown (ht _ kw170) (fun _ h9 => h9) d_P_priceOf_0 ?_
  refine lv_iload_n hx hb d_P_priceOf_3 rfl (lv_at hl 0 rfl) ?_
  refine lv_bipush (v := (-24 : Int32)) hx hb d_P_priceOf_4 (by decide) ?_
  refine lv_isub hx hb d_P_priceOf_6 ?_
  obtain ⟨hs1, hQ⟩ := hQ
  refine va_ti hx hb hz.2.2 hS (v := .int (x_tab ((n - (-24 : Int32)).toNatClampNeg))) (hs1) rfl d_P_priceOf_7 ?_
  exact W.iret (v := x_tab ((n - (-24 : Int32)).toNatClampNeg)) hx hb hr (fun t hh hW => ⟨_, rfl, hF.symm, hh⟩) (fun _ h => by cases h) d_P_priceOf_8
def f_P_greatestStepAt_23_5 (q : Int32) (b1 : Int32) : Int32 := b1
def k_P_greatestStepAt_23_5 (q : Int32) (b1 : Int32) : Prop := True
def f_P_greatestStepAt_L3 (q : Int32) : Nat → Int32
  | 0 => (Int32.ofNat 0 + (-1 : Int32) + (-24 : Int32))
  | jn + 1 => (if (f_P_priceOf (Int32.ofNat jn + (-24 : Int32))) ≤ q then (Int32.ofNat jn + (-24 : Int32)) else f_P_greatestStepAt_L3 q jn )
def k_P_greatestStepAt_L3 (q : Int32) : Nat → Prop
  | 0 => True
  | jn + 1 => (k_P_priceOf (Int32.ofNat jn + (-24 : Int32))) ∧ (if (f_P_priceOf (Int32.ofNat jn + (-24 : Int32))) ≤ q then True else k_P_greatestStepAt_L3 q jn )
def f_P_greatestStepAt (q : Int32) : Int32 := (f_P_greatestStepAt_23_5 q (f_P_greatestStepAt_L3 q 49))
def k_P_greatestStepAt (q : Int32) : Prop := (k_P_greatestStepAt_L3 q 49) ∧ (k_P_greatestStepAt_23_5 q (f_P_greatestStepAt_L3 q 49))
set_option maxHeartbeats 4000000 in
set_option maxRecDepth 100000 in
theorem c_P_greatestStepAt (l : Launch) (tb : Nat) (q : Int32) (hQ : k_P_greatestStepAt q) : Met l y_P_greatestStepAt w_P_greatestStepAt ({ frames := 1, cells := 0, slots := 0, locals := 20 }) (va_Pc [.int q] ((x_Z tb) (fun _ => False))) (vp_Si (fun r => r = f_P_greatestStepAt q)) 0 0 (fun _ => False) := by
  refine Met.ofW (cc := b_P_greatestStepAt) (maxL := 2) (ret := (some .int)) (by decide) rfl ?_
  intro p e s m args below meth c s₁ B hml hv
  obtain ⟨rfl, hz⟩ := hv
  have hx := B.exec
  have hb := B.bytes
  have hr := B.returns
  have hts := atoms_spec (ws := w_P_greatestStepAt) B.pre
  have ht := fun (w : Cond) (h : w ∈ gA) => hts w (List.mem_cons_of_mem _ h)
  have hown : s.vm.findClass "RangedPool" = some m.cls := findClass_of_methodNamed B.named
  have hlocks := B.notSynchronized
  have hS : va_S (fun _ => False) s.heap s.heap [] := va_S.rf
  have hl := lv_entry ([.int q]) (n := 2) (Nat.le_of_ble_eq_true rfl)
  rw [lg_entry_eq]
  generalize (lg_sl ([.int q]) ++ List.replicate (2 - (lg_sl ([.int q])).length) Slot.unset).toArray = ls at hl ⊢
  have hl : lv_has ls 2 [(0, .int q)] := hl
  have hF : f_P_greatestStepAt q = f_P_greatestStepAt q := rfl
  refine lv_bipush (v := (24 : Int32)) hx hb d_P_greatestStepAt_0 (by decide) ?_
  refine lv_istore_n (lv' := [(1, .int (24 : Int32)), (0, .int q)]) hx hb d_P_greatestStepAt_2 rfl hl (by decide) rfl (fun ls hl => ?_)
  obtain ⟨hT2, hQ⟩ := hQ
  have J23_3 : ∀ (b1 : Int32) (ls : Array Slot), b1 = (f_P_greatestStepAt_L3 q 49) → lv_has ls 2 [(1, .int b1)] → W p l e (headSpec w_P_greatestStepAt ({ frames := 1, cells := 0, slots := 0, locals := 20 })).room s m ([.int q] : List Value).toArray below meth c s.heap [] 0 0 (MQ below (vp_Si (fun r => r = f_P_greatestStepAt q)) ([.int q] : List Value).toArray s 0 0 (fun _ => False)) (F0 m 23 ls []) := by
    intro b1 ls e4 hl
    have hF : f_P_greatestStepAt q = f_P_greatestStepAt_23_5 q b1 := hF.trans (by rw [e4]; try rfl)
    have hQ : k_P_greatestStepAt_23_5 q b1 := by rw [e4]; exact hQ
    refine lv_iload_n hx hb d_P_greatestStepAt_23 rfl (lv_at hl 0 rfl) ?_
    exact W.iret (v := b1) hx hb hr (fun t hh hW => ⟨_, rfl, hF.symm, hh⟩) (fun _ h => by cases h) d_P_greatestStepAt_24
  have LL3_6 : ∀ (jn : Nat) (ls : Array Slot), jn ≤ 49 → f_P_greatestStepAt_L3 q 49  = f_P_greatestStepAt_L3 q jn  → k_P_greatestStepAt_L3 q jn  → lv_has ls 2 [(1, .int (Int32.ofNat jn + (-1 : Int32) + (-24 : Int32))), (0, .int q)] → W p l e (headSpec w_P_greatestStepAt ({ frames := 1, cells := 0, slots := 0, locals := 20 })).room s m ([.int q] : List Value).toArray below meth c s.heap [] 0 0 (MQ below (vp_Si (fun r => r = f_P_greatestStepAt q)) ([.int q] : List Value).toArray s 0 0 (fun _ => False)) (F0 m 3 ls []) := by
    intro jn
    induction jn with
    | zero =>
      intro ls hkn hF hQ hl
      have hF : f_P_greatestStepAt_L3 q 49  = (Int32.ofNat 0 + (-1 : Int32) + (-24 : Int32)) := hF
      have hQ : True := hQ
      refine lv_iload_n hx hb d_P_greatestStepAt_3 rfl (lv_at hl 0 rfl) ?_
      refine lv_bipush (v := (-24 : Int32)) hx hb d_P_greatestStepAt_4 (by decide) ?_
      refine lv_icmp_lt (tgt := 23) hx hb d_P_greatestStepAt_6 (by decide) (fun _ => ?_) (fun c7 => absurd (by decide) c7)
      exact J23_3 (Int32.ofNat 0 + (-1 : Int32) + (-24 : Int32)) ls hF.symm (lv_sub hl [0] rfl)
    | succ jn ih =>
      intro ls hkn hF hQ hl
      have hF : f_P_greatestStepAt_L3 q 49  = (if (f_P_priceOf (Int32.ofNat jn + (-24 : Int32))) ≤ q then (Int32.ofNat jn + (-24 : Int32)) else f_P_greatestStepAt_L3 q jn ) := hF
      have hQ : (k_P_priceOf (Int32.ofNat jn + (-24 : Int32))) ∧ (if (f_P_priceOf (Int32.ofNat jn + (-24 : Int32))) ≤ q then True else k_P_greatestStepAt_L3 q jn ) := hQ
      rw [g_dn] at hl
      refine lv_iload_n hx hb d_P_greatestStepAt_3 rfl (lv_at hl 0 rfl) ?_
      refine lv_bipush (v := (-24 : Int32)) hx hb d_P_greatestStepAt_4 (by decide) ?_
      refine lv_icmp_lt (tgt := 23) hx hb d_P_greatestStepAt_6 (by decide) (fun c8 => absurd c8 (g_c49a (by omega))) (fun _ => ?_)
      refine lv_iload_n hx hb d_P_greatestStepAt_9 rfl (lv_at hl 0 rfl) ?_
      obtain ⟨hs9, hQ⟩ := hQ
      refine g_cSiE (va_runS (As := [.int (Int32.ofNat jn + (-24 : Int32))]) (rest := []) ⟨hx, hb, hml, hown, ht⟩ (c_P_priceOf l tb (Int32.ofNat jn + (-24 : Int32)) hs9) (va_cwS 1 ht gc_P_59 rfl rfl rfl (by decide +kernel) ⟨Nat.le_of_ble_eq_true rfl, Nat.le_of_ble_eq_true rfl⟩) (g_prZ x_Zok hS hz _) rfl rfl hl.1 rfl (lv_room (Nat.le_of_ble_eq_true rfl)) d_P_greatestStepAt_10 ⟨Nat.le_of_ble_eq_true rfl, Nat.le_of_ble_eq_true rfl⟩) ?_
      refine lv_iload_n hx hb d_P_greatestStepAt_13 rfl (lv_at hl 1 rfl) ?_
      refine lv_icmp_le (tgt := 23) hx hb d_P_greatestStepAt_14 (by decide) (fun c12 => ?_) (fun c12 => ?_)
      ·
        have c12 : (f_P_priceOf (Int32.ofNat jn + (-24 : Int32))) ≤ q := c12
        have hF := hF.trans (if_pos c12)
        have hQ := Eq.mp (if_pos c12) hQ
        exact J23_3 (Int32.ofNat jn + (-24 : Int32)) ls hF.symm (lv_sub hl [0] rfl)
      ·
        have c12 : ¬ ((f_P_priceOf (Int32.ofNat jn + (-24 : Int32))) ≤ q) := c12
        have hF := hF.trans (if_neg c12)
        have hQ := Eq.mp (if_neg c12) hQ
        refine lv_iinc (v := Int32.ofNat jn + (-1 : Int32) + (-24 : Int32)) (lv' := [(1, .int (Int32.ofNat jn + (-1 : Int32) + (-24 : Int32))), (0, .int q)]) hx hb d_P_greatestStepAt_17 hl (k := 0) rfl (g_dno jn) (by decide) rfl (fun ls hl => ?_)
        refine lv_goto (tgt := 3) hx hb d_P_greatestStepAt_20 (by decide) ?_
        exact ih  ls (by omega) hF hQ (lv_sub hl [0, 1] rfl)
  exact LL3_6 49  ls (by omega) rfl hT2 (lv_sub hl [0, 1] rfl)
def f_P_canLend_26_2 (σ : g_S) (n : Int32) (am : Int32) : Int32 := (0 : Int32)
def k_P_canLend_26_2 (σ : g_S) (n : Int32) (am : Int32) : Prop := True
def f_P_canLend_26_5 (σ : g_S) (n : Int32) (am : Int32) : Int32 := (0 : Int32)
def k_P_canLend_26_5 (σ : g_S) (n : Int32) (am : Int32) : Prop := True
def f_P_canLend_26_9 (σ : g_S) (n : Int32) (am : Int32) : Int32 := (0 : Int32)
def k_P_canLend_26_9 (σ : g_S) (n : Int32) (am : Int32) : Prop := True
def f_P_canLend_22_10 (σ : g_S) (n : Int32) (am : Int32) : Int32 := (1 : Int32)
def k_P_canLend_22_10 (σ : g_S) (n : Int32) (am : Int32) : Prop := True
def f_P_canLend_10_6 (σ : g_S) (n : Int32) (am : Int32) : Int32 := (if (σ.2 2 n.toNatClampNeg) < am.toInt64 then f_P_canLend_26_9 σ n am else f_P_canLend_22_10 σ n am)
def k_P_canLend_10_6 (σ : g_S) (n : Int32) (am : Int32) : Prop := (vp_in n 2) ∧ (if (σ.2 2 n.toNatClampNeg) < am.toInt64 then k_P_canLend_26_9 σ n am else k_P_canLend_22_10 σ n am)
def f_P_canLend_4_3 (σ : g_S) (n : Int32) (am : Int32) : Int32 := (if (1000000 : Int32) < am then f_P_canLend_26_5 σ n am else f_P_canLend_10_6 σ n am)
def k_P_canLend_4_3 (σ : g_S) (n : Int32) (am : Int32) : Prop := (if (1000000 : Int32) < am then k_P_canLend_26_5 σ n am else k_P_canLend_10_6 σ n am)
def f_P_canLend (σ : g_S) (n : Int32) (am : Int32) : Int32 := (if am < 0 then f_P_canLend_26_2 σ n am else f_P_canLend_4_3 σ n am)
def k_P_canLend (σ : g_S) (n : Int32) (am : Int32) : Prop := (if am < 0 then k_P_canLend_26_2 σ n am else k_P_canLend_4_3 σ n am)
set_option maxHeartbeats 4000000 in
set_option maxRecDepth 100000 in
theorem c_P_canLend (l : Launch) (dC : Nat → ClassId) (dI : Nat → Nat → Nat) (dA : Nat → ClassId) (ad : Nat → Nat) (tb : Nat) (σ : g_S) (n : Int32) (am : Int32) (hQ : k_P_canLend σ n am) : Met l y_P_canLend w_P_canLend ({ frames := 0, cells := 0, slots := 0, locals := 0 }) (va_Pc [.ref (ad 0), .int n, .int am] (g_R (dC, dI) cls (x_tys dA) (g_w x_sh dA ad σ) (x_Z tb))) (vp_Si (fun r => r = f_P_canLend σ n am)) 0 0 (fun _ => False) := by
  refine Met.ofW (cc := b_P_canLend) (maxL := 3) (ret := (some .boolean)) (by decide) rfl ?_
  intro p e s m args below meth c s₁ B hml hv
  obtain ⟨rfl, hP, hK, hz⟩ := hv
  have hx := B.exec
  have hb := B.bytes
  have hr := B.returns
  have hts := atoms_spec (ws := w_P_canLend) B.pre
  have ht := fun (w : Cond) (h : w ∈ gA) => hts w (List.mem_cons_of_mem _ h)
  have hown : s.vm.findClass "RangedPool" = some m.cls := findClass_of_methodNamed B.named
  have hlocks := B.notSynchronized
  have hS : va_S (fun _ => False) s.heap s.heap [] := va_S.rf
  have hl := lv_entry ([.ref (ad 0), .int n, .int am]) (n := 3) (Nat.le_of_ble_eq_true rfl)
  rw [lg_entry_eq]
  generalize (lg_sl ([.ref (ad 0), .int n, .int am]) ++ List.replicate (3 - (lg_sl ([.ref (ad 0), .int n, .int am])).length) Slot.unset).toArray = ls at hl ⊢
  have hl : lv_has ls 3 [(0, .ref (ad 0)), (1, .int n), (2, .int am)] := hl
  have hF : f_P_canLend σ n am = f_P_canLend σ n am := rfl
  refine lv_iload_n hx hb d_P_canLend_0 rfl (lv_at hl 2 rfl) ?_
  refine lv_if_lt (tgt := 26) hx hb d_P_canLend_1 (by decide) (fun c1 => ?_) (fun c1 => ?_)
  ·
    have c1 : am < 0 := c1
    have hF : f_P_canLend σ n am = f_P_canLend_26_2 σ n am := hF.trans (if_pos c1)
    have hQ : k_P_canLend_26_2 σ n am := Eq.mp (if_pos c1) hQ
    refine lv_iconst (v := (0 : Int32)) hx hb d_P_canLend_26 (by decide) ?_
    exact W.zret (ty := .boolean) (v := (0 : Int32)) hx hb hr (g_zr (by decide)) (fun t hh hW => ⟨_, rfl, hF.symm, hh⟩) (fun _ h => by cases h) d_P_canLend_27
  ·
    have c1 : ¬ (am < 0) := c1
    have hF : f_P_canLend σ n am = f_P_canLend_4_3 σ n am := hF.trans (if_neg c1)
    have hQ : k_P_canLend_4_3 σ n am := Eq.mp (if_neg c1) hQ
    refine lv_iload_n hx hb d_P_canLend_4 rfl (lv_at hl 2 rfl) ?_
    refine lv_ldc (v := (1000000 : Int32)) hx hb hown (ht _ kw200) d_P_canLend_5 ?_
    refine lv_icmp_gt (tgt := 26) hx hb d_P_canLend_7 (by decide) (fun c4 => ?_) (fun c4 => ?_)
    ·
      have c4 : (1000000 : Int32) < am := c4
      have hF : f_P_canLend σ n am = f_P_canLend_26_5 σ n am := hF.trans (if_pos c4)
      have hQ : k_P_canLend_26_5 σ n am := Eq.mp (if_pos c4) hQ
      refine lv_iconst (v := (0 : Int32)) hx hb d_P_canLend_26 (by decide) ?_
      exact W.zret (ty := .boolean) (v := (0 : Int32)) hx hb hr (g_zr (by decide)) (fun t hh hW => ⟨_, rfl, hF.symm, hh⟩) (fun _ h => by cases h) d_P_canLend_27
    ·
      have c4 : ¬ ((1000000 : Int32) < am) := c4
      have hF : f_P_canLend σ n am = f_P_canLend_10_6 σ n am := hF.trans (if_neg c4)
      have hQ : k_P_canLend_10_6 σ n am := Eq.mp (if_neg c4) hQ
      refine lv_iload_n hx hb d_P_canLend_10 rfl (lv_at hl 2 rfl) ?_
      refine lv_i2l (v := am.toInt64) hx hb d_P_canLend_11 rfl ?_
      refine lv_aload_n hx hb d_P_canLend_12 rfl (lv_at hl 0 rfl) ?_
      refine g_get hx hb ht in_P hown hK hP (0) x_at0 rfl 3 (by decide) rfl (ht _ kw132) (fun _ h9 => h9) (v := .ref (ad 2)) rfl d_P_canLend_13 ?_
      refine lv_iload_n hx hb d_P_canLend_16 rfl (lv_at hl 1 rfl) ?_
      obtain ⟨hs7, hQ⟩ := hQ
      refine g_lald hx hb hK hP (2) x_at2 rfl (hs7) (j := n.toNatClampNeg) (rfl) d_P_canLend_17 ?_
      refine W.lcmp hx hb d_P_canLend_18 ?_
      refine lv_if_gt (tgt := 26) hx hb d_P_canLend_19 (by decide) (fun c8 => ?_) (fun c8 => ?_)
      ·
        have c8 : (σ.2 2 n.toNatClampNeg) < am.toInt64 := (lg_cmp_gt _ _).mp c8
        have hF : f_P_canLend σ n am = f_P_canLend_26_9 σ n am := hF.trans (if_pos c8)
        have hQ : k_P_canLend_26_9 σ n am := Eq.mp (if_pos c8) hQ
        refine lv_iconst (v := (0 : Int32)) hx hb d_P_canLend_26 (by decide) ?_
        exact W.zret (ty := .boolean) (v := (0 : Int32)) hx hb hr (g_zr (by decide)) (fun t hh hW => ⟨_, rfl, hF.symm, hh⟩) (fun _ h => by cases h) d_P_canLend_27
      ·
        have c8 : ¬ ((σ.2 2 n.toNatClampNeg) < am.toInt64) := mt (lg_cmp_gt _ _).mpr c8
        have hF : f_P_canLend σ n am = f_P_canLend_22_10 σ n am := hF.trans (if_neg c8)
        have hQ : k_P_canLend_22_10 σ n am := Eq.mp (if_neg c8) hQ
        refine lv_iconst (v := (1 : Int32)) hx hb d_P_canLend_22 (by decide) ?_
        refine lv_goto (tgt := 27) hx hb d_P_canLend_23 (by decide) ?_
        exact W.zret (ty := .boolean) (v := (1 : Int32)) hx hb hr (g_zr (by decide)) (fun t hh hW => ⟨_, rfl, hF.symm, hh⟩) (fun _ h => by cases h) d_P_canLend_27
def f_P_canPay_31_3 (σ : g_S) (o : Int32) (z : Int64) (y : Int64) : Int32 := (0 : Int32)
def k_P_canPay_31_3 (σ : g_S) (o : Int32) (z : Int64) (y : Int64) : Prop := True
def f_P_canPay_31_7 (σ : g_S) (o : Int32) (z : Int64) (y : Int64) : Int32 := (0 : Int32)
def k_P_canPay_31_7 (σ : g_S) (o : Int32) (z : Int64) (y : Int64) : Prop := True
def f_P_canPay_27_8 (σ : g_S) (o : Int32) (z : Int64) (y : Int64) : Int32 := (1 : Int32)
def k_P_canPay_27_8 (σ : g_S) (o : Int32) (z : Int64) (y : Int64) : Prop := True
def f_P_canPay_13_4 (σ : g_S) (o : Int32) (z : Int64) (y : Int64) : Int32 := (if (σ.2 (o.toNatClampNeg + 10) 1) < y then f_P_canPay_31_7 σ o z y else f_P_canPay_27_8 σ o z y)
def k_P_canPay_13_4 (σ : g_S) (o : Int32) (z : Int64) (y : Int64) : Prop := (vp_in o 4) ∧ (if (σ.2 (o.toNatClampNeg + 10) 1) < y then k_P_canPay_31_7 σ o z y else k_P_canPay_27_8 σ o z y)
def f_P_canPay (σ : g_S) (o : Int32) (z : Int64) (y : Int64) : Int32 := (if (σ.2 (o.toNatClampNeg + 10) 0) < z then f_P_canPay_31_3 σ o z y else f_P_canPay_13_4 σ o z y)
def k_P_canPay (σ : g_S) (o : Int32) (z : Int64) (y : Int64) : Prop := (vp_in o 4) ∧ (if (σ.2 (o.toNatClampNeg + 10) 0) < z then k_P_canPay_31_3 σ o z y else k_P_canPay_13_4 σ o z y)
set_option maxHeartbeats 4000000 in
set_option maxRecDepth 100000 in
theorem c_P_canPay (l : Launch) (dC : Nat → ClassId) (dI : Nat → Nat → Nat) (dA : Nat → ClassId) (ad : Nat → Nat) (tb : Nat) (σ : g_S) (o : Int32) (z : Int64) (y : Int64) (hQ : k_P_canPay σ o z y) : Met l y_P_canPay w_P_canPay ({ frames := 0, cells := 0, slots := 0, locals := 0 }) (va_Pc [.ref (ad 0), .int o, .long z, .long y] (g_R (dC, dI) cls (x_tys dA) (g_w x_sh dA ad σ) (x_Z tb))) (vp_Si (fun r => r = f_P_canPay σ o z y)) 0 0 (fun _ => False) := by
  refine Met.ofW (cc := b_P_canPay) (maxL := 6) (ret := (some .boolean)) (by decide) rfl ?_
  intro p e s m args below meth c s₁ B hml hv
  obtain ⟨rfl, hP, hK, hz⟩ := hv
  have hx := B.exec
  have hb := B.bytes
  have hr := B.returns
  have hts := atoms_spec (ws := w_P_canPay) B.pre
  have ht := fun (w : Cond) (h : w ∈ gA) => hts w (List.mem_cons_of_mem _ h)
  have hown : s.vm.findClass "RangedPool" = some m.cls := findClass_of_methodNamed B.named
  have hlocks := B.notSynchronized
  have hS : va_S (fun _ => False) s.heap s.heap [] := va_S.rf
  have hl := lv_entry ([.ref (ad 0), .int o, .long z, .long y]) (n := 6) (Nat.le_of_ble_eq_true rfl)
  rw [lg_entry_eq]
  generalize (lg_sl ([.ref (ad 0), .int o, .long z, .long y]) ++ List.replicate (6 - (lg_sl ([.ref (ad 0), .int o, .long z, .long y])).length) Slot.unset).toArray = ls at hl ⊢
  have hl : lv_has ls 6 [(0, .ref (ad 0)), (1, .int o), (2, .long z), (4, .long y)] := hl
  have hF : f_P_canPay σ o z y = f_P_canPay σ o z y := rfl
  refine lv_aload_n hx hb d_P_canPay_0 rfl (lv_at hl 0 rfl) ?_
  refine g_get hx hb ht in_P hown hK hP (0) x_at0 rfl 2 (by decide) rfl (ht _ kw131) (fun _ h9 => h9) (v := .ref (ad 1)) rfl d_P_canPay_1 ?_
  refine lv_iload_n hx hb d_P_canPay_4 rfl (lv_at hl 1 rfl) ?_
  obtain ⟨hs1, hQ⟩ := hQ
  refine g_aald hx hb hK hP 1 x_at1 rfl rfl (hs1) (z := o.toNatClampNeg + 10) (x_el1 (rfl) (g_nlt hs1)) d_P_canPay_5 ?_
  refine lv_iconst (v := (0 : Int32)) hx hb d_P_canPay_6 (by decide) ?_
  refine g_lald hx hb hK hP (o.toNatClampNeg + 10) (x_at10 (g_nlt hs1)) rfl (by unfold vp_in; decide) (j := 0) (by decide) d_P_canPay_7 ?_
  refine lv_lload_n hx hb d_P_canPay_8 rfl (lv_at hl 2 rfl) ?_
  refine W.lcmp hx hb d_P_canPay_9 ?_
  refine lv_if_lt (tgt := 31) hx hb d_P_canPay_10 (by decide) (fun c2 => ?_) (fun c2 => ?_)
  ·
    have c2 : (σ.2 (o.toNatClampNeg + 10) 0) < z := (lg_cmp_lt _ _).mp c2
    have hF : f_P_canPay σ o z y = f_P_canPay_31_3 σ o z y := hF.trans (if_pos c2)
    have hQ : k_P_canPay_31_3 σ o z y := Eq.mp (if_pos c2) hQ
    refine lv_iconst (v := (0 : Int32)) hx hb d_P_canPay_31 (by decide) ?_
    exact W.zret (ty := .boolean) (v := (0 : Int32)) hx hb hr (g_zr (by decide)) (fun t hh hW => ⟨_, rfl, hF.symm, hh⟩) (fun _ h => by cases h) d_P_canPay_32
  ·
    have c2 : ¬ ((σ.2 (o.toNatClampNeg + 10) 0) < z) := mt (lg_cmp_lt _ _).mpr c2
    have hF : f_P_canPay σ o z y = f_P_canPay_13_4 σ o z y := hF.trans (if_neg c2)
    have hQ : k_P_canPay_13_4 σ o z y := Eq.mp (if_neg c2) hQ
    refine lv_aload_n hx hb d_P_canPay_13 rfl (lv_at hl 0 rfl) ?_
    refine g_get hx hb ht in_P hown hK hP (0) x_at0 rfl 2 (by decide) rfl (ht _ kw131) (fun _ h9 => h9) (v := .ref (ad 1)) rfl d_P_canPay_14 ?_
    refine lv_iload_n hx hb d_P_canPay_17 rfl (lv_at hl 1 rfl) ?_
    obtain ⟨hs5, hQ⟩ := hQ
    refine g_aald hx hb hK hP 1 x_at1 rfl rfl (hs5) (z := o.toNatClampNeg + 10) (x_el1 (rfl) (g_nlt hs5)) d_P_canPay_18 ?_
    refine lv_iconst (v := (1 : Int32)) hx hb d_P_canPay_19 (by decide) ?_
    refine g_lald hx hb hK hP (o.toNatClampNeg + 10) (x_at10 (g_nlt hs5)) rfl (by unfold vp_in; decide) (j := 1) (by decide) d_P_canPay_20 ?_
    refine lv_lload hx hb d_P_canPay_21 (lv_at hl 3 rfl) ?_
    refine W.lcmp hx hb d_P_canPay_23 ?_
    refine lv_if_lt (tgt := 31) hx hb d_P_canPay_24 (by decide) (fun c6 => ?_) (fun c6 => ?_)
    ·
      have c6 : (σ.2 (o.toNatClampNeg + 10) 1) < y := (lg_cmp_lt _ _).mp c6
      have hF : f_P_canPay σ o z y = f_P_canPay_31_7 σ o z y := hF.trans (if_pos c6)
      have hQ : k_P_canPay_31_7 σ o z y := Eq.mp (if_pos c6) hQ
      refine lv_iconst (v := (0 : Int32)) hx hb d_P_canPay_31 (by decide) ?_
      exact W.zret (ty := .boolean) (v := (0 : Int32)) hx hb hr (g_zr (by decide)) (fun t hh hW => ⟨_, rfl, hF.symm, hh⟩) (fun _ h => by cases h) d_P_canPay_32
    ·
      have c6 : ¬ ((σ.2 (o.toNatClampNeg + 10) 1) < y) := mt (lg_cmp_lt _ _).mpr c6
      have hF : f_P_canPay σ o z y = f_P_canPay_27_8 σ o z y := hF.trans (if_neg c6)
      have hQ : k_P_canPay_27_8 σ o z y := Eq.mp (if_neg c6) hQ
      refine lv_iconst (v := (1 : Int32)) hx hb d_P_canPay_27 (by decide) ?_
      refine lv_goto (tgt := 32) hx hb d_P_canPay_28 (by decide) ?_
      exact W.zret (ty := .boolean) (v := (1 : Int32)) hx hb hr (g_zr (by decide)) (fun t hh hW => ⟨_, rfl, hF.symm, hh⟩) (fun _ h => by cases h) d_P_canPay_32
end
section
def f_P_isRange_41_5 (σ : g_S) (lo : Int32) (hi : Int32) (r1 : Int32) : Int32 := (0 : Int32)
def k_P_isRange_41_5 (σ : g_S) (lo : Int32) (hi : Int32) (r1 : Int32) : Prop := True
def f_P_isRange_41_11 (σ : g_S) (lo : Int32) (hi : Int32) (r1 : Int32) (r7 : Int32) : Int32 := (0 : Int32)
def k_P_isRange_41_11 (σ : g_S) (lo : Int32) (hi : Int32) (r1 : Int32) (r7 : Int32) : Prop := True
def f_P_isRange_41_14 (σ : g_S) (lo : Int32) (hi : Int32) (r1 : Int32) (r7 : Int32) : Int32 := (0 : Int32)
def k_P_isRange_41_14 (σ : g_S) (lo : Int32) (hi : Int32) (r1 : Int32) (r7 : Int32) : Prop := True
def f_P_isRange_41_18 (σ : g_S) (lo : Int32) (hi : Int32) (r1 : Int32) (r7 : Int32) : Int32 := (0 : Int32)
def k_P_isRange_41_18 (σ : g_S) (lo : Int32) (hi : Int32) (r1 : Int32) (r7 : Int32) : Prop := True
def f_P_isRange_41_22 (σ : g_S) (lo : Int32) (hi : Int32) (r1 : Int32) (r7 : Int32) : Int32 := (0 : Int32)
def k_P_isRange_41_22 (σ : g_S) (lo : Int32) (hi : Int32) (r1 : Int32) (r7 : Int32) : Prop := True
def f_P_isRange_37_23 (σ : g_S) (lo : Int32) (hi : Int32) (r1 : Int32) (r7 : Int32) : Int32 := (1 : Int32)
def k_P_isRange_37_23 (σ : g_S) (lo : Int32) (hi : Int32) (r1 : Int32) (r7 : Int32) : Prop := True
def f_P_isRange_28_19 (σ : g_S) (lo : Int32) (hi : Int32) (r1 : Int32) (r7 : Int32) : Int32 := (if (hi - hi / (σ.1 0 0) * (σ.1 0 0)) = 0 then f_P_isRange_37_23 σ lo hi r1 r7 else f_P_isRange_41_22 σ lo hi r1 r7)
def k_P_isRange_28_19 (σ : g_S) (lo : Int32) (hi : Int32) (r1 : Int32) (r7 : Int32) : Prop := (¬ (σ.1 0 0) = 0) ∧ (if (hi - hi / (σ.1 0 0) * (σ.1 0 0)) = 0 then k_P_isRange_37_23 σ lo hi r1 r7 else k_P_isRange_41_22 σ lo hi r1 r7)
def f_P_isRange_19_15 (σ : g_S) (lo : Int32) (hi : Int32) (r1 : Int32) (r7 : Int32) : Int32 := (if (lo - lo / (σ.1 0 0) * (σ.1 0 0)) = 0 then f_P_isRange_28_19 σ lo hi r1 r7 else f_P_isRange_41_18 σ lo hi r1 r7)
def k_P_isRange_19_15 (σ : g_S) (lo : Int32) (hi : Int32) (r1 : Int32) (r7 : Int32) : Prop := (¬ (σ.1 0 0) = 0) ∧ (if (lo - lo / (σ.1 0 0) * (σ.1 0 0)) = 0 then k_P_isRange_28_19 σ lo hi r1 r7 else k_P_isRange_41_18 σ lo hi r1 r7)
def f_P_isRange_14_12 (σ : g_S) (lo : Int32) (hi : Int32) (r1 : Int32) (r7 : Int32) : Int32 := (if hi ≤ lo then f_P_isRange_41_14 σ lo hi r1 r7 else f_P_isRange_19_15 σ lo hi r1 r7)
def k_P_isRange_14_12 (σ : g_S) (lo : Int32) (hi : Int32) (r1 : Int32) (r7 : Int32) : Prop := (if hi ≤ lo then k_P_isRange_41_14 σ lo hi r1 r7 else k_P_isRange_19_15 σ lo hi r1 r7)
def f_P_isRange_8_9 (σ : g_S) (lo : Int32) (hi : Int32) (r1 : Int32) (r7 : Int32) : Int32 := (if r7 = 0 then f_P_isRange_41_11 σ lo hi r1 r7 else f_P_isRange_14_12 σ lo hi r1 r7)
def k_P_isRange_8_9 (σ : g_S) (lo : Int32) (hi : Int32) (r1 : Int32) (r7 : Int32) : Prop := (if r7 = 0 then k_P_isRange_41_11 σ lo hi r1 r7 else k_P_isRange_14_12 σ lo hi r1 r7)
def f_P_isRange_7_6 (σ : g_S) (lo : Int32) (hi : Int32) (r1 : Int32) : Int32 := (f_P_isRange_8_9 σ lo hi r1 (f_P_isStep hi))
def k_P_isRange_7_6 (σ : g_S) (lo : Int32) (hi : Int32) (r1 : Int32) : Prop := (k_P_isRange_8_9 σ lo hi r1 (f_P_isStep hi))
def f_P_isRange_1_3 (σ : g_S) (lo : Int32) (hi : Int32) (r1 : Int32) : Int32 := (if r1 = 0 then f_P_isRange_41_5 σ lo hi r1 else f_P_isRange_7_6 σ lo hi r1)
def k_P_isRange_1_3 (σ : g_S) (lo : Int32) (hi : Int32) (r1 : Int32) : Prop := (if r1 = 0 then k_P_isRange_41_5 σ lo hi r1 else k_P_isRange_7_6 σ lo hi r1)
def f_P_isRange (σ : g_S) (lo : Int32) (hi : Int32) : Int32 := (f_P_isRange_1_3 σ lo hi (f_P_isStep lo))
def k_P_isRange (σ : g_S) (lo : Int32) (hi : Int32) : Prop := (k_P_isRange_1_3 σ lo hi (f_P_isStep lo))
set_option maxHeartbeats 4000000 in
set_option maxRecDepth 100000 in
theorem c_P_isRange (l : Launch) (dC : Nat → ClassId) (dI : Nat → Nat → Nat) (dA : Nat → ClassId) (ad : Nat → Nat) (tb : Nat) (σ : g_S) (lo : Int32) (hi : Int32) (hQ : k_P_isRange σ lo hi) : Met l y_P_isRange w_P_isRange ({ frames := 1, cells := 0, slots := 0, locals := 20 }) (va_Pc [.ref (ad 0), .int lo, .int hi] (g_R (dC, dI) cls (x_tys dA) (g_w x_sh dA ad σ) (x_Z tb))) (vp_Si (fun r => r = f_P_isRange σ lo hi)) 0 0 (fun _ => False) := by
  refine Met.ofW (cc := b_P_isRange) (maxL := 3) (ret := (some .boolean)) (by decide) rfl ?_
  intro p e s m args below meth c s₁ B hml hv
  obtain ⟨rfl, hP, hK, hz⟩ := hv
  have hx := B.exec
  have hb := B.bytes
  have hr := B.returns
  have hts := atoms_spec (ws := w_P_isRange) B.pre
  have ht := fun (w : Cond) (h : w ∈ gA) => hts w (List.mem_cons_of_mem _ h)
  have hown : s.vm.findClass "RangedPool" = some m.cls := findClass_of_methodNamed B.named
  have hlocks := B.notSynchronized
  have hS : va_S (fun _ => False) s.heap s.heap [] := va_S.rf
  have hl := lv_entry ([.ref (ad 0), .int lo, .int hi]) (n := 3) (Nat.le_of_ble_eq_true rfl)
  rw [lg_entry_eq]
  generalize (lg_sl ([.ref (ad 0), .int lo, .int hi]) ++ List.replicate (3 - (lg_sl ([.ref (ad 0), .int lo, .int hi])).length) Slot.unset).toArray = ls at hl ⊢
  have hl : lv_has ls 3 [(0, .ref (ad 0)), (1, .int lo), (2, .int hi)] := hl
  have hF : f_P_isRange σ lo hi = f_P_isRange σ lo hi := rfl
  refine lv_iload_n hx hb d_P_isRange_0 rfl (lv_at hl 1 rfl) ?_
  refine g_cSi (va_runS (As := [.int lo]) (rest := []) ⟨hx, hb, hml, hown, ht⟩ (c_P_isStep l lo) (va_cwS 1 ht gc_P_56 rfl rfl rfl (by decide +kernel) ⟨Nat.le_of_ble_eq_true rfl, Nat.le_of_ble_eq_true rfl⟩) (g_pr0 _) rfl rfl hl.1 rfl (lv_room (Nat.le_of_ble_eq_true rfl)) d_P_isRange_1 ⟨Nat.le_of_ble_eq_true rfl, Nat.le_of_ble_eq_true rfl⟩) (fun r1 e2 => ?_)
  have hF : f_P_isRange σ lo hi = f_P_isRange_1_3 σ lo hi r1 := hF.trans (by rw [e2]; try rfl)
  have hQ : k_P_isRange_1_3 σ lo hi r1 := by rw [e2]; exact hQ
  refine lv_if_eq (tgt := 41) hx hb d_P_isRange_4 (by decide) (fun c4 => ?_) (fun c4 => ?_)
  ·
    have c4 : r1 = 0 := c4
    have hF : f_P_isRange σ lo hi = f_P_isRange_41_5 σ lo hi r1 := hF.trans (if_pos c4)
    have hQ : k_P_isRange_41_5 σ lo hi r1 := Eq.mp (if_pos c4) hQ
    refine lv_iconst (v := (0 : Int32)) hx hb d_P_isRange_41 (by decide) ?_
    exact W.zret (ty := .boolean) (v := (0 : Int32)) hx hb hr (g_zr (by decide)) (fun t hh hW => ⟨_, rfl, hF.symm, hh⟩) (fun _ h => by cases h) d_P_isRange_42
  ·
    have c4 : ¬ (r1 = 0) := c4
    have hF : f_P_isRange σ lo hi = f_P_isRange_7_6 σ lo hi r1 := hF.trans (if_neg c4)
    have hQ : k_P_isRange_7_6 σ lo hi r1 := Eq.mp (if_neg c4) hQ
    refine lv_iload_n hx hb d_P_isRange_7 rfl (lv_at hl 2 rfl) ?_
    refine g_cSi (va_runS (As := [.int hi]) (rest := []) ⟨hx, hb, hml, hown, ht⟩ (c_P_isStep l hi) (va_cwS 1 ht gc_P_56 rfl rfl rfl (by decide +kernel) ⟨Nat.le_of_ble_eq_true rfl, Nat.le_of_ble_eq_true rfl⟩) (g_pr0 _) rfl rfl hl.1 rfl (lv_room (Nat.le_of_ble_eq_true rfl)) d_P_isRange_8 ⟨Nat.le_of_ble_eq_true rfl, Nat.le_of_ble_eq_true rfl⟩) (fun r7 e8 => ?_)
    have hF : f_P_isRange σ lo hi = f_P_isRange_8_9 σ lo hi r1 r7 := hF.trans (by rw [e8]; try rfl)
    have hQ : k_P_isRange_8_9 σ lo hi r1 r7 := by rw [e8]; exact hQ
    refine lv_if_eq (tgt := 41) hx hb d_P_isRange_11 (by decide) (fun c10 => ?_) (fun c10 => ?_)
    ·
      have c10 : r7 = 0 := c10
      have hF : f_P_isRange σ lo hi = f_P_isRange_41_11 σ lo hi r1 r7 := hF.trans (if_pos c10)
      have hQ : k_P_isRange_41_11 σ lo hi r1 r7 := Eq.mp (if_pos c10) hQ
      refine lv_iconst (v := (0 : Int32)) hx hb d_P_isRange_41 (by decide) ?_
      exact W.zret (ty := .boolean) (v := (0 : Int32)) hx hb hr (g_zr (by decide)) (fun t hh hW => ⟨_, rfl, hF.symm, hh⟩) (fun _ h => by cases h) d_P_isRange_42
    ·
      have c10 : ¬ (r7 = 0) := c10
      have hF : f_P_isRange σ lo hi = f_P_isRange_14_12 σ lo hi r1 r7 := hF.trans (if_neg c10)
      have hQ : k_P_isRange_14_12 σ lo hi r1 r7 := Eq.mp (if_neg c10) hQ
      refine lv_iload_n hx hb d_P_isRange_14 rfl (lv_at hl 1 rfl) ?_
      refine lv_iload_n hx hb d_P_isRange_15 rfl (lv_at hl 2 rfl) ?_
      refine lv_icmp_ge (tgt := 41) hx hb d_P_isRange_16 (by decide) (fun c13 => ?_) (fun c13 => ?_)
      ·
        have c13 : hi ≤ lo := c13
        have hF : f_P_isRange σ lo hi = f_P_isRange_41_14 σ lo hi r1 r7 := hF.trans (if_pos c13)
        have hQ : k_P_isRange_41_14 σ lo hi r1 r7 := Eq.mp (if_pos c13) hQ
        refine lv_iconst (v := (0 : Int32)) hx hb d_P_isRange_41 (by decide) ?_
        exact W.zret (ty := .boolean) (v := (0 : Int32)) hx hb hr (g_zr (by decide)) (fun t hh hW => ⟨_, rfl, hF.symm, hh⟩) (fun _ h => by cases h) d_P_isRange_42
      ·
        have c13 : ¬ (hi ≤ lo) := c13
        have hF : f_P_isRange σ lo hi = f_P_isRange_19_15 σ lo hi r1 r7 := hF.trans (if_neg c13)
        have hQ : k_P_isRange_19_15 σ lo hi r1 r7 := Eq.mp (if_neg c13) hQ
        refine lv_iload_n hx hb d_P_isRange_19 rfl (lv_at hl 1 rfl) ?_
        refine lv_aload_n hx hb d_P_isRange_20 rfl (lv_at hl 0 rfl) ?_
        refine g_get hx hb ht in_P hown hK hP (0) x_at0 rfl 0 (by decide) rfl (ht _ kw129) (fun _ h9 => h9) (v := .int (σ.1 0 0)) rfl d_P_isRange_21 ?_
        obtain ⟨hs16, hQ⟩ := hQ
        refine lv_irem hx hb d_P_isRange_24 (hs16) ?_
        refine lv_if_ne (tgt := 41) hx hb d_P_isRange_25 (by decide) (fun c17 => ?_) (fun c17 => ?_)
        ·
          have c17 : ¬ ((lo - lo / (σ.1 0 0) * (σ.1 0 0)) = 0) := c17
          have hF : f_P_isRange σ lo hi = f_P_isRange_41_18 σ lo hi r1 r7 := hF.trans (if_neg c17)
          have hQ : k_P_isRange_41_18 σ lo hi r1 r7 := Eq.mp (if_neg c17) hQ
          refine lv_iconst (v := (0 : Int32)) hx hb d_P_isRange_41 (by decide) ?_
          exact W.zret (ty := .boolean) (v := (0 : Int32)) hx hb hr (g_zr (by decide)) (fun t hh hW => ⟨_, rfl, hF.symm, hh⟩) (fun _ h => by cases h) d_P_isRange_42
        ·
          have c17 : (lo - lo / (σ.1 0 0) * (σ.1 0 0)) = 0 := c17
          have hF : f_P_isRange σ lo hi = f_P_isRange_28_19 σ lo hi r1 r7 := hF.trans (if_pos c17)
          have hQ : k_P_isRange_28_19 σ lo hi r1 r7 := Eq.mp (if_pos c17) hQ
          refine lv_iload_n hx hb d_P_isRange_28 rfl (lv_at hl 2 rfl) ?_
          refine lv_aload_n hx hb d_P_isRange_29 rfl (lv_at hl 0 rfl) ?_
          refine g_get hx hb ht in_P hown hK hP (0) x_at0 rfl 0 (by decide) rfl (ht _ kw129) (fun _ h9 => h9) (v := .int (σ.1 0 0)) rfl d_P_isRange_30 ?_
          obtain ⟨hs20, hQ⟩ := hQ
          refine lv_irem hx hb d_P_isRange_33 (hs20) ?_
          refine lv_if_ne (tgt := 41) hx hb d_P_isRange_34 (by decide) (fun c21 => ?_) (fun c21 => ?_)
          ·
            have c21 : ¬ ((hi - hi / (σ.1 0 0) * (σ.1 0 0)) = 0) := c21
            have hF : f_P_isRange σ lo hi = f_P_isRange_41_22 σ lo hi r1 r7 := hF.trans (if_neg c21)
            have hQ : k_P_isRange_41_22 σ lo hi r1 r7 := Eq.mp (if_neg c21) hQ
            refine lv_iconst (v := (0 : Int32)) hx hb d_P_isRange_41 (by decide) ?_
            exact W.zret (ty := .boolean) (v := (0 : Int32)) hx hb hr (g_zr (by decide)) (fun t hh hW => ⟨_, rfl, hF.symm, hh⟩) (fun _ h => by cases h) d_P_isRange_42
          ·
            have c21 : (hi - hi / (σ.1 0 0) * (σ.1 0 0)) = 0 := c21
            have hF : f_P_isRange σ lo hi = f_P_isRange_37_23 σ lo hi r1 r7 := hF.trans (if_pos c21)
            have hQ : k_P_isRange_37_23 σ lo hi r1 r7 := Eq.mp (if_pos c21) hQ
            refine lv_iconst (v := (1 : Int32)) hx hb d_P_isRange_37 (by decide) ?_
            refine lv_goto (tgt := 42) hx hb d_P_isRange_38 (by decide) ?_
            exact W.zret (ty := .boolean) (v := (1 : Int32)) hx hb hr (g_zr (by decide)) (fun t hh hW => ⟨_, rfl, hF.symm, hh⟩) (fun _ h => by cases h) d_P_isRange_42
def f_P_isTrade_23_2 (σ : g_S) (dn : Int32) (am : Int32) (lim : Int32) : Int32 := (0 : Int32)
def k_P_isTrade_23_2 (σ : g_S) (dn : Int32) (am : Int32) (lim : Int32) : Prop := True
def f_P_isTrade_23_5 (σ : g_S) (dn : Int32) (am : Int32) (lim : Int32) : Int32 := (0 : Int32)
def k_P_isTrade_23_5 (σ : g_S) (dn : Int32) (am : Int32) (lim : Int32) : Prop := True
def f_P_isTrade_23_8 (σ : g_S) (dn : Int32) (am : Int32) (lim : Int32) : Int32 := (0 : Int32)
def k_P_isTrade_23_8 (σ : g_S) (dn : Int32) (am : Int32) (lim : Int32) : Prop := True
def f_P_isTrade_63_22 (σ : g_S) (dn : Int32) (am : Int32) (lim : Int32) (r10 : Int32) (r18 : Int32) : Int32 := (0 : Int32)
def k_P_isTrade_63_22 (σ : g_S) (dn : Int32) (am : Int32) (lim : Int32) (r10 : Int32) (r18 : Int32) : Prop := True
def f_P_isTrade_59_23 (σ : g_S) (dn : Int32) (am : Int32) (lim : Int32) (r10 : Int32) (r18 : Int32) : Int32 := (1 : Int32)
def k_P_isTrade_59_23 (σ : g_S) (dn : Int32) (am : Int32) (lim : Int32) (r10 : Int32) (r18 : Int32) : Prop := True
def f_P_isTrade_49_20 (σ : g_S) (dn : Int32) (am : Int32) (lim : Int32) (r10 : Int32) (r18 : Int32) : Int32 := (if r18 ≤ (σ.1 0 8) then f_P_isTrade_63_22 σ dn am lim r10 r18 else f_P_isTrade_59_23 σ dn am lim r10 r18)
def k_P_isTrade_49_20 (σ : g_S) (dn : Int32) (am : Int32) (lim : Int32) (r10 : Int32) (r18 : Int32) : Prop := (if r18 ≤ (σ.1 0 8) then k_P_isTrade_63_22 σ dn am lim r10 r18 else k_P_isTrade_59_23 σ dn am lim r10 r18)
def f_P_isTrade_48_16 (σ : g_S) (dn : Int32) (am : Int32) (lim : Int32) (r10 : Int32) : Int32 := (f_P_isTrade_49_20 σ dn am lim r10 (f_P_priceOf lim))
def k_P_isTrade_48_16 (σ : g_S) (dn : Int32) (am : Int32) (lim : Int32) (r10 : Int32) : Prop := (k_P_priceOf lim) ∧ (k_P_isTrade_49_20 σ dn am lim r10 (f_P_priceOf lim))
def f_P_isTrade_44_30 (σ : g_S) (dn : Int32) (am : Int32) (lim : Int32) (r10 : Int32) (r26 : Int32) : Int32 := (0 : Int32)
def k_P_isTrade_44_30 (σ : g_S) (dn : Int32) (am : Int32) (lim : Int32) (r10 : Int32) (r26 : Int32) : Prop := True
def f_P_isTrade_40_31 (σ : g_S) (dn : Int32) (am : Int32) (lim : Int32) (r10 : Int32) (r26 : Int32) : Int32 := (1 : Int32)
def k_P_isTrade_40_31 (σ : g_S) (dn : Int32) (am : Int32) (lim : Int32) (r10 : Int32) (r26 : Int32) : Prop := True
def f_P_isTrade_30_28 (σ : g_S) (dn : Int32) (am : Int32) (lim : Int32) (r10 : Int32) (r26 : Int32) : Int32 := (if (σ.1 0 8) ≤ r26 then f_P_isTrade_44_30 σ dn am lim r10 r26 else f_P_isTrade_40_31 σ dn am lim r10 r26)
def k_P_isTrade_30_28 (σ : g_S) (dn : Int32) (am : Int32) (lim : Int32) (r10 : Int32) (r26 : Int32) : Prop := (if (σ.1 0 8) ≤ r26 then k_P_isTrade_44_30 σ dn am lim r10 r26 else k_P_isTrade_40_31 σ dn am lim r10 r26)
def f_P_isTrade_29_24 (σ : g_S) (dn : Int32) (am : Int32) (lim : Int32) (r10 : Int32) : Int32 := (f_P_isTrade_30_28 σ dn am lim r10 (f_P_priceOf lim))
def k_P_isTrade_29_24 (σ : g_S) (dn : Int32) (am : Int32) (lim : Int32) (r10 : Int32) : Prop := (k_P_priceOf lim) ∧ (k_P_isTrade_30_28 σ dn am lim r10 (f_P_priceOf lim))
def f_P_isTrade_25_14 (σ : g_S) (dn : Int32) (am : Int32) (lim : Int32) (r10 : Int32) : Int32 := (if dn = 0 then f_P_isTrade_48_16 σ dn am lim r10 else f_P_isTrade_29_24 σ dn am lim r10)
def k_P_isTrade_25_14 (σ : g_S) (dn : Int32) (am : Int32) (lim : Int32) (r10 : Int32) : Prop := (if dn = 0 then k_P_isTrade_48_16 σ dn am lim r10 else k_P_isTrade_29_24 σ dn am lim r10)
def f_P_isTrade_23_32 (σ : g_S) (dn : Int32) (am : Int32) (lim : Int32) (r10 : Int32) : Int32 := (0 : Int32)
def k_P_isTrade_23_32 (σ : g_S) (dn : Int32) (am : Int32) (lim : Int32) (r10 : Int32) : Prop := True
def f_P_isTrade_17_12 (σ : g_S) (dn : Int32) (am : Int32) (lim : Int32) (r10 : Int32) : Int32 := (if r10 = 0 then f_P_isTrade_23_32 σ dn am lim r10 else f_P_isTrade_25_14 σ dn am lim r10)
def k_P_isTrade_17_12 (σ : g_S) (dn : Int32) (am : Int32) (lim : Int32) (r10 : Int32) : Prop := (if r10 = 0 then k_P_isTrade_23_32 σ dn am lim r10 else k_P_isTrade_25_14 σ dn am lim r10)
def f_P_isTrade_16_9 (σ : g_S) (dn : Int32) (am : Int32) (lim : Int32) : Int32 := (f_P_isTrade_17_12 σ dn am lim (f_P_isStep lim))
def k_P_isTrade_16_9 (σ : g_S) (dn : Int32) (am : Int32) (lim : Int32) : Prop := (k_P_isTrade_17_12 σ dn am lim (f_P_isStep lim))
def f_P_isTrade_10_6 (σ : g_S) (dn : Int32) (am : Int32) (lim : Int32) : Int32 := (if (1000000 : Int32) < am then f_P_isTrade_23_8 σ dn am lim else f_P_isTrade_16_9 σ dn am lim)
def k_P_isTrade_10_6 (σ : g_S) (dn : Int32) (am : Int32) (lim : Int32) : Prop := (if (1000000 : Int32) < am then k_P_isTrade_23_8 σ dn am lim else k_P_isTrade_16_9 σ dn am lim)
def f_P_isTrade_4_3 (σ : g_S) (dn : Int32) (am : Int32) (lim : Int32) : Int32 := (if am < (-1000000 : Int32) then f_P_isTrade_23_5 σ dn am lim else f_P_isTrade_10_6 σ dn am lim)
def k_P_isTrade_4_3 (σ : g_S) (dn : Int32) (am : Int32) (lim : Int32) : Prop := (if am < (-1000000 : Int32) then k_P_isTrade_23_5 σ dn am lim else k_P_isTrade_10_6 σ dn am lim)
def f_P_isTrade (σ : g_S) (dn : Int32) (am : Int32) (lim : Int32) : Int32 := (if am = 0 then f_P_isTrade_23_2 σ dn am lim else f_P_isTrade_4_3 σ dn am lim)
def k_P_isTrade (σ : g_S) (dn : Int32) (am : Int32) (lim : Int32) : Prop := (if am = 0 then k_P_isTrade_23_2 σ dn am lim else k_P_isTrade_4_3 σ dn am lim)
set_option maxHeartbeats 4000000 in
set_option maxRecDepth 100000 in
theorem c_P_isTrade (l : Launch) (dC : Nat → ClassId) (dI : Nat → Nat → Nat) (dA : Nat → ClassId) (ad : Nat → Nat) (tb : Nat) (σ : g_S) (dn : Int32) (am : Int32) (lim : Int32) (hQ : k_P_isTrade σ dn am lim) : Met l y_P_isTrade w_P_isTrade ({ frames := 1, cells := 0, slots := 0, locals := 20 }) (va_Pc [.ref (ad 0), .int dn, .int am, .int lim] (g_R (dC, dI) cls (x_tys dA) (g_w x_sh dA ad σ) (x_Z tb))) (vp_Si (fun r => r = f_P_isTrade σ dn am lim)) 0 0 (fun _ => False) := by
  refine Met.ofW (cc := b_P_isTrade) (maxL := 4) (ret := (some .boolean)) (by decide) rfl ?_
  intro p e s m args below meth c s₁ B hml hv
  obtain ⟨rfl, hP, hK, hz⟩ := hv
  have hx := B.exec
  have hb := B.bytes
  have hr := B.returns
  have hts := atoms_spec (ws := w_P_isTrade) B.pre
  have ht := fun (w : Cond) (h : w ∈ gA) => hts w (List.mem_cons_of_mem _ h)
  have hown : s.vm.findClass "RangedPool" = some m.cls := findClass_of_methodNamed B.named
  have hlocks := B.notSynchronized
  have hS : va_S (fun _ => False) s.heap s.heap [] := va_S.rf
  have hl := lv_entry ([.ref (ad 0), .int dn, .int am, .int lim]) (n := 4) (Nat.le_of_ble_eq_true rfl)
  rw [lg_entry_eq]
  generalize (lg_sl ([.ref (ad 0), .int dn, .int am, .int lim]) ++ List.replicate (4 - (lg_sl ([.ref (ad 0), .int dn, .int am, .int lim])).length) Slot.unset).toArray = ls at hl ⊢
  have hl : lv_has ls 4 [(0, .ref (ad 0)), (1, .int dn), (2, .int am), (3, .int lim)] := hl
  have hF : f_P_isTrade σ dn am lim = f_P_isTrade σ dn am lim := rfl
  refine lv_iload_n hx hb d_P_isTrade_0 rfl (lv_at hl 2 rfl) ?_
  refine lv_if_eq (tgt := 23) hx hb d_P_isTrade_1 (by decide) (fun c1 => ?_) (fun c1 => ?_)
  ·
    have c1 : am = 0 := c1
    have hF : f_P_isTrade σ dn am lim = f_P_isTrade_23_2 σ dn am lim := hF.trans (if_pos c1)
    have hQ : k_P_isTrade_23_2 σ dn am lim := Eq.mp (if_pos c1) hQ
    refine lv_iconst (v := (0 : Int32)) hx hb d_P_isTrade_23 (by decide) ?_
    exact W.zret (ty := .boolean) (v := (0 : Int32)) hx hb hr (g_zr (by decide)) (fun t hh hW => ⟨_, rfl, hF.symm, hh⟩) (fun _ h => by cases h) d_P_isTrade_24
  ·
    have c1 : ¬ (am = 0) := c1
    have hF : f_P_isTrade σ dn am lim = f_P_isTrade_4_3 σ dn am lim := hF.trans (if_neg c1)
    have hQ : k_P_isTrade_4_3 σ dn am lim := Eq.mp (if_neg c1) hQ
    refine lv_iload_n hx hb d_P_isTrade_4 rfl (lv_at hl 2 rfl) ?_
    refine lv_ldc (v := (-1000000 : Int32)) hx hb hown (ht _ kw287) d_P_isTrade_5 ?_
    refine lv_icmp_lt (tgt := 23) hx hb d_P_isTrade_7 (by decide) (fun c4 => ?_) (fun c4 => ?_)
    ·
      have c4 : am < (-1000000 : Int32) := c4
      have hF : f_P_isTrade σ dn am lim = f_P_isTrade_23_5 σ dn am lim := hF.trans (if_pos c4)
      have hQ : k_P_isTrade_23_5 σ dn am lim := Eq.mp (if_pos c4) hQ
      refine lv_iconst (v := (0 : Int32)) hx hb d_P_isTrade_23 (by decide) ?_
      exact W.zret (ty := .boolean) (v := (0 : Int32)) hx hb hr (g_zr (by decide)) (fun t hh hW => ⟨_, rfl, hF.symm, hh⟩) (fun _ h => by cases h) d_P_isTrade_24
    ·
      have c4 : ¬ (am < (-1000000 : Int32)) := c4
      have hF : f_P_isTrade σ dn am lim = f_P_isTrade_10_6 σ dn am lim := hF.trans (if_neg c4)
      have hQ : k_P_isTrade_10_6 σ dn am lim := Eq.mp (if_neg c4) hQ
      refine lv_iload_n hx hb d_P_isTrade_10 rfl (lv_at hl 2 rfl) ?_
      refine lv_ldc (v := (1000000 : Int32)) hx hb hown (ht _ kw200) d_P_isTrade_11 ?_
      refine lv_icmp_gt (tgt := 23) hx hb d_P_isTrade_13 (by decide) (fun c7 => ?_) (fun c7 => ?_)
      ·
        have c7 : (1000000 : Int32) < am := c7
        have hF : f_P_isTrade σ dn am lim = f_P_isTrade_23_8 σ dn am lim := hF.trans (if_pos c7)
        have hQ : k_P_isTrade_23_8 σ dn am lim := Eq.mp (if_pos c7) hQ
        refine lv_iconst (v := (0 : Int32)) hx hb d_P_isTrade_23 (by decide) ?_
        exact W.zret (ty := .boolean) (v := (0 : Int32)) hx hb hr (g_zr (by decide)) (fun t hh hW => ⟨_, rfl, hF.symm, hh⟩) (fun _ h => by cases h) d_P_isTrade_24
      ·
        have c7 : ¬ ((1000000 : Int32) < am) := c7
        have hF : f_P_isTrade σ dn am lim = f_P_isTrade_16_9 σ dn am lim := hF.trans (if_neg c7)
        have hQ : k_P_isTrade_16_9 σ dn am lim := Eq.mp (if_neg c7) hQ
        refine lv_iload_n hx hb d_P_isTrade_16 rfl (lv_at hl 3 rfl) ?_
        refine g_cSi (va_runS (As := [.int lim]) (rest := []) ⟨hx, hb, hml, hown, ht⟩ (c_P_isStep l lim) (va_cwS 1 ht gc_P_56 rfl rfl rfl (by decide +kernel) ⟨Nat.le_of_ble_eq_true rfl, Nat.le_of_ble_eq_true rfl⟩) (g_pr0 _) rfl rfl hl.1 rfl (lv_room (Nat.le_of_ble_eq_true rfl)) d_P_isTrade_17 ⟨Nat.le_of_ble_eq_true rfl, Nat.le_of_ble_eq_true rfl⟩) (fun r10 e11 => ?_)
        have hF : f_P_isTrade σ dn am lim = f_P_isTrade_17_12 σ dn am lim r10 := hF.trans (by rw [e11]; try rfl)
        have hQ : k_P_isTrade_17_12 σ dn am lim r10 := by rw [e11]; exact hQ
        refine lv_if_ne (tgt := 25) hx hb d_P_isTrade_20 (by decide) (fun c13 => ?_) (fun c13 => ?_)
        ·
          have c13 : ¬ (r10 = 0) := c13
          have hF : f_P_isTrade σ dn am lim = f_P_isTrade_25_14 σ dn am lim r10 := hF.trans (if_neg c13)
          have hQ : k_P_isTrade_25_14 σ dn am lim r10 := Eq.mp (if_neg c13) hQ
          refine lv_iload_n hx hb d_P_isTrade_25 rfl (lv_at hl 1 rfl) ?_
          refine lv_if_eq (tgt := 48) hx hb d_P_isTrade_26 (by decide) (fun c15 => ?_) (fun c15 => ?_)
          ·
            have c15 : dn = 0 := c15
            have hF : f_P_isTrade σ dn am lim = f_P_isTrade_48_16 σ dn am lim r10 := hF.trans (if_pos c15)
            have hQ : k_P_isTrade_48_16 σ dn am lim r10 := Eq.mp (if_pos c15) hQ
            refine lv_iload_n hx hb d_P_isTrade_48 rfl (lv_at hl 3 rfl) ?_
            obtain ⟨hs17, hQ⟩ := hQ
            refine g_cSi (va_runS (As := [.int lim]) (rest := []) ⟨hx, hb, hml, hown, ht⟩ (c_P_priceOf l tb lim hs17) (va_cwS 1 ht gc_P_59 rfl rfl rfl (by decide +kernel) ⟨Nat.le_of_ble_eq_true rfl, Nat.le_of_ble_eq_true rfl⟩) (g_prZ x_Zok hS hz _) rfl rfl hl.1 rfl (lv_room (Nat.le_of_ble_eq_true rfl)) d_P_isTrade_49 ⟨Nat.le_of_ble_eq_true rfl, Nat.le_of_ble_eq_true rfl⟩) (fun r18 e19 => ?_)
            have hF : f_P_isTrade σ dn am lim = f_P_isTrade_49_20 σ dn am lim r10 r18 := hF.trans (by rw [e19]; try rfl)
            have hQ : k_P_isTrade_49_20 σ dn am lim r10 r18 := by rw [e19]; exact hQ
            refine lv_aload_n hx hb d_P_isTrade_52 rfl (lv_at hl 0 rfl) ?_
            refine g_get hx hb ht in_P hown hK hP (0) x_at0 rfl 8 (by decide) rfl (ht _ kw137) (fun _ h9 => h9) (v := .int (σ.1 0 8)) rfl d_P_isTrade_53 ?_
            refine lv_icmp_le (tgt := 63) hx hb d_P_isTrade_56 (by decide) (fun c21 => ?_) (fun c21 => ?_)
            ·
              have c21 : r18 ≤ (σ.1 0 8) := c21
              have hF : f_P_isTrade σ dn am lim = f_P_isTrade_63_22 σ dn am lim r10 r18 := hF.trans (if_pos c21)
              have hQ : k_P_isTrade_63_22 σ dn am lim r10 r18 := Eq.mp (if_pos c21) hQ
              refine lv_iconst (v := (0 : Int32)) hx hb d_P_isTrade_63 (by decide) ?_
              exact W.zret (ty := .boolean) (v := (0 : Int32)) hx hb hr (g_zr (by decide)) (fun t hh hW => ⟨_, rfl, hF.symm, hh⟩) (fun _ h => by cases h) d_P_isTrade_64
            ·
              have c21 : ¬ (r18 ≤ (σ.1 0 8)) := c21
              have hF : f_P_isTrade σ dn am lim = f_P_isTrade_59_23 σ dn am lim r10 r18 := hF.trans (if_neg c21)
              have hQ : k_P_isTrade_59_23 σ dn am lim r10 r18 := Eq.mp (if_neg c21) hQ
              refine lv_iconst (v := (1 : Int32)) hx hb d_P_isTrade_59 (by decide) ?_
              refine lv_goto (tgt := 64) hx hb d_P_isTrade_60 (by decide) ?_
              exact W.zret (ty := .boolean) (v := (1 : Int32)) hx hb hr (g_zr (by decide)) (fun t hh hW => ⟨_, rfl, hF.symm, hh⟩) (fun _ h => by cases h) d_P_isTrade_64
          ·
            have c15 : ¬ (dn = 0) := c15
            have hF : f_P_isTrade σ dn am lim = f_P_isTrade_29_24 σ dn am lim r10 := hF.trans (if_neg c15)
            have hQ : k_P_isTrade_29_24 σ dn am lim r10 := Eq.mp (if_neg c15) hQ
            refine lv_iload_n hx hb d_P_isTrade_29 rfl (lv_at hl 3 rfl) ?_
            obtain ⟨hs25, hQ⟩ := hQ
            refine g_cSi (va_runS (As := [.int lim]) (rest := []) ⟨hx, hb, hml, hown, ht⟩ (c_P_priceOf l tb lim hs25) (va_cwS 1 ht gc_P_59 rfl rfl rfl (by decide +kernel) ⟨Nat.le_of_ble_eq_true rfl, Nat.le_of_ble_eq_true rfl⟩) (g_prZ x_Zok hS hz _) rfl rfl hl.1 rfl (lv_room (Nat.le_of_ble_eq_true rfl)) d_P_isTrade_30 ⟨Nat.le_of_ble_eq_true rfl, Nat.le_of_ble_eq_true rfl⟩) (fun r26 e27 => ?_)
            have hF : f_P_isTrade σ dn am lim = f_P_isTrade_30_28 σ dn am lim r10 r26 := hF.trans (by rw [e27]; try rfl)
            have hQ : k_P_isTrade_30_28 σ dn am lim r10 r26 := by rw [e27]; exact hQ
            refine lv_aload_n hx hb d_P_isTrade_33 rfl (lv_at hl 0 rfl) ?_
            refine g_get hx hb ht in_P hown hK hP (0) x_at0 rfl 8 (by decide) rfl (ht _ kw137) (fun _ h9 => h9) (v := .int (σ.1 0 8)) rfl d_P_isTrade_34 ?_
            refine lv_icmp_ge (tgt := 44) hx hb d_P_isTrade_37 (by decide) (fun c29 => ?_) (fun c29 => ?_)
            ·
              have c29 : (σ.1 0 8) ≤ r26 := c29
              have hF : f_P_isTrade σ dn am lim = f_P_isTrade_44_30 σ dn am lim r10 r26 := hF.trans (if_pos c29)
              have hQ : k_P_isTrade_44_30 σ dn am lim r10 r26 := Eq.mp (if_pos c29) hQ
              refine lv_iconst (v := (0 : Int32)) hx hb d_P_isTrade_44 (by decide) ?_
              refine lv_goto (tgt := 64) hx hb d_P_isTrade_45 (by decide) ?_
              exact W.zret (ty := .boolean) (v := (0 : Int32)) hx hb hr (g_zr (by decide)) (fun t hh hW => ⟨_, rfl, hF.symm, hh⟩) (fun _ h => by cases h) d_P_isTrade_64
            ·
              have c29 : ¬ ((σ.1 0 8) ≤ r26) := c29
              have hF : f_P_isTrade σ dn am lim = f_P_isTrade_40_31 σ dn am lim r10 r26 := hF.trans (if_neg c29)
              have hQ : k_P_isTrade_40_31 σ dn am lim r10 r26 := Eq.mp (if_neg c29) hQ
              refine lv_iconst (v := (1 : Int32)) hx hb d_P_isTrade_40 (by decide) ?_
              refine lv_goto (tgt := 64) hx hb d_P_isTrade_41 (by decide) ?_
              exact W.zret (ty := .boolean) (v := (1 : Int32)) hx hb hr (g_zr (by decide)) (fun t hh hW => ⟨_, rfl, hF.symm, hh⟩) (fun _ h => by cases h) d_P_isTrade_64
        ·
          have c13 : r10 = 0 := c13
          have hF : f_P_isTrade σ dn am lim = f_P_isTrade_23_32 σ dn am lim r10 := hF.trans (if_pos c13)
          have hQ : k_P_isTrade_23_32 σ dn am lim r10 := Eq.mp (if_pos c13) hQ
          refine lv_iconst (v := (0 : Int32)) hx hb d_P_isTrade_23 (by decide) ?_
          exact W.zret (ty := .boolean) (v := (0 : Int32)) hx hb hr (g_zr (by decide)) (fun t hh hW => ⟨_, rfl, hF.symm, hh⟩) (fun _ h => by cases h) d_P_isTrade_24
def f_P_zeroOfRange_35_11 (σ : g_S) (lo : Int32) (hi : Int32) (w : Int64) (up : Int32) (x3 : Int32) (r9 : Int32) : Int64 := f_P_zeroBetween x3.toInt64 r9.toInt64 w up
def k_P_zeroOfRange_35_11 (σ : g_S) (lo : Int32) (hi : Int32) (w : Int64) (up : Int32) (x3 : Int32) (r9 : Int32) : Prop := (k_P_zeroBetween x3.toInt64 r9.toInt64 w up) ∧ True
def f_P_zeroOfRange_29_7 (σ : g_S) (lo : Int32) (hi : Int32) (w : Int64) (up : Int32) (x3 : Int32) : Int64 := (f_P_zeroOfRange_35_11 σ lo hi w up x3 (f_P_priceOf hi))
def k_P_zeroOfRange_29_7 (σ : g_S) (lo : Int32) (hi : Int32) (w : Int64) (up : Int32) (x3 : Int32) : Prop := (k_P_priceOf hi) ∧ (k_P_zeroOfRange_35_11 σ lo hi w up x3 (f_P_priceOf hi))
def f_P_zeroOfRange_10_2 (σ : g_S) (lo : Int32) (hi : Int32) (w : Int64) (up : Int32) : Int64 := (f_P_zeroOfRange_29_7 σ lo hi w up (if lo ≤ (σ.1 0 9) then σ.1 0 8 else f_P_priceOf lo))
def k_P_zeroOfRange_10_2 (σ : g_S) (lo : Int32) (hi : Int32) (w : Int64) (up : Int32) : Prop := (if lo ≤ (σ.1 0 9) then True else (k_P_priceOf lo) ∧ True) ∧ (k_P_zeroOfRange_29_7 σ lo hi w up (if lo ≤ (σ.1 0 9) then σ.1 0 8 else f_P_priceOf lo))
def f_P_zeroOfRange_8_19 (σ : g_S) (lo : Int32) (hi : Int32) (w : Int64) (up : Int32) : Int64 := (0 : Int64)
def k_P_zeroOfRange_8_19 (σ : g_S) (lo : Int32) (hi : Int32) (w : Int64) (up : Int32) : Prop := True
def f_P_zeroOfRange (σ : g_S) (lo : Int32) (hi : Int32) (w : Int64) (up : Int32) : Int64 := (if (σ.1 0 9) < hi then f_P_zeroOfRange_10_2 σ lo hi w up else f_P_zeroOfRange_8_19 σ lo hi w up)
def k_P_zeroOfRange (σ : g_S) (lo : Int32) (hi : Int32) (w : Int64) (up : Int32) : Prop := (if (σ.1 0 9) < hi then k_P_zeroOfRange_10_2 σ lo hi w up else k_P_zeroOfRange_8_19 σ lo hi w up)
set_option maxHeartbeats 4000000 in
set_option maxRecDepth 100000 in
theorem c_P_zeroOfRange (l : Launch) (dC : Nat → ClassId) (dI : Nat → Nat → Nat) (dA : Nat → ClassId) (ad : Nat → Nat) (tb : Nat) (σ : g_S) (lo : Int32) (hi : Int32) (w : Int64) (up : Int32) (hQ : k_P_zeroOfRange σ lo hi w up) : Met l y_P_zeroOfRange w_P_zeroOfRange ({ frames := 2, cells := 0, slots := 0, locals := 52 }) (va_Pc [.ref (ad 0), .int lo, .int hi, .long w, .int up] (g_R (dC, dI) cls (x_tys dA) (g_w x_sh dA ad σ) (x_Z tb))) (vp_Sl (fun r => r = f_P_zeroOfRange σ lo hi w up)) 0 0 (fun _ => False) := by
  refine Met.ofW (cc := b_P_zeroOfRange) (maxL := 7) (ret := (some .long)) (by decide) rfl ?_
  intro p e s m args below meth c s₁ B hml hv
  obtain ⟨rfl, hP, hK, hz⟩ := hv
  have hx := B.exec
  have hb := B.bytes
  have hr := B.returns
  have hts := atoms_spec (ws := w_P_zeroOfRange) B.pre
  have ht := fun (w : Cond) (h : w ∈ gA) => hts w (List.mem_cons_of_mem _ h)
  have hown : s.vm.findClass "RangedPool" = some m.cls := findClass_of_methodNamed B.named
  have hlocks := B.notSynchronized
  have hS : va_S (fun _ => False) s.heap s.heap [] := va_S.rf
  have hl := lv_entry ([.ref (ad 0), .int lo, .int hi, .long w, .int up]) (n := 7) (Nat.le_of_ble_eq_true rfl)
  rw [lg_entry_eq]
  generalize (lg_sl ([.ref (ad 0), .int lo, .int hi, .long w, .int up]) ++ List.replicate (7 - (lg_sl ([.ref (ad 0), .int lo, .int hi, .long w, .int up])).length) Slot.unset).toArray = ls at hl ⊢
  have hl : lv_has ls 7 [(0, .ref (ad 0)), (1, .int lo), (2, .int hi), (3, .long w), (5, .int up)] := hl
  have hF : f_P_zeroOfRange σ lo hi w up = f_P_zeroOfRange σ lo hi w up := rfl
  refine lv_aload_n hx hb d_P_zeroOfRange_0 rfl (lv_at hl 0 rfl) ?_
  refine g_get hx hb ht in_P hown hK hP (0) x_at0 rfl 9 (by decide) rfl (ht _ kw138) (fun _ h9 => h9) (v := .int (σ.1 0 9)) rfl d_P_zeroOfRange_1 ?_
  refine lv_iload_n hx hb d_P_zeroOfRange_4 rfl (lv_at hl 2 rfl) ?_
  refine lv_icmp_lt (tgt := 10) hx hb d_P_zeroOfRange_5 (by decide) (fun c1 => ?_) (fun c1 => ?_)
  ·
    have c1 : (σ.1 0 9) < hi := c1
    have hF : f_P_zeroOfRange σ lo hi w up = f_P_zeroOfRange_10_2 σ lo hi w up := hF.trans (if_pos c1)
    have hQ : k_P_zeroOfRange_10_2 σ lo hi w up := Eq.mp (if_pos c1) hQ
    refine lv_aload_n hx hb d_P_zeroOfRange_10 rfl (lv_at hl 0 rfl) ?_
    refine g_get hx hb ht in_P hown hK hP (0) x_at0 rfl 9 (by decide) rfl (ht _ kw138) (fun _ h9 => h9) (v := .int (σ.1 0 9)) rfl d_P_zeroOfRange_11 ?_
    refine lv_iload_n hx hb d_P_zeroOfRange_14 rfl (lv_at hl 1 rfl) ?_
    obtain ⟨hT6, hQ⟩ := hQ
    have J29_4 : ∀ (x3 : Int32) (ls : Array Slot), x3 = (if lo ≤ (σ.1 0 9) then σ.1 0 8 else f_P_priceOf lo) → lv_has ls 7 [(2, .int hi), (3, .long w), (5, .int up)] → W p l e (headSpec w_P_zeroOfRange ({ frames := 2, cells := 0, slots := 0, locals := 52 })).room s m ([.ref (ad 0), .int lo, .int hi, .long w, .int up] : List Value).toArray below meth c s.heap [] 0 0 (MQ below (vp_Sl (fun r => r = f_P_zeroOfRange σ lo hi w up)) ([.ref (ad 0), .int lo, .int hi, .long w, .int up] : List Value).toArray s 0 0 (fun _ => False)) (F0 m 29 ls [.int x3]) := by
      intro x3 ls e5 hl
      have hF : f_P_zeroOfRange σ lo hi w up = f_P_zeroOfRange_29_7 σ lo hi w up x3 := hF.trans (by rw [e5]; try rfl)
      have hQ : k_P_zeroOfRange_29_7 σ lo hi w up x3 := by rw [e5]; exact hQ
      refine lv_istore (lv' := [(6, .int x3), (2, .int hi), (3, .long w), (5, .int up)]) hx hb d_P_zeroOfRange_29 hl (by decide) rfl (fun ls hl => ?_)
      refine lv_iload hx hb d_P_zeroOfRange_31 (lv_at hl 0 rfl) ?_
      refine lv_i2l (v := x3.toInt64) hx hb d_P_zeroOfRange_33 rfl ?_
      refine lv_iload_n hx hb d_P_zeroOfRange_34 rfl (lv_at hl 1 rfl) ?_
      obtain ⟨hs8, hQ⟩ := hQ
      refine g_cSi (va_runS (As := [.int hi]) (rest := [.long x3.toInt64]) ⟨hx, hb, hml, hown, ht⟩ (c_P_priceOf l tb hi hs8) (va_cwS 1 ht gc_P_59 rfl rfl rfl (by decide +kernel) ⟨Nat.le_of_ble_eq_true rfl, Nat.le_of_ble_eq_true rfl⟩) (g_prZ x_Zok hS hz _) rfl rfl hl.1 rfl (lv_room (Nat.le_of_ble_eq_true rfl)) d_P_zeroOfRange_35 ⟨Nat.le_of_ble_eq_true rfl, Nat.le_of_ble_eq_true rfl⟩) (fun r9 e10 => ?_)
      have hF : f_P_zeroOfRange σ lo hi w up = f_P_zeroOfRange_35_11 σ lo hi w up x3 r9 := hF.trans (by rw [e10]; try rfl)
      have hQ : k_P_zeroOfRange_35_11 σ lo hi w up x3 r9 := by rw [e10]; exact hQ
      refine lv_i2l (v := r9.toInt64) hx hb d_P_zeroOfRange_38 rfl ?_
      refine lv_lload_n hx hb d_P_zeroOfRange_39 rfl (lv_at hl 2 rfl) ?_
      refine lv_iload hx hb d_P_zeroOfRange_40 (lv_at hl 3 rfl) ?_
      obtain ⟨hs12, hQ⟩ := hQ
      refine g_cSlE (va_runS (As := [.long x3.toInt64, .long r9.toInt64, .long w, .int up]) (rest := []) ⟨hx, hb, hml, hown, ht⟩ (c_P_zeroBetween l x3.toInt64 r9.toInt64 w up hs12) (va_cwS 4 ht gc_P_224 rfl rfl rfl (by decide +kernel) ⟨Nat.le_of_ble_eq_true rfl, Nat.le_of_ble_eq_true rfl⟩) (g_pr0 _) rfl rfl hl.1 rfl (lv_room (Nat.le_of_ble_eq_true rfl)) d_P_zeroOfRange_42 ⟨Nat.le_of_ble_eq_true rfl, Nat.le_of_ble_eq_true rfl⟩) ?_
      exact W.lret (v := f_P_zeroBetween x3.toInt64 r9.toInt64 w up) hx hb hr (fun t hh hW => ⟨_, rfl, hF.symm, hh⟩) (fun _ h => by cases h) d_P_zeroOfRange_45
    refine lv_icmp_ge (tgt := 25) hx hb d_P_zeroOfRange_15 (by decide) (fun c15 => ?_) (fun c15 => ?_)
    ·
      have c15 : lo ≤ (σ.1 0 9) := c15
      have hT6 := Eq.mp (if_pos c15) hT6
      refine lv_aload_n hx hb d_P_zeroOfRange_25 rfl (lv_at hl 0 rfl) ?_
      refine g_get hx hb ht in_P hown hK hP (0) x_at0 rfl 8 (by decide) rfl (ht _ kw137) (fun _ h9 => h9) (v := .int (σ.1 0 8)) rfl d_P_zeroOfRange_26 ?_
      exact J29_4 (σ.1 0 8) ls (if_pos c15).symm (lv_sub hl [2, 3, 4] rfl)
    ·
      have c15 : ¬ (lo ≤ (σ.1 0 9)) := c15
      have hT6 := Eq.mp (if_neg c15) hT6
      refine lv_iload_n hx hb d_P_zeroOfRange_18 rfl (lv_at hl 1 rfl) ?_
      obtain ⟨hs16, hT6⟩ := hT6
      refine g_cSiE (va_runS (As := [.int lo]) (rest := []) ⟨hx, hb, hml, hown, ht⟩ (c_P_priceOf l tb lo hs16) (va_cwS 1 ht gc_P_59 rfl rfl rfl (by decide +kernel) ⟨Nat.le_of_ble_eq_true rfl, Nat.le_of_ble_eq_true rfl⟩) (g_prZ x_Zok hS hz _) rfl rfl hl.1 rfl (lv_room (Nat.le_of_ble_eq_true rfl)) d_P_zeroOfRange_19 ⟨Nat.le_of_ble_eq_true rfl, Nat.le_of_ble_eq_true rfl⟩) ?_
      refine lv_goto (tgt := 29) hx hb d_P_zeroOfRange_22 (by decide) ?_
      exact J29_4 (f_P_priceOf lo) ls (if_neg c15).symm (lv_sub hl [2, 3, 4] rfl)
  ·
    have c1 : ¬ ((σ.1 0 9) < hi) := c1
    have hF : f_P_zeroOfRange σ lo hi w up = f_P_zeroOfRange_8_19 σ lo hi w up := hF.trans (if_neg c1)
    have hQ : k_P_zeroOfRange_8_19 σ lo hi w up := Eq.mp (if_neg c1) hQ
    refine lv_lconst (v := (0 : Int64)) hx hb d_P_zeroOfRange_8 (by decide) ?_
    exact W.lret (v := (0 : Int64)) hx hb hr (fun t hh hW => ⟨_, rfl, hF.symm, hh⟩) (fun _ h => by cases h) d_P_zeroOfRange_9
def f_P_oneOfRange_32_11 (σ : g_S) (lo : Int32) (hi : Int32) (w : Int64) (up : Int32) (x3 : Int32) (r9 : Int32) : Int64 := f_P_oneBetween r9.toInt64 x3.toInt64 w up
def k_P_oneOfRange_32_11 (σ : g_S) (lo : Int32) (hi : Int32) (w : Int64) (up : Int32) (x3 : Int32) (r9 : Int32) : Prop := (k_P_oneBetween r9.toInt64 x3.toInt64 w up) ∧ True
def f_P_oneOfRange_29_7 (σ : g_S) (lo : Int32) (hi : Int32) (w : Int64) (up : Int32) (x3 : Int32) : Int64 := (f_P_oneOfRange_32_11 σ lo hi w up x3 (f_P_priceOf lo))
def k_P_oneOfRange_29_7 (σ : g_S) (lo : Int32) (hi : Int32) (w : Int64) (up : Int32) (x3 : Int32) : Prop := (k_P_priceOf lo) ∧ (k_P_oneOfRange_32_11 σ lo hi w up x3 (f_P_priceOf lo))
def f_P_oneOfRange_10_2 (σ : g_S) (lo : Int32) (hi : Int32) (w : Int64) (up : Int32) : Int64 := (f_P_oneOfRange_29_7 σ lo hi w up (if (σ.1 0 9) < hi then σ.1 0 8 else f_P_priceOf hi))
def k_P_oneOfRange_10_2 (σ : g_S) (lo : Int32) (hi : Int32) (w : Int64) (up : Int32) : Prop := (if (σ.1 0 9) < hi then True else (k_P_priceOf hi) ∧ True) ∧ (k_P_oneOfRange_29_7 σ lo hi w up (if (σ.1 0 9) < hi then σ.1 0 8 else f_P_priceOf hi))
def f_P_oneOfRange_8_19 (σ : g_S) (lo : Int32) (hi : Int32) (w : Int64) (up : Int32) : Int64 := (0 : Int64)
def k_P_oneOfRange_8_19 (σ : g_S) (lo : Int32) (hi : Int32) (w : Int64) (up : Int32) : Prop := True
def f_P_oneOfRange (σ : g_S) (lo : Int32) (hi : Int32) (w : Int64) (up : Int32) : Int64 := (if lo ≤ (σ.1 0 9) then f_P_oneOfRange_10_2 σ lo hi w up else f_P_oneOfRange_8_19 σ lo hi w up)
def k_P_oneOfRange (σ : g_S) (lo : Int32) (hi : Int32) (w : Int64) (up : Int32) : Prop := (if lo ≤ (σ.1 0 9) then k_P_oneOfRange_10_2 σ lo hi w up else k_P_oneOfRange_8_19 σ lo hi w up)
set_option maxHeartbeats 4000000 in
set_option maxRecDepth 100000 in
theorem c_P_oneOfRange (l : Launch) (dC : Nat → ClassId) (dI : Nat → Nat → Nat) (dA : Nat → ClassId) (ad : Nat → Nat) (tb : Nat) (σ : g_S) (lo : Int32) (hi : Int32) (w : Int64) (up : Int32) (hQ : k_P_oneOfRange σ lo hi w up) : Met l y_P_oneOfRange w_P_oneOfRange ({ frames := 2, cells := 0, slots := 0, locals := 52 }) (va_Pc [.ref (ad 0), .int lo, .int hi, .long w, .int up] (g_R (dC, dI) cls (x_tys dA) (g_w x_sh dA ad σ) (x_Z tb))) (vp_Sl (fun r => r = f_P_oneOfRange σ lo hi w up)) 0 0 (fun _ => False) := by
  refine Met.ofW (cc := b_P_oneOfRange) (maxL := 7) (ret := (some .long)) (by decide) rfl ?_
  intro p e s m args below meth c s₁ B hml hv
  obtain ⟨rfl, hP, hK, hz⟩ := hv
  have hx := B.exec
  have hb := B.bytes
  have hr := B.returns
  have hts := atoms_spec (ws := w_P_oneOfRange) B.pre
  have ht := fun (w : Cond) (h : w ∈ gA) => hts w (List.mem_cons_of_mem _ h)
  have hown : s.vm.findClass "RangedPool" = some m.cls := findClass_of_methodNamed B.named
  have hlocks := B.notSynchronized
  have hS : va_S (fun _ => False) s.heap s.heap [] := va_S.rf
  have hl := lv_entry ([.ref (ad 0), .int lo, .int hi, .long w, .int up]) (n := 7) (Nat.le_of_ble_eq_true rfl)
  rw [lg_entry_eq]
  generalize (lg_sl ([.ref (ad 0), .int lo, .int hi, .long w, .int up]) ++ List.replicate (7 - (lg_sl ([.ref (ad 0), .int lo, .int hi, .long w, .int up])).length) Slot.unset).toArray = ls at hl ⊢
  have hl : lv_has ls 7 [(0, .ref (ad 0)), (1, .int lo), (2, .int hi), (3, .long w), (5, .int up)] := hl
  have hF : f_P_oneOfRange σ lo hi w up = f_P_oneOfRange σ lo hi w up := rfl
  refine lv_aload_n hx hb d_P_oneOfRange_0 rfl (lv_at hl 0 rfl) ?_
  refine g_get hx hb ht in_P hown hK hP (0) x_at0 rfl 9 (by decide) rfl (ht _ kw138) (fun _ h9 => h9) (v := .int (σ.1 0 9)) rfl d_P_oneOfRange_1 ?_
  refine lv_iload_n hx hb d_P_oneOfRange_4 rfl (lv_at hl 1 rfl) ?_
  refine lv_icmp_ge (tgt := 10) hx hb d_P_oneOfRange_5 (by decide) (fun c1 => ?_) (fun c1 => ?_)
  ·
    have c1 : lo ≤ (σ.1 0 9) := c1
    have hF : f_P_oneOfRange σ lo hi w up = f_P_oneOfRange_10_2 σ lo hi w up := hF.trans (if_pos c1)
    have hQ : k_P_oneOfRange_10_2 σ lo hi w up := Eq.mp (if_pos c1) hQ
    refine lv_aload_n hx hb d_P_oneOfRange_10 rfl (lv_at hl 0 rfl) ?_
    refine g_get hx hb ht in_P hown hK hP (0) x_at0 rfl 9 (by decide) rfl (ht _ kw138) (fun _ h9 => h9) (v := .int (σ.1 0 9)) rfl d_P_oneOfRange_11 ?_
    refine lv_iload_n hx hb d_P_oneOfRange_14 rfl (lv_at hl 2 rfl) ?_
    obtain ⟨hT6, hQ⟩ := hQ
    have J29_4 : ∀ (x3 : Int32) (ls : Array Slot), x3 = (if (σ.1 0 9) < hi then σ.1 0 8 else f_P_priceOf hi) → lv_has ls 7 [(1, .int lo), (3, .long w), (5, .int up)] → W p l e (headSpec w_P_oneOfRange ({ frames := 2, cells := 0, slots := 0, locals := 52 })).room s m ([.ref (ad 0), .int lo, .int hi, .long w, .int up] : List Value).toArray below meth c s.heap [] 0 0 (MQ below (vp_Sl (fun r => r = f_P_oneOfRange σ lo hi w up)) ([.ref (ad 0), .int lo, .int hi, .long w, .int up] : List Value).toArray s 0 0 (fun _ => False)) (F0 m 29 ls [.int x3]) := by
      intro x3 ls e5 hl
      have hF : f_P_oneOfRange σ lo hi w up = f_P_oneOfRange_29_7 σ lo hi w up x3 := hF.trans (by rw [e5]; try rfl)
      have hQ : k_P_oneOfRange_29_7 σ lo hi w up x3 := by rw [e5]; exact hQ
      refine lv_istore (lv' := [(6, .int x3), (1, .int lo), (3, .long w), (5, .int up)]) hx hb d_P_oneOfRange_29 hl (by decide) rfl (fun ls hl => ?_)
      refine lv_iload_n hx hb d_P_oneOfRange_31 rfl (lv_at hl 1 rfl) ?_
      obtain ⟨hs8, hQ⟩ := hQ
      refine g_cSi (va_runS (As := [.int lo]) (rest := []) ⟨hx, hb, hml, hown, ht⟩ (c_P_priceOf l tb lo hs8) (va_cwS 1 ht gc_P_59 rfl rfl rfl (by decide +kernel) ⟨Nat.le_of_ble_eq_true rfl, Nat.le_of_ble_eq_true rfl⟩) (g_prZ x_Zok hS hz _) rfl rfl hl.1 rfl (lv_room (Nat.le_of_ble_eq_true rfl)) d_P_oneOfRange_32 ⟨Nat.le_of_ble_eq_true rfl, Nat.le_of_ble_eq_true rfl⟩) (fun r9 e10 => ?_)
      have hF : f_P_oneOfRange σ lo hi w up = f_P_oneOfRange_32_11 σ lo hi w up x3 r9 := hF.trans (by rw [e10]; try rfl)
      have hQ : k_P_oneOfRange_32_11 σ lo hi w up x3 r9 := by rw [e10]; exact hQ
      refine lv_i2l (v := r9.toInt64) hx hb d_P_oneOfRange_35 rfl ?_
      refine lv_iload hx hb d_P_oneOfRange_36 (lv_at hl 0 rfl) ?_
      refine lv_i2l (v := x3.toInt64) hx hb d_P_oneOfRange_38 rfl ?_
      refine lv_lload_n hx hb d_P_oneOfRange_39 rfl (lv_at hl 2 rfl) ?_
      refine lv_iload hx hb d_P_oneOfRange_40 (lv_at hl 3 rfl) ?_
      obtain ⟨hs12, hQ⟩ := hQ
      refine g_cSlE (va_runS (As := [.long r9.toInt64, .long x3.toInt64, .long w, .int up]) (rest := []) ⟨hx, hb, hml, hown, ht⟩ (c_P_oneBetween l r9.toInt64 x3.toInt64 w up hs12) (va_cwS 4 ht gc_P_228 rfl rfl rfl (by decide +kernel) ⟨Nat.le_of_ble_eq_true rfl, Nat.le_of_ble_eq_true rfl⟩) (g_pr0 _) rfl rfl hl.1 rfl (lv_room (Nat.le_of_ble_eq_true rfl)) d_P_oneOfRange_42 ⟨Nat.le_of_ble_eq_true rfl, Nat.le_of_ble_eq_true rfl⟩) ?_
      exact W.lret (v := f_P_oneBetween r9.toInt64 x3.toInt64 w up) hx hb hr (fun t hh hW => ⟨_, rfl, hF.symm, hh⟩) (fun _ h => by cases h) d_P_oneOfRange_45
    refine lv_icmp_lt (tgt := 25) hx hb d_P_oneOfRange_15 (by decide) (fun c15 => ?_) (fun c15 => ?_)
    ·
      have c15 : (σ.1 0 9) < hi := c15
      have hT6 := Eq.mp (if_pos c15) hT6
      refine lv_aload_n hx hb d_P_oneOfRange_25 rfl (lv_at hl 0 rfl) ?_
      refine g_get hx hb ht in_P hown hK hP (0) x_at0 rfl 8 (by decide) rfl (ht _ kw137) (fun _ h9 => h9) (v := .int (σ.1 0 8)) rfl d_P_oneOfRange_26 ?_
      exact J29_4 (σ.1 0 8) ls (if_pos c15).symm (lv_sub hl [1, 3, 4] rfl)
    ·
      have c15 : ¬ ((σ.1 0 9) < hi) := c15
      have hT6 := Eq.mp (if_neg c15) hT6
      refine lv_iload_n hx hb d_P_oneOfRange_18 rfl (lv_at hl 2 rfl) ?_
      obtain ⟨hs16, hT6⟩ := hT6
      refine g_cSiE (va_runS (As := [.int hi]) (rest := []) ⟨hx, hb, hml, hown, ht⟩ (c_P_priceOf l tb hi hs16) (va_cwS 1 ht gc_P_59 rfl rfl rfl (by decide +kernel) ⟨Nat.le_of_ble_eq_true rfl, Nat.le_of_ble_eq_true rfl⟩) (g_prZ x_Zok hS hz _) rfl rfl hl.1 rfl (lv_room (Nat.le_of_ble_eq_true rfl)) d_P_oneOfRange_19 ⟨Nat.le_of_ble_eq_true rfl, Nat.le_of_ble_eq_true rfl⟩) ?_
      refine lv_goto (tgt := 29) hx hb d_P_oneOfRange_22 (by decide) ?_
      exact J29_4 (f_P_priceOf hi) ls (if_neg c15).symm (lv_sub hl [1, 3, 4] rfl)
  ·
    have c1 : ¬ (lo ≤ (σ.1 0 9)) := c1
    have hF : f_P_oneOfRange σ lo hi w up = f_P_oneOfRange_8_19 σ lo hi w up := hF.trans (if_neg c1)
    have hQ : k_P_oneOfRange_8_19 σ lo hi w up := Eq.mp (if_neg c1) hQ
    refine lv_lconst (v := (0 : Int64)) hx hb d_P_oneOfRange_8 (by decide) ?_
    exact W.lret (v := (0 : Int64)) hx hb hr (fun t hh hW => ⟨_, rfl, hF.symm, hh⟩) (fun _ h => by cases h) d_P_oneOfRange_9
def f_H_reaches_22_2 (σ : g_S) (tm : Int64) : Int32 := (0 : Int32)
def f_H_reaches_22_5 (σ : g_S) (tm : Int64) : Int32 := (0 : Int32)
def f_H_reaches_18_6 (σ : g_S) (tm : Int64) : Int32 := (1 : Int32)
def f_H_reaches_7_3 (σ : g_S) (tm : Int64) : Int32 := (if tm < (σ.2 6 0) then f_H_reaches_22_5 σ tm else f_H_reaches_18_6 σ tm)
def f_H_reaches (σ : g_S) (tm : Int64) : Int32 := (if (σ.1 5 2) ≤ 0 then f_H_reaches_22_2 σ tm else f_H_reaches_7_3 σ tm)
set_option maxHeartbeats 4000000 in
set_option maxRecDepth 100000 in
theorem c_H_reaches (l : Launch) (dC : Nat → ClassId) (dI : Nat → Nat → Nat) (dA : Nat → ClassId) (ad : Nat → Nat) (tb : Nat) (σ : g_S) (tm : Int64) : Met l y_H_reaches w_H_reaches ({ frames := 0, cells := 0, slots := 0, locals := 0 }) (va_Pc [.ref (ad 5), .long tm] (g_R (dC, dI) cls (x_tys dA) (g_w x_sh dA ad σ) (x_Z tb))) (vp_Si (fun r => r = f_H_reaches σ tm)) 0 0 (fun _ => False) := by
  refine Met.ofW (cc := b_H_reaches) (maxL := 3) (ret := (some .boolean)) (by decide) rfl ?_
  intro p e s m args below meth c s₁ B hml hv
  obtain ⟨rfl, hP, hK, hz⟩ := hv
  have hx := B.exec
  have hb := B.bytes
  have hr := B.returns
  have hts := atoms_spec (ws := w_H_reaches) B.pre
  have ht := fun (w : Cond) (h : w ∈ gA) => hts w (List.mem_cons_of_mem _ h)
  have hown : s.vm.findClass "RangedPool$History" = some m.cls := findClass_of_methodNamed B.named
  have hlocks := B.notSynchronized
  have hS : va_S (fun _ => False) s.heap s.heap [] := va_S.rf
  have hl := lv_entry ([.ref (ad 5), .long tm]) (n := 3) (Nat.le_of_ble_eq_true rfl)
  rw [lg_entry_eq]
  generalize (lg_sl ([.ref (ad 5), .long tm]) ++ List.replicate (3 - (lg_sl ([.ref (ad 5), .long tm])).length) Slot.unset).toArray = ls at hl ⊢
  have hl : lv_has ls 3 [(0, .ref (ad 5)), (1, .long tm)] := hl
  have hF : f_H_reaches σ tm = f_H_reaches σ tm := rfl
  refine lv_aload_n hx hb d_H_reaches_0 rfl (lv_at hl 0 rfl) ?_
  refine g_get hx hb ht in_H hown hK hP (5) x_at5 rfl 2 (by decide) rfl (ht _ kw73) (fun _ h9 => h9) (v := .int (σ.1 5 2)) rfl d_H_reaches_1 ?_
  refine lv_if_le (tgt := 22) hx hb d_H_reaches_4 (by decide) (fun c1 => ?_) (fun c1 => ?_)
  ·
    have c1 : (σ.1 5 2) ≤ 0 := c1
    have hF : f_H_reaches σ tm = f_H_reaches_22_2 σ tm := hF.trans (if_pos c1)
    refine lv_iconst (v := (0 : Int32)) hx hb d_H_reaches_22 (by decide) ?_
    exact W.zret (ty := .boolean) (v := (0 : Int32)) hx hb hr (g_zr (by decide)) (fun t hh hW => ⟨_, rfl, hF.symm, hh⟩) (fun _ h => by cases h) d_H_reaches_23
  ·
    have c1 : ¬ ((σ.1 5 2) ≤ 0) := c1
    have hF : f_H_reaches σ tm = f_H_reaches_7_3 σ tm := hF.trans (if_neg c1)
    refine lv_lload_n hx hb d_H_reaches_7 rfl (lv_at hl 1 rfl) ?_
    refine lv_aload_n hx hb d_H_reaches_8 rfl (lv_at hl 0 rfl) ?_
    refine g_get hx hb ht in_H hown hK hP (5) x_at5 rfl 3 (by decide) rfl (ht _ kw74) (fun _ h9 => h9) (v := .ref (ad 6)) rfl d_H_reaches_9 ?_
    refine lv_iconst (v := (0 : Int32)) hx hb d_H_reaches_12 (by decide) ?_
    refine g_lald hx hb hK hP (6) x_at6 rfl (by unfold vp_in; decide) (j := 0) (by decide) d_H_reaches_13 ?_
    refine W.lcmp hx hb d_H_reaches_14 ?_
    refine lv_if_lt (tgt := 22) hx hb d_H_reaches_15 (by decide) (fun c4 => ?_) (fun c4 => ?_)
    ·
      have c4 : tm < (σ.2 6 0) := (lg_cmp_lt _ _).mp c4
      have hF : f_H_reaches σ tm = f_H_reaches_22_5 σ tm := hF.trans (if_pos c4)
      refine lv_iconst (v := (0 : Int32)) hx hb d_H_reaches_22 (by decide) ?_
      exact W.zret (ty := .boolean) (v := (0 : Int32)) hx hb hr (g_zr (by decide)) (fun t hh hW => ⟨_, rfl, hF.symm, hh⟩) (fun _ h => by cases h) d_H_reaches_23
    ·
      have c4 : ¬ (tm < (σ.2 6 0)) := mt (lg_cmp_lt _ _).mpr c4
      have hF : f_H_reaches σ tm = f_H_reaches_18_6 σ tm := hF.trans (if_neg c4)
      refine lv_iconst (v := (1 : Int32)) hx hb d_H_reaches_18 (by decide) ?_
      refine lv_goto (tgt := 23) hx hb d_H_reaches_19 (by decide) ?_
      exact W.zret (ty := .boolean) (v := (1 : Int32)) hx hb hr (g_zr (by decide)) (fun t hh hW => ⟨_, rfl, hF.symm, hh⟩) (fun _ h => by cases h) d_H_reaches_23
def f_H_sumAt_73_12 (σ : g_S) (tm : Int64) (now : Int32) (b5 : Int32) (b6 : Int64) (b7 : Int64) : Int64 := b6 - (b5.toInt64 * (b7 - tm))
def k_H_sumAt_73_12 (σ : g_S) (tm : Int64) (now : Int32) (b5 : Int32) (b6 : Int64) (b7 : Int64) : Prop := True
def f_H_sumAt_L23 (σ : g_S) (tm : Int64) (now : Int32) : Nat → Int32 → Int64 → Int64 → Int32 × Int64 × Int64
  | 0, a1, a2, a3 => (a1, a2, a3)
  | jn + 1, a1, a2, a3 => (if (σ.2 6 jn) ≤ tm then (a1, a2, a3) else f_H_sumAt_L23 σ tm now jn (σ.1 8 jn) (σ.2 7 jn) (σ.2 6 jn))
def f_H_sumAt (σ : g_S) (tm : Int64) (now : Int32) : Int64 := (f_H_sumAt_73_12 σ tm now ((f_H_sumAt_L23 σ tm now ((σ.1 5 2).toNatClampNeg) now (σ.2 5 1) (σ.2 5 0)).1) ((f_H_sumAt_L23 σ tm now ((σ.1 5 2).toNatClampNeg) now (σ.2 5 1) (σ.2 5 0)).2.1) ((f_H_sumAt_L23 σ tm now ((σ.1 5 2).toNatClampNeg) now (σ.2 5 1) (σ.2 5 0)).2.2))
def k_H_sumAt (σ : g_S) (tm : Int64) (now : Int32) : Prop := (Int32.ofNat (σ.1 5 2).toNatClampNeg + (-1 : Int32) = σ.1 5 2 - (1 : Int32) ∧ (σ.1 5 2).toNatClampNeg ≤ 8) ∧ (k_H_sumAt_73_12 σ tm now ((f_H_sumAt_L23 σ tm now ((σ.1 5 2).toNatClampNeg) now (σ.2 5 1) (σ.2 5 0)).1) ((f_H_sumAt_L23 σ tm now ((σ.1 5 2).toNatClampNeg) now (σ.2 5 1) (σ.2 5 0)).2.1) ((f_H_sumAt_L23 σ tm now ((σ.1 5 2).toNatClampNeg) now (σ.2 5 1) (σ.2 5 0)).2.2))
set_option maxHeartbeats 4000000 in
set_option maxRecDepth 100000 in
theorem c_H_sumAt (l : Launch) (dC : Nat → ClassId) (dI : Nat → Nat → Nat) (dA : Nat → ClassId) (ad : Nat → Nat) (tb : Nat) (σ : g_S) (tm : Int64) (now : Int32) (hQ : k_H_sumAt σ tm now) : Met l y_H_sumAt w_H_sumAt ({ frames := 0, cells := 0, slots := 0, locals := 0 }) (va_Pc [.ref (ad 5), .long tm, .int now] (g_R (dC, dI) cls (x_tys dA) (g_w x_sh dA ad σ) (x_Z tb))) (vp_Sl (fun r => r = f_H_sumAt σ tm now)) 0 0 (fun _ => False) := by
  refine Met.ofW (cc := b_H_sumAt) (maxL := 10) (ret := (some .long)) (by decide) rfl ?_
  intro p e s m args below meth c s₁ B hml hv
  obtain ⟨rfl, hP, hK, hz⟩ := hv
  have hx := B.exec
  have hb := B.bytes
  have hr := B.returns
  have hts := atoms_spec (ws := w_H_sumAt) B.pre
  have ht := fun (w : Cond) (h : w ∈ gA) => hts w (List.mem_cons_of_mem _ h)
  have hown : s.vm.findClass "RangedPool$History" = some m.cls := findClass_of_methodNamed B.named
  have hlocks := B.notSynchronized
  have hS : va_S (fun _ => False) s.heap s.heap [] := va_S.rf
  have hl := lv_entry ([.ref (ad 5), .long tm, .int now]) (n := 10) (Nat.le_of_ble_eq_true rfl)
  rw [lg_entry_eq]
  generalize (lg_sl ([.ref (ad 5), .long tm, .int now]) ++ List.replicate (10 - (lg_sl ([.ref (ad 5), .long tm, .int now])).length) Slot.unset).toArray = ls at hl ⊢
  have hl : lv_has ls 10 [(0, .ref (ad 5)), (1, .long tm), (3, .int now)] := hl
  have hF : f_H_sumAt σ tm now = f_H_sumAt σ tm now := rfl
  refine lv_aload_n hx hb d_H_sumAt_0 rfl (lv_at hl 0 rfl) ?_
  refine g_get hx hb ht in_H hown hK hP (5) x_at5 rfl 0 (by decide) rfl (ht _ kw70) (fun _ h9 => h9) (v := .long (σ.2 5 0)) rfl d_H_sumAt_1 ?_
  refine lv_lstore (lv' := [(4, .long (σ.2 5 0)), (0, .ref (ad 5)), (1, .long tm), (3, .int now)]) hx hb d_H_sumAt_4 hl (by decide) rfl (fun ls hl => ?_)
  refine lv_aload_n hx hb d_H_sumAt_6 rfl (lv_at hl 1 rfl) ?_
  refine g_get hx hb ht in_H hown hK hP (5) x_at5 rfl 1 (by decide) rfl (ht _ kw72) (fun _ h9 => h9) (v := .long (σ.2 5 1)) rfl d_H_sumAt_7 ?_
  refine lv_lstore (lv' := [(6, .long (σ.2 5 1)), (4, .long (σ.2 5 0)), (0, .ref (ad 5)), (1, .long tm), (3, .int now)]) hx hb d_H_sumAt_10 hl (by decide) rfl (fun ls hl => ?_)
  refine lv_iload_n hx hb d_H_sumAt_12 rfl (lv_at hl 4 rfl) ?_
  refine lv_istore (lv' := [(8, .int now), (6, .long (σ.2 5 1)), (4, .long (σ.2 5 0)), (0, .ref (ad 5)), (1, .long tm), (3, .int now)]) hx hb d_H_sumAt_13 hl (by decide) rfl (fun ls hl => ?_)
  refine lv_aload_n hx hb d_H_sumAt_15 rfl (lv_at hl 3 rfl) ?_
  refine g_get hx hb ht in_H hown hK hP (5) x_at5 rfl 2 (by decide) rfl (ht _ kw73) (fun _ h9 => h9) (v := .int (σ.1 5 2)) rfl d_H_sumAt_16 ?_
  refine lv_iconst (v := (1 : Int32)) hx hb d_H_sumAt_19 (by decide) ?_
  refine lv_isub hx hb d_H_sumAt_20 ?_
  refine lv_istore (lv' := [(9, .int ((σ.1 5 2) - (1 : Int32))), (8, .int now), (6, .long (σ.2 5 1)), (4, .long (σ.2 5 0)), (0, .ref (ad 5)), (1, .long tm), (3, .int now)]) hx hb d_H_sumAt_21 hl (by decide) rfl (fun ls hl => ?_)
  obtain ⟨hs4, hQ⟩ := hQ
  have hen := hs4
  rw [← hen.1] at hl
  have J73_8 : ∀ (b5 : Int32) (b6 : Int64) (b7 : Int64) (ls : Array Slot), b5 = (f_H_sumAt_L23 σ tm now ((σ.1 5 2).toNatClampNeg) now (σ.2 5 1) (σ.2 5 0)).1 → b6 = (f_H_sumAt_L23 σ tm now ((σ.1 5 2).toNatClampNeg) now (σ.2 5 1) (σ.2 5 0)).2.1 → b7 = (f_H_sumAt_L23 σ tm now ((σ.1 5 2).toNatClampNeg) now (σ.2 5 1) (σ.2 5 0)).2.2 → lv_has ls 10 [(8, .int b5), (6, .long b6), (4, .long b7), (1, .long tm)] → W p l e (headSpec w_H_sumAt ({ frames := 0, cells := 0, slots := 0, locals := 0 })).room s m ([.ref (ad 5), .long tm, .int now] : List Value).toArray below meth c s.heap [] 0 0 (MQ below (vp_Sl (fun r => r = f_H_sumAt σ tm now)) ([.ref (ad 5), .long tm, .int now] : List Value).toArray s 0 0 (fun _ => False)) (F0 m 73 ls []) := by
    intro b5 b6 b7 ls e9 e10 e11 hl
    have hF : f_H_sumAt σ tm now = f_H_sumAt_73_12 σ tm now b5 b6 b7 := hF.trans (by rw [e9, e10, e11]; try rfl)
    have hQ : k_H_sumAt_73_12 σ tm now b5 b6 b7 := by rw [e9, e10, e11]; exact hQ
    refine lv_lload hx hb d_H_sumAt_73 (lv_at hl 1 rfl) ?_
    refine lv_iload hx hb d_H_sumAt_75 (lv_at hl 0 rfl) ?_
    refine lv_i2l (v := b5.toInt64) hx hb d_H_sumAt_77 rfl ?_
    refine lv_lload hx hb d_H_sumAt_78 (lv_at hl 2 rfl) ?_
    refine lv_lload_n hx hb d_H_sumAt_80 rfl (lv_at hl 3 rfl) ?_
    refine lv_lsub hx hb d_H_sumAt_81 ?_
    refine lv_lmul hx hb d_H_sumAt_82 ?_
    refine lv_lsub hx hb d_H_sumAt_83 ?_
    exact W.lret (v := b6 - (b5.toInt64 * (b7 - tm))) hx hb hr (fun t hh hW => ⟨_, rfl, hF.symm, hh⟩) (fun _ h => by cases h) d_H_sumAt_84
  have LL23_13 : ∀ (jn : Nat) (a1 : Int32) (a2 : Int64) (a3 : Int64) (ls : Array Slot), jn ≤ (σ.1 5 2).toNatClampNeg → f_H_sumAt_L23 σ tm now ((σ.1 5 2).toNatClampNeg) now (σ.2 5 1) (σ.2 5 0) = f_H_sumAt_L23 σ tm now jn a1 a2 a3 → lv_has ls 10 [(9, .int (Int32.ofNat jn + (-1 : Int32))), (8, .int a1), (6, .long a2), (4, .long a3), (0, .ref (ad 5)), (1, .long tm)] → W p l e (headSpec w_H_sumAt ({ frames := 0, cells := 0, slots := 0, locals := 0 })).room s m ([.ref (ad 5), .long tm, .int now] : List Value).toArray below meth c s.heap [] 0 0 (MQ below (vp_Sl (fun r => r = f_H_sumAt σ tm now)) ([.ref (ad 5), .long tm, .int now] : List Value).toArray s 0 0 (fun _ => False)) (F0 m 23 ls []) := by
    intro jn
    induction jn with
    | zero =>
      intro a1 a2 a3 ls hkn hF hl
      have hF : f_H_sumAt_L23 σ tm now ((σ.1 5 2).toNatClampNeg) now (σ.2 5 1) (σ.2 5 0) = (a1, a2, a3) := hF
      skip
      refine lv_iload hx hb d_H_sumAt_23 (lv_at hl 0 rfl) ?_
      refine lv_if_lt (tgt := 73) hx hb d_H_sumAt_25 (by decide) (fun _ => ?_) (fun c14 => absurd (by decide) c14)
      exact J73_8 a1 a2 a3 ls (congrArg (fun z => z.1) hF).symm (congrArg (fun z => z.2.1) hF).symm (congrArg (fun z => z.2.2) hF).symm (lv_sub hl [1, 2, 3, 5] rfl)
    | succ jn ih =>
      intro a1 a2 a3 ls hkn hF hl
      have hen2 := hen.2
      have hF : f_H_sumAt_L23 σ tm now ((σ.1 5 2).toNatClampNeg) now (σ.2 5 1) (σ.2 5 0) = (if (σ.2 6 jn) ≤ tm then (a1, a2, a3) else f_H_sumAt_L23 σ tm now jn (σ.1 8 jn) (σ.2 7 jn) (σ.2 6 jn)) := hF
      skip
      rw [g_dn] at hl
      refine lv_iload hx hb d_H_sumAt_23 (lv_at hl 0 rfl) ?_
      refine lv_if_lt (tgt := 73) hx hb d_H_sumAt_25 (by decide) (fun c15 => absurd c15 (g_nneg (by omega))) (fun _ => ?_)
      refine lv_aload_n hx hb d_H_sumAt_28 rfl (lv_at hl 4 rfl) ?_
      refine g_get hx hb ht in_H hown hK hP (5) x_at5 rfl 3 (by decide) rfl (ht _ kw74) (fun _ h9 => h9) (v := .ref (ad 6)) rfl d_H_sumAt_29 ?_
      refine lv_iload hx hb d_H_sumAt_32 (lv_at hl 0 rfl) ?_
      refine g_lald hx hb hK hP (6) x_at6 rfl (g_eix rfl (by omega) (by omega)) (j := jn) (g_ena rfl (by omega)) d_H_sumAt_34 ?_
      refine lv_lload_n hx hb d_H_sumAt_35 rfl (lv_at hl 5 rfl) ?_
      refine W.lcmp hx hb d_H_sumAt_36 ?_
      refine lv_if_le (tgt := 73) hx hb d_H_sumAt_37 (by decide) (fun c16 => ?_) (fun c16 => ?_)
      ·
        have c16 : (σ.2 6 jn) ≤ tm := (lg_cmp_le _ _).mp c16
        have hF := hF.trans (if_pos c16)
        exact J73_8 a1 a2 a3 ls (congrArg (fun z => z.1) hF).symm (congrArg (fun z => z.2.1) hF).symm (congrArg (fun z => z.2.2) hF).symm (lv_sub hl [1, 2, 3, 5] rfl)
      ·
        have c16 : ¬ ((σ.2 6 jn) ≤ tm) := mt (lg_cmp_le _ _).mpr c16
        have hF := hF.trans (if_neg c16)
        refine lv_aload_n hx hb d_H_sumAt_40 rfl (lv_at hl 4 rfl) ?_
        refine g_get hx hb ht in_H hown hK hP (5) x_at5 rfl 3 (by decide) rfl (ht _ kw74) (fun _ h9 => h9) (v := .ref (ad 6)) rfl d_H_sumAt_41 ?_
        refine lv_iload hx hb d_H_sumAt_44 (lv_at hl 0 rfl) ?_
        refine g_lald hx hb hK hP (6) x_at6 rfl (g_eix rfl (by omega) (by omega)) (j := jn) (g_ena rfl (by omega)) d_H_sumAt_46 ?_
        refine lv_lstore (lv' := [(4, .long (σ.2 6 jn)), (9, .int (Int32.ofNat jn)), (8, .int a1), (6, .long a2), (0, .ref (ad 5)), (1, .long tm)]) hx hb d_H_sumAt_47 hl (by decide) rfl (fun ls hl => ?_)
        refine lv_aload_n hx hb d_H_sumAt_49 rfl (lv_at hl 4 rfl) ?_
        refine g_get hx hb ht in_H hown hK hP (5) x_at5 rfl 4 (by decide) rfl (ht _ kw75) (fun _ h9 => h9) (v := .ref (ad 7)) rfl d_H_sumAt_50 ?_
        refine lv_iload hx hb d_H_sumAt_53 (lv_at hl 1 rfl) ?_
        refine g_lald hx hb hK hP (7) x_at7 rfl (g_eix rfl (by omega) (by omega)) (j := jn) (g_ena rfl (by omega)) d_H_sumAt_55 ?_
        refine lv_lstore (lv' := [(6, .long (σ.2 7 jn)), (4, .long (σ.2 6 jn)), (9, .int (Int32.ofNat jn)), (8, .int a1), (0, .ref (ad 5)), (1, .long tm)]) hx hb d_H_sumAt_56 hl (by decide) rfl (fun ls hl => ?_)
        refine lv_aload_n hx hb d_H_sumAt_58 rfl (lv_at hl 4 rfl) ?_
        refine g_get hx hb ht in_H hown hK hP (5) x_at5 rfl 5 (by decide) rfl (ht _ kw76) (fun _ h9 => h9) (v := .ref (ad 8)) rfl d_H_sumAt_59 ?_
        refine lv_iload hx hb d_H_sumAt_62 (lv_at hl 2 rfl) ?_
        refine g_iald hx hb hK hP (8) x_at8 rfl (g_eix rfl (by omega) (by omega)) (j := jn) (g_ena rfl (by omega)) d_H_sumAt_64 ?_
        refine lv_istore (lv' := [(8, .int (σ.1 8 jn)), (6, .long (σ.2 7 jn)), (4, .long (σ.2 6 jn)), (9, .int (Int32.ofNat jn)), (0, .ref (ad 5)), (1, .long tm)]) hx hb d_H_sumAt_65 hl (by decide) rfl (fun ls hl => ?_)
        refine lv_iinc (v := Int32.ofNat jn + (-1 : Int32)) (lv' := [(9, .int (Int32.ofNat jn + (-1 : Int32))), (8, .int (σ.1 8 jn)), (6, .long (σ.2 7 jn)), (4, .long (σ.2 6 jn)), (0, .ref (ad 5)), (1, .long tm)]) hx hb d_H_sumAt_67 hl (k := 3) rfl (rfl) (by decide) rfl (fun ls hl => ?_)
        refine lv_goto (tgt := 23) hx hb d_H_sumAt_70 (by decide) ?_
        exact ih (σ.1 8 jn) (σ.2 7 jn) (σ.2 6 jn) ls (by omega) hF (lv_sub hl [0, 1, 2, 3, 4, 5] rfl)
  exact LL23_13 ((σ.1 5 2).toNatClampNeg) now (σ.2 5 1) (σ.2 5 0) ls (Nat.le_refl _) rfl  (lv_sub hl [0, 1, 2, 3, 4, 5] rfl)
end
section
/-! numbers alone: rounding up, and the four ways of a leg -/
/-- a / b, rounded up -/
def q_up (a b : Nat) : Nat := (a + b - 1) / b
theorem q_up_le {a b q : Nat} (hb : 0 < b) : q_up a b ≤ q ↔ a ≤ q * b := by
  unfold q_up
  rw [← Nat.lt_succ_iff, Nat.div_lt_iff_lt_mul hb, Nat.succ_mul]
  omega
theorem q_up_ge {a b : Nat} (hb : 0 < b) : a ≤ q_up a b * b := (q_up_le hb).mp (Nat.le_refl _)
theorem q_up_gt {a b u : Nat} (hb : 0 < b) (h : u < q_up a b) : u * b < a := by
  apply Nat.lt_of_not_le
  intro hle
  exact absurd ((q_up_le hb).mpr hle) (Nat.not_le.mpr h)
theorem q_up_0 {b : Nat} (hb : 0 < b) : q_up 0 b = 0 := by
  have := (q_up_le (a := 0) (q := 0) hb).mpr (Nat.zero_le _)
  omega
theorem q_up_eq {a b : Nat} (hb : 0 < b) : q_up a b = if a % b ≠ 0 then a / b + 1 else a / b := by
  have h0 := Nat.div_add_mod a b
  have h1 := Nat.mod_lt a hb
  by_cases h : a % b = 0
  · rw [if_neg (by simp [h])]
    apply Nat.le_antisymm
    · rw [q_up_le hb, Nat.mul_comm]
      omega
    · apply Nat.le_of_not_lt
      intro hl
      have h2 := Nat.lt_of_lt_of_le hl (Nat.le_refl _)
      have h3 := q_up_ge (a := a) hb
      have h4 : (q_up a b + 1) * b ≤ a / b * b := Nat.mul_le_mul_right b hl
      rw [Nat.succ_mul, Nat.mul_comm (a / b) b] at h4
      omega
  · rw [if_pos h]
    apply Nat.le_antisymm
    · rw [q_up_le hb, Nat.succ_mul, Nat.mul_comm (a / b) b]
      omega
    · apply Nat.le_of_not_lt
      intro hl
      have h3 := q_up_ge (a := a) hb
      have h4 : q_up a b * b ≤ a / b * b := Nat.mul_le_mul_right b (by omega)
      rw [Nat.mul_comm (a / b) b] at h4
      omega
/-- down, paying u, short of the target t -/
theorem q_T1 {W t p u : Nat} (ht : 0 < t) (htp : t ≤ p) (h : u < q_up (W * (p - t)) (t * p)) :
    0 < W ∧ t < q_up (W * p) (W + u * p) ∧ q_up (W * p) (W + u * p) ≤ p ∧ q_up (W * (p - q_up (W * p) (W + u * p))) (q_up (W * p) (W + u * p) * p) ≤ u := by
  have hD : 0 < t * p := Nat.mul_pos ht (Nat.lt_of_lt_of_le ht htp)
  have h1 := q_up_gt hD h
  obtain ⟨d, rfl⟩ := Nat.exists_eq_add_of_le htp
  rw [Nat.add_sub_cancel_left] at h1
  have hW : 0 < W := by
    rcases Nat.eq_zero_or_pos W with hz | hz
    · rw [hz, Nat.zero_mul] at h1
      omega
    · exact hz
  have hB : 0 < W + u * (t + d) := by omega
  have a1 := q_up_ge (a := W * (t + d)) hB
  have a2 : ∀ z, W * (t + d) ≤ z * (W + u * (t + d)) → q_up (W * (t + d)) (W + u * (t + d)) ≤ z := fun z hz => (q_up_le hB).mpr hz
  generalize q_up (W * (t + d)) (W + u * (t + d)) = q at a1 a2 ⊢
  have hlt : t < q := by
    apply Nat.lt_of_not_le
    intro hle
    have b1 := Nat.le_trans a1 (Nat.mul_le_mul_right _ hle)
    have e1 : W * (t + d) = W * t + W * d := Nat.mul_add ..
    have e2 : t * (W + u * (t + d)) = W * t + u * (t * (t + d)) := by grind
    omega
  have hle : q ≤ t + d := a2 _ (by
    have e1 : (t + d) * (W + u * (t + d)) = W * (t + d) + (t + d) * (u * (t + d)) := by grind
    omega)
  refine ⟨hW, hlt, hle, ?_⟩
  rw [q_up_le (Nat.mul_pos (by omega) (by omega)), Nat.mul_sub]
  have e3 : q * (W + u * (t + d)) = W * q + u * (q * (t + d)) := by grind
  omega
/-- up, paying u, short of the target t -/
theorem q_T2 {w t p u : Nat} (htp : p ≤ t) (h : u < q_up (w * (t - p)) 65536) :
    0 < w ∧ p + u * 65536 / w < t ∧ q_up (w * (p + u * 65536 / w - p)) 65536 ≤ u := by
  have h1 := q_up_gt (by decide) h
  have hw : 0 < w := by
    rcases Nat.eq_zero_or_pos w with hz | hz
    · rw [hz, Nat.zero_mul] at h1
      omega
    · exact hz
  have h2 : u * 65536 / w < t - p := by
    rw [Nat.div_lt_iff_lt_mul hw, Nat.mul_comm (t - p) w]
    exact h1
  refine ⟨hw, by omega, ?_⟩
  rw [q_up_le (by decide), Nat.add_sub_cancel_left]
  exact Nat.mul_div_le _ _
/-- down, taking v, short of the target t -/
theorem q_T3 {w t p v : Nat} (htp : t ≤ p) (h : v < w * (p - t) / 65536) :
    0 < w ∧ q_up (v * 65536) w ≤ p - t ∧ v ≤ w * (p - (p - q_up (v * 65536) w)) / 65536 := by
  have h1 : (v + 1) * 65536 ≤ w * (p - t) := (Nat.le_div_iff_mul_le (by decide)).mp h
  have hw : 0 < w := by
    rcases Nat.eq_zero_or_pos w with hz | hz
    · rw [hz, Nat.zero_mul] at h1
      omega
    · exact hz
  have h2 : q_up (v * 65536) w ≤ p - t := by
    rw [q_up_le hw, Nat.mul_comm (p - t) w]
    exact Nat.le_trans (Nat.mul_le_mul_right _ (Nat.le_succ v)) h1
  have h3 := q_up_ge (a := v * 65536) hw
  refine ⟨hw, h2, ?_⟩
  rw [Nat.le_div_iff_mul_le (by decide), show p - (p - q_up (v * 65536) w) = q_up (v * 65536) w by omega, Nat.mul_comm w]
  exact h3
/-- up, taking v, short of the target t -/
theorem q_T4 {W t p v : Nat} (hp : 0 < p) (htp : p ≤ t) (h : v < W * (t - p) / (p * t)) :
    v * p < W ∧ p ≤ q_up (W * p) (W - v * p) ∧ q_up (W * p) (W - v * p) ≤ t ∧ v ≤ W * (q_up (W * p) (W - v * p) - p) / (p * q_up (W * p) (W - v * p)) := by
  have ht : 0 < t := Nat.lt_of_lt_of_le hp htp
  have hD : 0 < p * t := Nat.mul_pos hp ht
  have h1 : (v + 1) * (p * t) ≤ W * (t - p) := (Nat.le_div_iff_mul_le hD).mp h
  rw [Nat.succ_mul, Nat.mul_sub] at h1
  have h2 : v * p < W := by
    apply Nat.lt_of_not_le
    intro hle
    have b1 : W * t ≤ v * p * t := Nat.mul_le_mul_right t hle
    have e1 : v * p * t = v * (p * t) := Nat.mul_assoc ..
    omega
  obtain ⟨B, hB⟩ := Nat.exists_eq_add_of_le (Nat.le_of_lt h2)
  have hB0 : 0 < B := by omega
  have eB : W - v * p = B := by omega
  rw [eB]
  have a1 := q_up_ge (a := W * p) hB0
  have a2 : ∀ z, W * p ≤ z * B → q_up (W * p) B ≤ z := fun z hz => (q_up_le hB0).mpr hz
  generalize q_up (W * p) B = q at a1 a2 ⊢
  have eW : W = v * p + B := hB
  have hpq : p ≤ q := by
    apply Nat.le_of_not_lt
    intro hl
    have b1 : q * B ≤ q * W := Nat.mul_le_mul_left q (by omega)
    have b2 : q * W < p * W := Nat.mul_lt_mul_of_pos_right hl (by omega)
    rw [Nat.mul_comm W p] at a1
    omega
  have e2 : t * W = t * (v * p) + t * B := by rw [eW, Nat.mul_add]
  have e3 : t * (v * p) = v * (p * t) := by grind
  have hqt : q ≤ t := a2 _ (by
    rw [Nat.mul_comm W t] at h1
    omega)
  refine ⟨h2, hpq, hqt, ?_⟩
  rw [Nat.le_div_iff_mul_le (Nat.mul_pos hp (by omega)), Nat.mul_sub]
  have e4 : W * q = v * (p * q) + q * B := by rw [eW]; grind
  omega
end
