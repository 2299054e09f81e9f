section
-- ===== PART A: goes FIRST, ahead of the names: the tables' words, and 'selects' of the private methods out of them =====
/-- a private method of a class that the tables say can be made, by its rows of tables_1 -/
def lw_okq (q : MethodName × Nat) : Prop := (q.1.cls ≠ "java/lang/invoke/MethodHandle" ∧ q.1.cls ≠ "java/lang/invoke/VarHandle") ∧ Cond.instantiable q.1.cls q.2 ∈ tables_1 ∧ Cond.privateMethod q.1 ∈ tables_1 ∧ Cond.instanceMethod q.1 ∈ tables_1
theorem lw_p0 : lw_okq (⟨"PlateBeats", "record", "()V"⟩, 7) := ⟨⟨by decide +kernel, by decide +kernel⟩, List.mem_of_getElem? (i := 7) (by decide +kernel), List.mem_of_getElem? (i := 103) (by decide +kernel), List.mem_of_getElem? (i := 104) (by decide +kernel)⟩
theorem lw_p1 : lw_okq (⟨"PlateBeats", "dropOldest", "()V"⟩, 7) := ⟨⟨by decide +kernel, by decide +kernel⟩, List.mem_of_getElem? (i := 7) (by decide +kernel), List.mem_of_getElem? (i := 107) (by decide +kernel), List.mem_of_getElem? (i := 108) (by decide +kernel)⟩
theorem lw_p2 : lw_okq (⟨"PlateBeats$State", "append", "(II)V"⟩, 6) := ⟨⟨by decide +kernel, by decide +kernel⟩, List.mem_of_getElem? (i := 15) (by decide +kernel), List.mem_of_getElem? (i := 114) (by decide +kernel), List.mem_of_getElem? (i := 115) (by decide +kernel)⟩
theorem lw_p3 : lw_okq (⟨"PlateBeats$State", "put", "(III)V"⟩, 6) := ⟨⟨by decide +kernel, by decide +kernel⟩, List.mem_of_getElem? (i := 15) (by decide +kernel), List.mem_of_getElem? (i := 118) (by decide +kernel), List.mem_of_getElem? (i := 119) (by decide +kernel)⟩
theorem lw_p4 : lw_okq (⟨"PlateBeats$State", "has", "(I)Z"⟩, 6) := ⟨⟨by decide +kernel, by decide +kernel⟩, List.mem_of_getElem? (i := 15) (by decide +kernel), List.mem_of_getElem? (i := 122) (by decide +kernel), List.mem_of_getElem? (i := 123) (by decide +kernel)⟩
theorem lw_p5 : lw_okq (⟨"PlateBeats$State", "areaOf", "(I)I"⟩, 6) := ⟨⟨by decide +kernel, by decide +kernel⟩, List.mem_of_getElem? (i := 15) (by decide +kernel), List.mem_of_getElem? (i := 131) (by decide +kernel), List.mem_of_getElem? (i := 132) (by decide +kernel)⟩
theorem lw_p6 : lw_okq (⟨"PlateBeats$State", "pOf", "(I)I"⟩, 6) := ⟨⟨by decide +kernel, by decide +kernel⟩, List.mem_of_getElem? (i := 15) (by decide +kernel), List.mem_of_getElem? (i := 135) (by decide +kernel), List.mem_of_getElem? (i := 136) (by decide +kernel)⟩
theorem lw_p7 : lw_okq (⟨"PlateBeats$State", "qOf", "(I)I"⟩, 6) := ⟨⟨by decide +kernel, by decide +kernel⟩, List.mem_of_getElem? (i := 15) (by decide +kernel), List.mem_of_getElem? (i := 139) (by decide +kernel), List.mem_of_getElem? (i := 140) (by decide +kernel)⟩
theorem lw_p8 : lw_okq (⟨"PlateBeats$State", "drop", "(I)V"⟩, 6) := ⟨⟨by decide +kernel, by decide +kernel⟩, List.mem_of_getElem? (i := 15) (by decide +kernel), List.mem_of_getElem? (i := 148) (by decide +kernel), List.mem_of_getElem? (i := 149) (by decide +kernel)⟩
theorem lw_p9 : lw_okq (⟨"PlateBeats", "tileOf", "(I)J"⟩, 7) := ⟨⟨by decide +kernel, by decide +kernel⟩, List.mem_of_getElem? (i := 7) (by decide +kernel), List.mem_of_getElem? (i := 174) (by decide +kernel), List.mem_of_getElem? (i := 175) (by decide +kernel)⟩
theorem lw_p10 : lw_okq (⟨"PlateBeats", "platesBefore", "(I)I"⟩, 7) := ⟨⟨by decide +kernel, by decide +kernel⟩, List.mem_of_getElem? (i := 7) (by decide +kernel), List.mem_of_getElem? (i := 192) (by decide +kernel), List.mem_of_getElem? (i := 193) (by decide +kernel)⟩
theorem lw_p11 : lw_okq (⟨"PlateBeats", "isCombination", "(IIIIII)Z"⟩, 7) := ⟨⟨by decide +kernel, by decide +kernel⟩, List.mem_of_getElem? (i := 7) (by decide +kernel), List.mem_of_getElem? (i := 212) (by decide +kernel), List.mem_of_getElem? (i := 213) (by decide +kernel)⟩
theorem lw_p12 : lw_okq (⟨"PlateBeats$State", "hasPair", "(II)Z"⟩, 6) := ⟨⟨by decide +kernel, by decide +kernel⟩, List.mem_of_getElem? (i := 15) (by decide +kernel), List.mem_of_getElem? (i := 216) (by decide +kernel), List.mem_of_getElem? (i := 217) (by decide +kernel)⟩
theorem lw_p13 : lw_okq (⟨"PlateBeats$State", "isFactorPair", "(II)Z"⟩, 6) := ⟨⟨by decide +kernel, by decide +kernel⟩, List.mem_of_getElem? (i := 15) (by decide +kernel), List.mem_of_getElem? (i := 220) (by decide +kernel), List.mem_of_getElem? (i := 221) (by decide +kernel)⟩
theorem lw_p14 : lw_okq (⟨"PlateBeats$Group", "startPair", "(LPlateBeats$State;II)V"⟩, 5) := ⟨⟨by decide +kernel, by decide +kernel⟩, List.mem_of_getElem? (i := 51) (by decide +kernel), List.mem_of_getElem? (i := 225) (by decide +kernel), List.mem_of_getElem? (i := 226) (by decide +kernel)⟩
theorem lw_p15 : lw_okq (⟨"PlateBeats$Group", "start", "(LPlateBeats$State;J)V"⟩, 5) := ⟨⟨by decide +kernel, by decide +kernel⟩, List.mem_of_getElem? (i := 51) (by decide +kernel), List.mem_of_getElem? (i := 230) (by decide +kernel), List.mem_of_getElem? (i := 231) (by decide +kernel)⟩
def lw_privs_1 : List (MethodName × Nat) := [(⟨"PlateBeats", "record", "()V"⟩, 7), (⟨"PlateBeats", "dropOldest", "()V"⟩, 7), (⟨"PlateBeats$State", "append", "(II)V"⟩, 6), (⟨"PlateBeats$State", "put", "(III)V"⟩, 6), (⟨"PlateBeats$State", "has", "(I)Z"⟩, 6), (⟨"PlateBeats$State", "areaOf", "(I)I"⟩, 6), (⟨"PlateBeats$State", "pOf", "(I)I"⟩, 6), (⟨"PlateBeats$State", "qOf", "(I)I"⟩, 6), (⟨"PlateBeats$State", "drop", "(I)V"⟩, 6), (⟨"PlateBeats", "tileOf", "(I)J"⟩, 7), (⟨"PlateBeats", "platesBefore", "(I)I"⟩, 7), (⟨"PlateBeats", "isCombination", "(IIIIII)Z"⟩, 7), (⟨"PlateBeats$State", "hasPair", "(II)Z"⟩, 6), (⟨"PlateBeats$State", "isFactorPair", "(II)Z"⟩, 6), (⟨"PlateBeats$Group", "startPair", "(LPlateBeats$State;II)V"⟩, 5), (⟨"PlateBeats$Group", "start", "(LPlateBeats$State;J)V"⟩, 5)]
theorem lw_r1 : ∀ q ∈ lw_privs_1, lw_okq q := List.forall_mem_cons.mpr ⟨lw_p0, List.forall_mem_cons.mpr ⟨lw_p1, List.forall_mem_cons.mpr ⟨lw_p2, List.forall_mem_cons.mpr ⟨lw_p3, List.forall_mem_cons.mpr ⟨lw_p4, List.forall_mem_cons.mpr ⟨lw_p5, List.forall_mem_cons.mpr ⟨lw_p6, List.forall_mem_cons.mpr ⟨lw_p7, List.forall_mem_cons.mpr ⟨lw_p8, List.forall_mem_cons.mpr ⟨lw_p9, List.forall_mem_cons.mpr ⟨lw_p10, List.forall_mem_cons.mpr ⟨lw_p11, List.forall_mem_cons.mpr ⟨lw_p12, List.forall_mem_cons.mpr ⟨lw_p13, List.forall_mem_cons.mpr ⟨lw_p14, List.forall_mem_cons.mpr ⟨lw_p15, fun _ h => absurd h List.not_mem_nil⟩⟩⟩⟩⟩⟩⟩⟩⟩⟩⟩⟩⟩⟩⟩⟩
theorem lw_p16 : lw_okq (⟨"PlateBeats$State", "pairNorm", "(IIIIII)I"⟩, 6) := ⟨⟨by decide +kernel, by decide +kernel⟩, List.mem_of_getElem? (i := 15) (by decide +kernel), List.mem_of_getElem? (i := 235) (by decide +kernel), List.mem_of_getElem? (i := 236) (by decide +kernel)⟩
theorem lw_p17 : lw_okq (⟨"PlateBeats$Group", "numerator", "(I)J"⟩, 5) := ⟨⟨by decide +kernel, by decide +kernel⟩, List.mem_of_getElem? (i := 51) (by decide +kernel), List.mem_of_getElem? (i := 245) (by decide +kernel), List.mem_of_getElem? (i := 246) (by decide +kernel)⟩
theorem lw_p18 : lw_okq (⟨"PlateBeats$Group", "denominator", "(I)J"⟩, 5) := ⟨⟨by decide +kernel, by decide +kernel⟩, List.mem_of_getElem? (i := 51) (by decide +kernel), List.mem_of_getElem? (i := 254) (by decide +kernel), List.mem_of_getElem? (i := 255) (by decide +kernel)⟩
theorem lw_p19 : lw_okq (⟨"PlateBeats$Group", "kindOf", "(I)I"⟩, 5) := ⟨⟨by decide +kernel, by decide +kernel⟩, List.mem_of_getElem? (i := 51) (by decide +kernel), List.mem_of_getElem? (i := 262) (by decide +kernel), List.mem_of_getElem? (i := 263) (by decide +kernel)⟩
theorem lw_p20 : lw_okq (⟨"PlateBeats$Group", "fillPair", "(LPlateBeats$State;II)V"⟩, 5) := ⟨⟨by decide +kernel, by decide +kernel⟩, List.mem_of_getElem? (i := 51) (by decide +kernel), List.mem_of_getElem? (i := 270) (by decide +kernel), List.mem_of_getElem? (i := 271) (by decide +kernel)⟩
theorem lw_p21 : lw_okq (⟨"PlateBeats$Group", "addAllFor", "(LPlateBeats$State;IIII)V"⟩, 5) := ⟨⟨by decide +kernel, by decide +kernel⟩, List.mem_of_getElem? (i := 51) (by decide +kernel), List.mem_of_getElem? (i := 275) (by decide +kernel), List.mem_of_getElem? (i := 276) (by decide +kernel)⟩
theorem lw_p22 : lw_okq (⟨"PlateBeats$Group", "add", "(I)V"⟩, 5) := ⟨⟨by decide +kernel, by decide +kernel⟩, List.mem_of_getElem? (i := 51) (by decide +kernel), List.mem_of_getElem? (i := 283) (by decide +kernel), List.mem_of_getElem? (i := 284) (by decide +kernel)⟩
theorem lw_p23 : lw_okq (⟨"PlateBeats$Group", "sort", "()V"⟩, 5) := ⟨⟨by decide +kernel, by decide +kernel⟩, List.mem_of_getElem? (i := 51) (by decide +kernel), List.mem_of_getElem? (i := 287) (by decide +kernel), List.mem_of_getElem? (i := 288) (by decide +kernel)⟩
theorem lw_p24 : lw_okq (⟨"PlateBeats$Group", "differentNorms", "()I"⟩, 5) := ⟨⟨by decide +kernel, by decide +kernel⟩, List.mem_of_getElem? (i := 51) (by decide +kernel), List.mem_of_getElem? (i := 291) (by decide +kernel), List.mem_of_getElem? (i := 292) (by decide +kernel)⟩
theorem lw_p25 : lw_okq (⟨"PlateBeats", "normOfRank", "(III)I"⟩, 7) := ⟨⟨by decide +kernel, by decide +kernel⟩, List.mem_of_getElem? (i := 7) (by decide +kernel), List.mem_of_getElem? (i := 299) (by decide +kernel), List.mem_of_getElem? (i := 300) (by decide +kernel)⟩
theorem lw_p26 : lw_okq (⟨"PlateBeats$Group", "normAt", "(I)I"⟩, 5) := ⟨⟨by decide +kernel, by decide +kernel⟩, List.mem_of_getElem? (i := 51) (by decide +kernel), List.mem_of_getElem? (i := 303) (by decide +kernel), List.mem_of_getElem? (i := 304) (by decide +kernel)⟩
theorem lw_p27 : lw_okq (⟨"PlateBeats$Group", "combinationsWith", "(I)I"⟩, 5) := ⟨⟨by decide +kernel, by decide +kernel⟩, List.mem_of_getElem? (i := 51) (by decide +kernel), List.mem_of_getElem? (i := 315) (by decide +kernel), List.mem_of_getElem? (i := 316) (by decide +kernel)⟩
theorem lw_p28 : lw_okq (⟨"PlateBeats$Group", "period", "(I)I"⟩, 5) := ⟨⟨by decide +kernel, by decide +kernel⟩, List.mem_of_getElem? (i := 51) (by decide +kernel), List.mem_of_getElem? (i := 323) (by decide +kernel), List.mem_of_getElem? (i := 324) (by decide +kernel)⟩
theorem lw_p29 : lw_okq (⟨"PlateBeats", "pairBands", "(II)I"⟩, 7) := ⟨⟨by decide +kernel, by decide +kernel⟩, List.mem_of_getElem? (i := 7) (by decide +kernel), List.mem_of_getElem? (i := 338) (by decide +kernel), List.mem_of_getElem? (i := 339) (by decide +kernel)⟩
theorem lw_p30 : lw_okq (⟨"PlateBeats$Group", "bandCount", "()I"⟩, 5) := ⟨⟨by decide +kernel, by decide +kernel⟩, List.mem_of_getElem? (i := 51) (by decide +kernel), List.mem_of_getElem? (i := 342) (by decide +kernel), List.mem_of_getElem? (i := 343) (by decide +kernel)⟩
theorem lw_p31 : lw_okq (⟨"PlateBeats$Group", "fillTriple", "(LPlateBeats$State;III)V"⟩, 5) := ⟨⟨by decide +kernel, by decide +kernel⟩, List.mem_of_getElem? (i := 51) (by decide +kernel), List.mem_of_getElem? (i := 351) (by decide +kernel), List.mem_of_getElem? (i := 352) (by decide +kernel)⟩
def lw_privs_2 : List (MethodName × Nat) := [(⟨"PlateBeats$State", "pairNorm", "(IIIIII)I"⟩, 6), (⟨"PlateBeats$Group", "numerator", "(I)J"⟩, 5), (⟨"PlateBeats$Group", "denominator", "(I)J"⟩, 5), (⟨"PlateBeats$Group", "kindOf", "(I)I"⟩, 5), (⟨"PlateBeats$Group", "fillPair", "(LPlateBeats$State;II)V"⟩, 5), (⟨"PlateBeats$Group", "addAllFor", "(LPlateBeats$State;IIII)V"⟩, 5), (⟨"PlateBeats$Group", "add", "(I)V"⟩, 5), (⟨"PlateBeats$Group", "sort", "()V"⟩, 5), (⟨"PlateBeats$Group", "differentNorms", "()I"⟩, 5), (⟨"PlateBeats", "normOfRank", "(III)I"⟩, 7), (⟨"PlateBeats$Group", "normAt", "(I)I"⟩, 5), (⟨"PlateBeats$Group", "combinationsWith", "(I)I"⟩, 5), (⟨"PlateBeats$Group", "period", "(I)I"⟩, 5), (⟨"PlateBeats", "pairBands", "(II)I"⟩, 7), (⟨"PlateBeats$Group", "bandCount", "()I"⟩, 5), (⟨"PlateBeats$Group", "fillTriple", "(LPlateBeats$State;III)V"⟩, 5)]
theorem lw_r2 : ∀ q ∈ lw_privs_2, lw_okq q := List.forall_mem_cons.mpr ⟨lw_p16, List.forall_mem_cons.mpr ⟨lw_p17, List.forall_mem_cons.mpr ⟨lw_p18, List.forall_mem_cons.mpr ⟨lw_p19, List.forall_mem_cons.mpr ⟨lw_p20, List.forall_mem_cons.mpr ⟨lw_p21, List.forall_mem_cons.mpr ⟨lw_p22, List.forall_mem_cons.mpr ⟨lw_p23, List.forall_mem_cons.mpr ⟨lw_p24, List.forall_mem_cons.mpr ⟨lw_p25, List.forall_mem_cons.mpr ⟨lw_p26, List.forall_mem_cons.mpr ⟨lw_p27, List.forall_mem_cons.mpr ⟨lw_p28, List.forall_mem_cons.mpr ⟨lw_p29, List.forall_mem_cons.mpr ⟨lw_p30, List.forall_mem_cons.mpr ⟨lw_p31, fun _ h => absurd h List.not_mem_nil⟩⟩⟩⟩⟩⟩⟩⟩⟩⟩⟩⟩⟩⟩⟩⟩
theorem lw_p32 : lw_okq (⟨"PlateBeats", "bandsOfGroups", "(LPlateBeats$State;I)I"⟩, 7) := ⟨⟨by decide +kernel, by decide +kernel⟩, List.mem_of_getElem? (i := 7) (by decide +kernel), List.mem_of_getElem? (i := 365) (by decide +kernel), List.mem_of_getElem? (i := 366) (by decide +kernel)⟩
theorem lw_p33 : lw_okq (⟨"PlateBeats$State", "hasAll", "(I)Z"⟩, 6) := ⟨⟨by decide +kernel, by decide +kernel⟩, List.mem_of_getElem? (i := 15) (by decide +kernel), List.mem_of_getElem? (i := 371) (by decide +kernel), List.mem_of_getElem? (i := 372) (by decide +kernel)⟩
theorem lw_p34 : lw_okq (⟨"PlateBeats$Group", "fillPlates", "(LPlateBeats$State;I)V"⟩, 5) := ⟨⟨by decide +kernel, by decide +kernel⟩, List.mem_of_getElem? (i := 51) (by decide +kernel), List.mem_of_getElem? (i := 375) (by decide +kernel), List.mem_of_getElem? (i := 376) (by decide +kernel)⟩
theorem lw_p35 : lw_okq (⟨"PlateBeats", "worstPeriodOf", "(I)I"⟩, 7) := ⟨⟨by decide +kernel, by decide +kernel⟩, List.mem_of_getElem? (i := 7) (by decide +kernel), List.mem_of_getElem? (i := 388) (by decide +kernel), List.mem_of_getElem? (i := 389) (by decide +kernel)⟩
theorem lw_p36 : lw_okq (⟨"PlateBeats$Group", "worstPeriodFound", "()I"⟩, 5) := ⟨⟨by decide +kernel, by decide +kernel⟩, List.mem_of_getElem? (i := 51) (by decide +kernel), List.mem_of_getElem? (i := 392) (by decide +kernel), List.mem_of_getElem? (i := 393) (by decide +kernel)⟩
theorem lw_p37 : lw_okq (⟨"PlateBeats", "search", "(III)I"⟩, 7) := ⟨⟨by decide +kernel, by decide +kernel⟩, List.mem_of_getElem? (i := 7) (by decide +kernel), List.mem_of_getElem? (i := 410) (by decide +kernel), List.mem_of_getElem? (i := 411) (by decide +kernel)⟩
theorem lw_p38 : lw_okq (⟨"PlateBeatsModel", "records", "()V"⟩, 10) := ⟨⟨by decide +kernel, by decide +kernel⟩, List.mem_of_getElem? (i := 441) (by decide +kernel), List.mem_of_getElem? (i := 489) (by decide +kernel), List.mem_of_getElem? (i := 490) (by decide +kernel)⟩
theorem lw_p39 : lw_okq (⟨"PlateBeatsModel", "isPlate", "(I)Z"⟩, 10) := ⟨⟨by decide +kernel, by decide +kernel⟩, List.mem_of_getElem? (i := 441) (by decide +kernel), List.mem_of_getElem? (i := 497) (by decide +kernel), List.mem_of_getElem? (i := 498) (by decide +kernel)⟩
theorem lw_p40 : lw_okq (⟨"PlateBeatsModel", "areaOf", "(I)I"⟩, 10) := ⟨⟨by decide +kernel, by decide +kernel⟩, List.mem_of_getElem? (i := 441) (by decide +kernel), List.mem_of_getElem? (i := 501) (by decide +kernel), List.mem_of_getElem? (i := 502) (by decide +kernel)⟩
theorem lw_p41 : lw_okq (⟨"PlateBeatsModel", "firstOf", "(I)I"⟩, 10) := ⟨⟨by decide +kernel, by decide +kernel⟩, List.mem_of_getElem? (i := 441) (by decide +kernel), List.mem_of_getElem? (i := 505) (by decide +kernel), List.mem_of_getElem? (i := 506) (by decide +kernel)⟩
theorem lw_p42 : lw_okq (⟨"PlateBeatsModel", "secondOf", "(I)I"⟩, 10) := ⟨⟨by decide +kernel, by decide +kernel⟩, List.mem_of_getElem? (i := 441) (by decide +kernel), List.mem_of_getElem? (i := 509) (by decide +kernel), List.mem_of_getElem? (i := 510) (by decide +kernel)⟩
theorem lw_p43 : lw_okq (⟨"PlateBeatsModel", "tileOf", "(I)I"⟩, 10) := ⟨⟨by decide +kernel, by decide +kernel⟩, List.mem_of_getElem? (i := 441) (by decide +kernel), List.mem_of_getElem? (i := 537) (by decide +kernel), List.mem_of_getElem? (i := 538) (by decide +kernel)⟩
theorem lw_p44 : lw_okq (⟨"PlateBeatsModel", "isAhead", "(II)Z"⟩, 10) := ⟨⟨by decide +kernel, by decide +kernel⟩, List.mem_of_getElem? (i := 441) (by decide +kernel), List.mem_of_getElem? (i := 552) (by decide +kernel), List.mem_of_getElem? (i := 553) (by decide +kernel)⟩
theorem lw_p45 : lw_okq (⟨"PlateBeatsModel", "isCombination", "(IIIIII)Z"⟩, 10) := ⟨⟨by decide +kernel, by decide +kernel⟩, List.mem_of_getElem? (i := 441) (by decide +kernel), List.mem_of_getElem? (i := 572) (by decide +kernel), List.mem_of_getElem? (i := 573) (by decide +kernel)⟩
theorem lw_p46 : lw_okq (⟨"PlateBeatsModel", "isPair", "(II)Z"⟩, 10) := ⟨⟨by decide +kernel, by decide +kernel⟩, List.mem_of_getElem? (i := 441) (by decide +kernel), List.mem_of_getElem? (i := 576) (by decide +kernel), List.mem_of_getElem? (i := 577) (by decide +kernel)⟩
theorem lw_p47 : lw_okq (⟨"PlateBeatsModel", "isPart", "(II)Z"⟩, 10) := ⟨⟨by decide +kernel, by decide +kernel⟩, List.mem_of_getElem? (i := 441) (by decide +kernel), List.mem_of_getElem? (i := 580) (by decide +kernel), List.mem_of_getElem? (i := 581) (by decide +kernel)⟩
def lw_privs_3 : List (MethodName × Nat) := [(⟨"PlateBeats", "bandsOfGroups", "(LPlateBeats$State;I)I"⟩, 7), (⟨"PlateBeats$State", "hasAll", "(I)Z"⟩, 6), (⟨"PlateBeats$Group", "fillPlates", "(LPlateBeats$State;I)V"⟩, 5), (⟨"PlateBeats", "worstPeriodOf", "(I)I"⟩, 7), (⟨"PlateBeats$Group", "worstPeriodFound", "()I"⟩, 5), (⟨"PlateBeats", "search", "(III)I"⟩, 7), (⟨"PlateBeatsModel", "records", "()V"⟩, 10), (⟨"PlateBeatsModel", "isPlate", "(I)Z"⟩, 10), (⟨"PlateBeatsModel", "areaOf", "(I)I"⟩, 10), (⟨"PlateBeatsModel", "firstOf", "(I)I"⟩, 10), (⟨"PlateBeatsModel", "secondOf", "(I)I"⟩, 10), (⟨"PlateBeatsModel", "tileOf", "(I)I"⟩, 10), (⟨"PlateBeatsModel", "isAhead", "(II)Z"⟩, 10), (⟨"PlateBeatsModel", "isCombination", "(IIIIII)Z"⟩, 10), (⟨"PlateBeatsModel", "isPair", "(II)Z"⟩, 10), (⟨"PlateBeatsModel", "isPart", "(II)Z"⟩, 10)]
theorem lw_r3 : ∀ q ∈ lw_privs_3, lw_okq q := List.forall_mem_cons.mpr ⟨lw_p32, List.forall_mem_cons.mpr ⟨lw_p33, List.forall_mem_cons.mpr ⟨lw_p34, List.forall_mem_cons.mpr ⟨lw_p35, List.forall_mem_cons.mpr ⟨lw_p36, List.forall_mem_cons.mpr ⟨lw_p37, List.forall_mem_cons.mpr ⟨lw_p38, List.forall_mem_cons.mpr ⟨lw_p39, List.forall_mem_cons.mpr ⟨lw_p40, List.forall_mem_cons.mpr ⟨lw_p41, List.forall_mem_cons.mpr ⟨lw_p42, List.forall_mem_cons.mpr ⟨lw_p43, List.forall_mem_cons.mpr ⟨lw_p44, List.forall_mem_cons.mpr ⟨lw_p45, List.forall_mem_cons.mpr ⟨lw_p46, List.forall_mem_cons.mpr ⟨lw_p47, fun _ h => absurd h List.not_mem_nil⟩⟩⟩⟩⟩⟩⟩⟩⟩⟩⟩⟩⟩⟩⟩⟩
theorem lw_p48 : lw_okq (⟨"PlateBeatsModel", "pairSquare", "(IIIIII)J"⟩, 10) := ⟨⟨by decide +kernel, by decide +kernel⟩, List.mem_of_getElem? (i := 441) (by decide +kernel), List.mem_of_getElem? (i := 585) (by decide +kernel), List.mem_of_getElem? (i := 586) (by decide +kernel)⟩
theorem lw_p49 : lw_okq (⟨"PlateBeatsModel", "pairBase", "(II)J"⟩, 10) := ⟨⟨by decide +kernel, by decide +kernel⟩, List.mem_of_getElem? (i := 441) (by decide +kernel), List.mem_of_getElem? (i := 589) (by decide +kernel), List.mem_of_getElem? (i := 590) (by decide +kernel)⟩
theorem lw_p50 : lw_okq (⟨"PlateBeatsModel", "kindOf", "(JJ)I"⟩, 10) := ⟨⟨by decide +kernel, by decide +kernel⟩, List.mem_of_getElem? (i := 441) (by decide +kernel), List.mem_of_getElem? (i := 601) (by decide +kernel), List.mem_of_getElem? (i := 602) (by decide +kernel)⟩
theorem lw_p51 : lw_okq (⟨"PlateBeatsModel", "laySquares", "(II)V"⟩, 10) := ⟨⟨by decide +kernel, by decide +kernel⟩, List.mem_of_getElem? (i := 441) (by decide +kernel), List.mem_of_getElem? (i := 609) (by decide +kernel), List.mem_of_getElem? (i := 610) (by decide +kernel)⟩
theorem lw_p52 : lw_okq (⟨"PlateBeatsModel", "layWith", "(IIII)V"⟩, 10) := ⟨⟨by decide +kernel, by decide +kernel⟩, List.mem_of_getElem? (i := 441) (by decide +kernel), List.mem_of_getElem? (i := 613) (by decide +kernel), List.mem_of_getElem? (i := 614) (by decide +kernel)⟩
theorem lw_p53 : lw_okq (⟨"PlateBeatsModel", "insert", "(J)V"⟩, 10) := ⟨⟨by decide +kernel, by decide +kernel⟩, List.mem_of_getElem? (i := 441) (by decide +kernel), List.mem_of_getElem? (i := 617) (by decide +kernel), List.mem_of_getElem? (i := 618) (by decide +kernel)⟩
theorem lw_p54 : lw_okq (⟨"PlateBeatsModel", "behind", "(I)I"⟩, 10) := ⟨⟨by decide +kernel, by decide +kernel⟩, List.mem_of_getElem? (i := 441) (by decide +kernel), List.mem_of_getElem? (i := 621) (by decide +kernel), List.mem_of_getElem? (i := 622) (by decide +kernel)⟩
theorem lw_p55 : lw_okq (⟨"PlateBeatsModel", "beat", "(IIII)J"⟩, 10) := ⟨⟨by decide +kernel, by decide +kernel⟩, List.mem_of_getElem? (i := 441) (by decide +kernel), List.mem_of_getElem? (i := 629) (by decide +kernel), List.mem_of_getElem? (i := 630) (by decide +kernel)⟩
theorem lw_p56 : lw_okq (⟨"PlateBeatsModel", "placeOf", "(I)I"⟩, 10) := ⟨⟨by decide +kernel, by decide +kernel⟩, List.mem_of_getElem? (i := 441) (by decide +kernel), List.mem_of_getElem? (i := 633) (by decide +kernel), List.mem_of_getElem? (i := 634) (by decide +kernel)⟩
theorem lw_p57 : lw_okq (⟨"PlateBeatsModel", "ofKind", "(III)I"⟩, 10) := ⟨⟨by decide +kernel, by decide +kernel⟩, List.mem_of_getElem? (i := 441) (by decide +kernel), List.mem_of_getElem? (i := 659) (by decide +kernel), List.mem_of_getElem? (i := 660) (by decide +kernel)⟩
theorem lw_p58 : lw_okq (⟨"PlateBeatsModel", "bandsOfThree", "(III)I"⟩, 10) := ⟨⟨by decide +kernel, by decide +kernel⟩, List.mem_of_getElem? (i := 441) (by decide +kernel), List.mem_of_getElem? (i := 671) (by decide +kernel), List.mem_of_getElem? (i := 672) (by decide +kernel)⟩
theorem lw_p59 : lw_okq (⟨"PlateBeatsModel", "tripleBase", "(III)J"⟩, 10) := ⟨⟨by decide +kernel, by decide +kernel⟩, List.mem_of_getElem? (i := 441) (by decide +kernel), List.mem_of_getElem? (i := 675) (by decide +kernel), List.mem_of_getElem? (i := 676) (by decide +kernel)⟩
theorem lw_p60 : lw_okq (⟨"PlateBeatsModel", "tripleSquare", "(IIII)J"⟩, 10) := ⟨⟨by decide +kernel, by decide +kernel⟩, List.mem_of_getElem? (i := 441) (by decide +kernel), List.mem_of_getElem? (i := 679) (by decide +kernel), List.mem_of_getElem? (i := 680) (by decide +kernel)⟩
theorem lw_p61 : lw_okq (⟨"PlateBeatsModel", "part", "(IIZ)I"⟩, 10) := ⟨⟨by decide +kernel, by decide +kernel⟩, List.mem_of_getElem? (i := 441) (by decide +kernel), List.mem_of_getElem? (i := 683) (by decide +kernel), List.mem_of_getElem? (i := 684) (by decide +kernel)⟩
theorem lw_p62 : lw_okq (⟨"PlateBeatsModel", "findAll", "()I"⟩, 10) := ⟨⟨by decide +kernel, by decide +kernel⟩, List.mem_of_getElem? (i := 441) (by decide +kernel), List.mem_of_getElem? (i := 691) (by decide +kernel), List.mem_of_getElem? (i := 692) (by decide +kernel)⟩
theorem lw_p63 : lw_okq (⟨"PlateBeatsModel", "note", "(I)V"⟩, 10) := ⟨⟨by decide +kernel, by decide +kernel⟩, List.mem_of_getElem? (i := 441) (by decide +kernel), List.mem_of_getElem? (i := 695) (by decide +kernel), List.mem_of_getElem? (i := 696) (by decide +kernel)⟩
def lw_privs_4 : List (MethodName × Nat) := [(⟨"PlateBeatsModel", "pairSquare", "(IIIIII)J"⟩, 10), (⟨"PlateBeatsModel", "pairBase", "(II)J"⟩, 10), (⟨"PlateBeatsModel", "kindOf", "(JJ)I"⟩, 10), (⟨"PlateBeatsModel", "laySquares", "(II)V"⟩, 10), (⟨"PlateBeatsModel", "layWith", "(IIII)V"⟩, 10), (⟨"PlateBeatsModel", "insert", "(J)V"⟩, 10), (⟨"PlateBeatsModel", "behind", "(I)I"⟩, 10), (⟨"PlateBeatsModel", "beat", "(IIII)J"⟩, 10), (⟨"PlateBeatsModel", "placeOf", "(I)I"⟩, 10), (⟨"PlateBeatsModel", "ofKind", "(III)I"⟩, 10), (⟨"PlateBeatsModel", "bandsOfThree", "(III)I"⟩, 10), (⟨"PlateBeatsModel", "tripleBase", "(III)J"⟩, 10), (⟨"PlateBeatsModel", "tripleSquare", "(IIII)J"⟩, 10), (⟨"PlateBeatsModel", "part", "(IIZ)I"⟩, 10), (⟨"PlateBeatsModel", "findAll", "()I"⟩, 10), (⟨"PlateBeatsModel", "note", "(I)V"⟩, 10)]
theorem lw_r4 : ∀ q ∈ lw_privs_4, lw_okq q := List.forall_mem_cons.mpr ⟨lw_p48, List.forall_mem_cons.mpr ⟨lw_p49, List.forall_mem_cons.mpr ⟨lw_p50, List.forall_mem_cons.mpr ⟨lw_p51, List.forall_mem_cons.mpr ⟨lw_p52, List.forall_mem_cons.mpr ⟨lw_p53, List.forall_mem_cons.mpr ⟨lw_p54, List.forall_mem_cons.mpr ⟨lw_p55, List.forall_mem_cons.mpr ⟨lw_p56, List.forall_mem_cons.mpr ⟨lw_p57, List.forall_mem_cons.mpr ⟨lw_p58, List.forall_mem_cons.mpr ⟨lw_p59, List.forall_mem_cons.mpr ⟨lw_p60, List.forall_mem_cons.mpr ⟨lw_p61, List.forall_mem_cons.mpr ⟨lw_p62, List.forall_mem_cons.mpr ⟨lw_p63, fun _ h => absurd h List.not_mem_nil⟩⟩⟩⟩⟩⟩⟩⟩⟩⟩⟩⟩⟩⟩⟩⟩
theorem lw_p64 : lw_okq (⟨"PlateBeatsModel", "isRange", "(III)Z"⟩, 10) := ⟨⟨by decide +kernel, by decide +kernel⟩, List.mem_of_getElem? (i := 441) (by decide +kernel), List.mem_of_getElem? (i := 715) (by decide +kernel), List.mem_of_getElem? (i := 716) (by decide +kernel)⟩
theorem lw_p65 : lw_okq (⟨"PlateBeatsModel", "search", "(III)I"⟩, 10) := ⟨⟨by decide +kernel, by decide +kernel⟩, List.mem_of_getElem? (i := 441) (by decide +kernel), List.mem_of_getElem? (i := 719) (by decide +kernel), List.mem_of_getElem? (i := 720) (by decide +kernel)⟩
def lw_privs_5 : List (MethodName × Nat) := [(⟨"PlateBeatsModel", "isRange", "(III)Z"⟩, 10), (⟨"PlateBeatsModel", "search", "(III)I"⟩, 10)]
theorem lw_r5 : ∀ q ∈ lw_privs_5, lw_okq q := List.forall_mem_cons.mpr ⟨lw_p64, List.forall_mem_cons.mpr ⟨lw_p65, fun _ h => absurd h List.not_mem_nil⟩⟩
def lw_privs : List (MethodName × Nat) := lw_privs_1 ++ (lw_privs_2 ++ (lw_privs_3 ++ (lw_privs_4 ++ (lw_privs_5))))
def lw_tbl : List Cond := k2_sels lw_privs ++ tables_1
theorem lw_privs_ok : ∀ q ∈ lw_privs, lw_okq q := by
  show ∀ q ∈ lw_privs_1 ++ (lw_privs_2 ++ (lw_privs_3 ++ (lw_privs_4 ++ (lw_privs_5)))), lw_okq q
  exact List.forall_mem_append.mpr ⟨lw_r1, List.forall_mem_append.mpr ⟨lw_r2, List.forall_mem_append.mpr ⟨lw_r3, List.forall_mem_append.mpr ⟨lw_r4, lw_r5⟩⟩⟩⟩
/-! ===== BEGIN words of one list among another's, by their places ===== -/
theorem goodIn_r {big : List Cond} (ws : List Cond) (ps : List Nat) (hp : ws = ps.filterMap (fun i => big[i]?)) (h : ws.all goodWord = true) : GoodIn big ws := by
  intro w hw
  have h1 := List.all_eq_true.mp h w hw
  rw [hp] at hw
  obtain ⟨i, -, hi⟩ := List.mem_filterMap.mp hw
  have hm : w ∈ big := by first | exact List.mem_of_getElem? hi | exact List.getElem?_mem hi
  exact ⟨hm, good_of_word h1⟩
theorem goodIn_app {big a b : List Cond} (ha : GoodIn big a) (hb : GoodIn big b) : GoodIn big (a ++ b) := fun w h => (List.mem_append.mp h).elim (ha w) (hb w)
theorem goodIn_ca {big a b : List Cond} {c : Cond} (ha : GoodIn big (c :: a)) (hb : GoodIn big b) : GoodIn big (c :: (a ++ b)) := fun w h => (List.mem_cons.mp h).elim (fun e => ha w (List.mem_cons.mpr (Or.inl e))) (fun h => (List.mem_append.mp h).elim (fun h => ha w (List.mem_cons.mpr (Or.inr h))) (hb w))
theorem goodIn_sub {big ws : List Cond} (hm : ∀ w ∈ ws, w ∈ big) (h : ws.all goodWord = true) : GoodIn big ws := fun w hw => ⟨hm w hw, good_of_word (List.all_eq_true.mp h w hw)⟩
/-! ===== END ===== -/

/-! ===== BEGIN printed: names, fields, word lists, decode rows ===== -/
def RX0 : String := "PlateBeats$Group"
def TX0 : u_T := fun k => match k with
  | 0 => ("PlateBeats$Group", "norms", "[I", true)
  | 1 => ("PlateBeats$Group", "size", "I", false)
  | 2 => ("PlateBeats$Group", "areas", "J", false)
  | 3 => ("PlateBeats$Group", "leastFine", "J", false)
  | _ => ("PlateBeats$Group", "greatestLong", "J", false)
def tyX0 : Nat → FieldType := fun k => match k with
  | 0 => .array .int
  | 1 => .int
  | 2 => .long
  | 3 => .long
  | _ => .long
abbrev wsX00 : List Cond := u_ws RX0 TX0 5
theorem nmX0 : ∀ a, a < 5 → ∀ b, b < 5 → a ≠ b → (TX0 a).2.1 ≠ (TX0 b).2.1 := by decide +kernel
theorem tyX0_ok : ∀ k, k < 5 → parseFieldDescriptor (TX0 k).2.2.1 = some (tyX0 k) := by decide +kernel
abbrev cX0_init : ByteArray := prog_2_method_1_code
def yX0_init : MethodName := ⟨RX0, "<init>", "()V"⟩
abbrev cX0_startPair : ByteArray := prog_2_method_2_code
def yX0_startPair : MethodName := ⟨RX0, "startPair", "(LPlateBeats$State;II)V"⟩
abbrev cX0_start : ByteArray := prog_2_method_3_code
def yX0_start : MethodName := ⟨RX0, "start", "(LPlateBeats$State;J)V"⟩
abbrev cX0_add : ByteArray := prog_2_method_4_code
def yX0_add : MethodName := ⟨RX0, "add", "(I)V"⟩
abbrev cX0_fillPair : ByteArray := prog_2_method_5_code
def yX0_fillPair : MethodName := ⟨RX0, "fillPair", "(LPlateBeats$State;II)V"⟩
abbrev cX0_addAllFor : ByteArray := prog_2_method_6_code
def yX0_addAllFor : MethodName := ⟨RX0, "addAllFor", "(LPlateBeats$State;IIII)V"⟩
abbrev cX0_fillTriple : ByteArray := prog_2_method_7_code
def yX0_fillTriple : MethodName := ⟨RX0, "fillTriple", "(LPlateBeats$State;III)V"⟩
abbrev cX0_productReal : ByteArray := prog_2_method_8_code
def yX0_productReal : MethodName := ⟨RX0, "productReal", "(LPlateBeats$State;II)I"⟩
abbrev cX0_productImaginary : ByteArray := prog_2_method_9_code
def yX0_productImaginary : MethodName := ⟨RX0, "productImaginary", "(LPlateBeats$State;II)I"⟩
abbrev cX0_fillPlates : ByteArray := prog_2_method_10_code
def yX0_fillPlates : MethodName := ⟨RX0, "fillPlates", "(LPlateBeats$State;I)V"⟩
abbrev cX0_firstPlate : ByteArray := prog_2_method_11_code
def yX0_firstPlate : MethodName := ⟨RX0, "firstPlate", "(II)I"⟩
abbrev cX0_kindOf : ByteArray := prog_2_method_12_code
def yX0_kindOf : MethodName := ⟨RX0, "kindOf", "(I)I"⟩
abbrev cX0_bandCount : ByteArray := prog_2_method_13_code
def yX0_bandCount : MethodName := ⟨RX0, "bandCount", "()I"⟩
abbrev cX0_worstPeriodFound : ByteArray := prog_2_method_14_code
def yX0_worstPeriodFound : MethodName := ⟨RX0, "worstPeriodFound", "()I"⟩
abbrev cX0_combinationsWith : ByteArray := prog_2_method_15_code
def yX0_combinationsWith : MethodName := ⟨RX0, "combinationsWith", "(I)I"⟩
abbrev cX0_sort : ByteArray := prog_2_method_16_code
def yX0_sort : MethodName := ⟨RX0, "sort", "()V"⟩
abbrev cX0_differentNorms : ByteArray := prog_2_method_17_code
def yX0_differentNorms : MethodName := ⟨RX0, "differentNorms", "()I"⟩
abbrev cX0_normAt : ByteArray := prog_2_method_18_code
def yX0_normAt : MethodName := ⟨RX0, "normAt", "(I)I"⟩
abbrev cX0_numerator : ByteArray := prog_2_method_19_code
def yX0_numerator : MethodName := ⟨RX0, "numerator", "(I)J"⟩
abbrev cX0_denominator : ByteArray := prog_2_method_20_code
def yX0_denominator : MethodName := ⟨RX0, "denominator", "(I)J"⟩
abbrev cX0_period : ByteArray := prog_2_method_21_code
def yX0_period : MethodName := ⟨RX0, "period", "(I)I"⟩
def RX1 : String := "PlateBeats$State"
def TX1 : u_T := fun k => match k with
  | 0 => ("PlateBeats$State", "p", "[I", true)
  | 1 => ("PlateBeats$State", "q", "[I", true)
  | 2 => ("PlateBeats$State", "count", "I", false)
  | 3 => ("PlateBeats$State", "order", "I", false)
  | 4 => ("PlateBeats$State", "fineLimit", "I", false)
  | _ => ("PlateBeats$State", "longLimit", "I", false)
def tyX1 : Nat → FieldType := fun k => match k with
  | 0 => .array .int
  | 1 => .array .int
  | 2 => .int
  | 3 => .int
  | 4 => .int
  | _ => .int
abbrev wsX10 : List Cond := u_ws RX1 TX1 6
theorem nmX1 : ∀ a, a < 6 → ∀ b, b < 6 → a ≠ b → (TX1 a).2.1 ≠ (TX1 b).2.1 := by decide +kernel
theorem tyX1_ok : ∀ k, k < 6 → parseFieldDescriptor (TX1 k).2.2.1 = some (tyX1 k) := by decide +kernel
abbrev cX1_init : ByteArray := prog_3_method_1_code
def yX1_init : MethodName := ⟨RX1, "<init>", "()V"⟩
abbrev cX1_has : ByteArray := prog_3_method_2_code
def yX1_has : MethodName := ⟨RX1, "has", "(I)Z"⟩
abbrev cX1_hasPair : ByteArray := prog_3_method_3_code
def yX1_hasPair : MethodName := ⟨RX1, "hasPair", "(II)Z"⟩
abbrev cX1_hasAll : ByteArray := prog_3_method_4_code
def yX1_hasAll : MethodName := ⟨RX1, "hasAll", "(I)Z"⟩
abbrev cX1_isFactorPair : ByteArray := prog_3_method_5_code
def yX1_isFactorPair : MethodName := ⟨RX1, "isFactorPair", "(II)Z"⟩
abbrev cX1_pOf : ByteArray := prog_3_method_6_code
def yX1_pOf : MethodName := ⟨RX1, "pOf", "(I)I"⟩
abbrev cX1_qOf : ByteArray := prog_3_method_7_code
def yX1_qOf : MethodName := ⟨RX1, "qOf", "(I)I"⟩
abbrev cX1_areaOf : ByteArray := prog_3_method_8_code
def yX1_areaOf : MethodName := ⟨RX1, "areaOf", "(I)I"⟩
abbrev cX1_put : ByteArray := prog_3_method_9_code
def yX1_put : MethodName := ⟨RX1, "put", "(III)V"⟩
abbrev cX1_append : ByteArray := prog_3_method_10_code
def yX1_append : MethodName := ⟨RX1, "append", "(II)V"⟩
abbrev cX1_drop : ByteArray := prog_3_method_11_code
def yX1_drop : MethodName := ⟨RX1, "drop", "(I)V"⟩
abbrev cX1_pairNorm : ByteArray := prog_3_method_12_code
def yX1_pairNorm : MethodName := ⟨RX1, "pairNorm", "(IIIIII)I"⟩
def RX2 : String := "PlateBeats"
def TX2 : u_T := fun k => match k with
  | 0 => ("PlateBeats", "present", "LPlateBeats$State;", true)
  | 1 => ("PlateBeats", "trial", "LPlateBeats$State;", true)
  | 2 => ("PlateBeats", "history", "[LPlateBeats$State;", true)
  | 3 => ("PlateBeats", "slots", "[LPlateBeats$State;", true)
  | 4 => ("PlateBeats", "slotFilled", "[Z", true)
  | 5 => ("PlateBeats", "group", "LPlateBeats$Group;", true)
  | _ => ("PlateBeats", "historyCount", "I", false)
def tyX2 : Nat → FieldType := fun k => match k with
  | 0 => .object "PlateBeats$State"
  | 1 => .object "PlateBeats$State"
  | 2 => .array (.object "PlateBeats$State")
  | 3 => .array (.object "PlateBeats$State")
  | 4 => .array .boolean
  | 5 => .object "PlateBeats$Group"
  | _ => .int
abbrev wsX20 : List Cond := u_ws RX2 TX2 7
theorem nmX2 : ∀ a, a < 7 → ∀ b, b < 7 → a ≠ b → (TX2 a).2.1 ≠ (TX2 b).2.1 := by decide +kernel
theorem tyX2_ok : ∀ k, k < 7 → parseFieldDescriptor (TX2 k).2.2.1 = some (tyX2 k) := by decide +kernel
abbrev cX2_init : ByteArray := prog_1_method_1_code
def yX2_init : MethodName := ⟨RX2, "<init>", "()V"⟩
abbrev cX2_addPlate : ByteArray := prog_1_method_2_code
def yX2_addPlate : MethodName := ⟨RX2, "addPlate", "(II)I"⟩
abbrev cX2_setScreen : ByteArray := prog_1_method_3_code
def yX2_setScreen : MethodName := ⟨RX2, "setScreen", "(III)I"⟩
abbrev cX2_removePlate : ByteArray := prog_1_method_4_code
def yX2_removePlate : MethodName := ⟨RX2, "removePlate", "(I)I"⟩
abbrev cX2_plateCount : ByteArray := prog_1_method_5_code
def yX2_plateCount : MethodName := ⟨RX2, "plateCount", "()I"⟩
abbrev cX2_cellP : ByteArray := prog_1_method_6_code
def yX2_cellP : MethodName := ⟨RX2, "cellP", "(I)I"⟩
abbrev cX2_cellQ : ByteArray := prog_1_method_7_code
def yX2_cellQ : MethodName := ⟨RX2, "cellQ", "(I)I"⟩
abbrev cX2_cellArea : ByteArray := prog_1_method_8_code
def yX2_cellArea : MethodName := ⟨RX2, "cellArea", "(I)I"⟩
abbrev cX2_tile : ByteArray := prog_1_method_9_code
def yX2_tile : MethodName := ⟨RX2, "tile", "(I)I"⟩
abbrev cX2_commonTile : ByteArray := prog_1_method_10_code
def yX2_commonTile : MethodName := ⟨RX2, "commonTile", "()J"⟩
abbrev cX2_byAngle : ByteArray := prog_1_method_11_code
def yX2_byAngle : MethodName := ⟨RX2, "byAngle", "(I)I"⟩
abbrev cX2_tileOf : ByteArray := prog_1_method_12_code
def yX2_tileOf : MethodName := ⟨RX2, "tileOf", "(I)J"⟩
abbrev cX2_platesBefore : ByteArray := prog_1_method_13_code
def yX2_platesBefore : MethodName := ⟨RX2, "platesBefore", "(I)I"⟩
abbrev cX2_isScreen : ByteArray := prog_1_method_14_code
def yX2_isScreen : MethodName := ⟨RX2, "isScreen", "(II)Z"⟩
abbrev cX2_setOrder : ByteArray := prog_1_method_15_code
def yX2_setOrder : MethodName := ⟨RX2, "setOrder", "(I)I"⟩
abbrev cX2_setLimits : ByteArray := prog_1_method_16_code
def yX2_setLimits : MethodName := ⟨RX2, "setLimits", "(II)I"⟩
abbrev cX2_longLimit : ByteArray := prog_1_method_17_code
def yX2_longLimit : MethodName := ⟨RX2, "longLimit", "()I"⟩
abbrev cX2_squareNumerator : ByteArray := prog_1_method_18_code
def yX2_squareNumerator : MethodName := ⟨RX2, "squareNumerator", "(IIIIII)J"⟩
abbrev cX2_squareDenominator : ByteArray := prog_1_method_19_code
def yX2_squareDenominator : MethodName := ⟨RX2, "squareDenominator", "(IIIIII)J"⟩
abbrev cX2_kind : ByteArray := prog_1_method_20_code
def yX2_kind : MethodName := ⟨RX2, "kind", "(IIIIII)I"⟩
abbrev cX2_beatCount : ByteArray := prog_1_method_21_code
def yX2_beatCount : MethodName := ⟨RX2, "beatCount", "(II)I"⟩
abbrev cX2_beatNumerator : ByteArray := prog_1_method_22_code
def yX2_beatNumerator : MethodName := ⟨RX2, "beatNumerator", "(III)J"⟩
abbrev cX2_beatDenominator : ByteArray := prog_1_method_23_code
def yX2_beatDenominator : MethodName := ⟨RX2, "beatDenominator", "(III)J"⟩
abbrev cX2_beatFrequency : ByteArray := prog_1_method_24_code
def yX2_beatFrequency : MethodName := ⟨RX2, "beatFrequency", "(III)I"⟩
abbrev cX2_beatPeriod : ByteArray := prog_1_method_25_code
def yX2_beatPeriod : MethodName := ⟨RX2, "beatPeriod", "(III)I"⟩
abbrev cX2_locked : ByteArray := prog_1_method_26_code
def yX2_locked : MethodName := ⟨RX2, "locked", "(II)I"⟩
abbrev cX2_bands : ByteArray := prog_1_method_27_code
def yX2_bands : MethodName := ⟨RX2, "bands", "(II)I"⟩
abbrev cX2_isCombination : ByteArray := prog_1_method_28_code
def yX2_isCombination : MethodName := ⟨RX2, "isCombination", "(IIIIII)Z"⟩
abbrev cX2_normOfRank : ByteArray := prog_1_method_29_code
def yX2_normOfRank : MethodName := ⟨RX2, "normOfRank", "(III)I"⟩
abbrev cX2_pairBands : ByteArray := prog_1_method_30_code
def yX2_pairBands : MethodName := ⟨RX2, "pairBands", "(II)I"⟩
abbrev cX2_tripleBands : ByteArray := prog_1_method_31_code
def yX2_tripleBands : MethodName := ⟨RX2, "tripleBands", "(III)I"⟩
abbrev cX2_allBands : ByteArray := prog_1_method_32_code
def yX2_allBands : MethodName := ⟨RX2, "allBands", "()I"⟩
abbrev cX2_worstPlates : ByteArray := prog_1_method_33_code
def yX2_worstPlates : MethodName := ⟨RX2, "worstPlates", "()I"⟩
abbrev cX2_worstPeriod : ByteArray := prog_1_method_34_code
def yX2_worstPeriod : MethodName := ⟨RX2, "worstPeriod", "()I"⟩
abbrev cX2_worstPair : ByteArray := prog_1_method_35_code
def yX2_worstPair : MethodName := ⟨RX2, "worstPair", "()I"⟩
abbrev cX2_worstPeriodOf : ByteArray := prog_1_method_36_code
def yX2_worstPeriodOf : MethodName := ⟨RX2, "worstPeriodOf", "(I)I"⟩
abbrev cX2_bandsOfGroups : ByteArray := prog_1_method_37_code
def yX2_bandsOfGroups : MethodName := ⟨RX2, "bandsOfGroups", "(LPlateBeats$State;I)I"⟩
abbrev cX2_bestScreen : ByteArray := prog_1_method_38_code
def yX2_bestScreen : MethodName := ⟨RX2, "bestScreen", "(III)I"⟩
abbrev cX2_bandsWithBest : ByteArray := prog_1_method_39_code
def yX2_bandsWithBest : MethodName := ⟨RX2, "bandsWithBest", "(III)I"⟩
abbrev cX2_search : ByteArray := prog_1_method_40_code
def yX2_search : MethodName := ⟨RX2, "search", "(III)I"⟩
abbrev cX2_save : ByteArray := prog_1_method_41_code
def yX2_save : MethodName := ⟨RX2, "save", "(I)I"⟩
abbrev cX2_restore : ByteArray := prog_1_method_42_code
def yX2_restore : MethodName := ⟨RX2, "restore", "(I)I"⟩
abbrev cX2_historySize : ByteArray := prog_1_method_43_code
def yX2_historySize : MethodName := ⟨RX2, "historySize", "()I"⟩
abbrev cX2_undo : ByteArray := prog_1_method_44_code
def yX2_undo : MethodName := ⟨RX2, "undo", "()I"⟩
abbrev cX2_isSlot : ByteArray := prog_1_method_45_code
def yX2_isSlot : MethodName := ⟨RX2, "isSlot", "(I)Z"⟩
abbrev cX2_record : ByteArray := prog_1_method_46_code
def yX2_record : MethodName := ⟨RX2, "record", "()V"⟩
abbrev cX2_dropOldest : ByteArray := prog_1_method_47_code
def yX2_dropOldest : MethodName := ⟨RX2, "dropOldest", "()V"⟩
abbrev cX2_copy : ByteArray := prog_1_method_48_code
def yX2_copy : MethodName := ⟨RX2, "copy", "(LPlateBeats$State;LPlateBeats$State;)V"⟩
abbrev cX2_realPart : ByteArray := prog_1_method_49_code
def yX2_realPart : MethodName := ⟨RX2, "realPart", "(IIII)I"⟩
abbrev cX2_imaginaryPart : ByteArray := prog_1_method_50_code
def yX2_imaginaryPart : MethodName := ⟨RX2, "imaginaryPart", "(IIII)I"⟩
abbrev cX2_gcd : ByteArray := prog_1_method_51_code
def yX2_gcd : MethodName := ⟨RX2, "gcd", "(JJ)J"⟩
abbrev cX2_divided : ByteArray := prog_1_method_52_code
def yX2_divided : MethodName := ⟨RX2, "divided", "(JJ)J"⟩
abbrev cX2_root : ByteArray := prog_1_method_53_code
def yX2_root : MethodName := ⟨RX2, "root", "(J)I"⟩
def RX3 : String := "PlateBeatsModel"
def TX3 : u_T := fun k => match k with
  | 0 => ("PlateBeatsModel", "p", "[I", true)
  | 1 => ("PlateBeatsModel", "saved", "[I", true)
  | 2 => ("PlateBeatsModel", "slots", "[I", true)
  | 3 => ("PlateBeatsModel", "states", "I", false)
  | 4 => ("PlateBeatsModel", "all", "I", false)
  | 5 => ("PlateBeatsModel", "square", "[J", true)
  | 6 => ("PlateBeatsModel", "widest", "J", false)
  | 7 => ("PlateBeatsModel", "worstSet", "I", false)
  | 8 => ("PlateBeatsModel", "worst", "I", false)
  | _ => ("PlateBeatsModel", "fewest", "I", false)
def tyX3 : Nat → FieldType := fun k => match k with
  | 0 => .array .int
  | 1 => .array .int
  | 2 => .array .int
  | 3 => .int
  | 4 => .int
  | 5 => .array .long
  | 6 => .long
  | 7 => .int
  | 8 => .int
  | _ => .int
abbrev wsX30 : List Cond := u_ws RX3 TX3 10
theorem nmX3 : ∀ a, a < 10 → ∀ b, b < 10 → a ≠ b → (TX3 a).2.1 ≠ (TX3 b).2.1 := by decide +kernel
theorem tyX3_ok : ∀ k, k < 10 → parseFieldDescriptor (TX3 k).2.2.1 = some (tyX3 k) := by decide +kernel
abbrev cX3_init : ByteArray := prog_5_method_1_code
def yX3_init : MethodName := ⟨RX3, "<init>", "()V"⟩
abbrev cX3_in : ByteArray := prog_5_method_3_code
def yX3_in : MethodName := ⟨RX3, "in", "(III)Z"⟩
abbrev cX3_records : ByteArray := prog_5_method_4_code
def yX3_records : MethodName := ⟨RX3, "records", "()V"⟩
abbrev cX3_isPlate : ByteArray := prog_5_method_5_code
def yX3_isPlate : MethodName := ⟨RX3, "isPlate", "(I)Z"⟩
abbrev cX3_isPair : ByteArray := prog_5_method_6_code
def yX3_isPair : MethodName := ⟨RX3, "isPair", "(II)Z"⟩
abbrev cX3_isVector : ByteArray := prog_5_method_7_code
def yX3_isVector : MethodName := ⟨RX3, "isVector", "(II)Z"⟩
abbrev cX3_firstOf : ByteArray := prog_5_method_8_code
def yX3_firstOf : MethodName := ⟨RX3, "firstOf", "(I)I"⟩
abbrev cX3_secondOf : ByteArray := prog_5_method_9_code
def yX3_secondOf : MethodName := ⟨RX3, "secondOf", "(I)I"⟩
abbrev cX3_areaOf : ByteArray := prog_5_method_10_code
def yX3_areaOf : MethodName := ⟨RX3, "areaOf", "(I)I"⟩
abbrev cX3_common : ByteArray := prog_5_method_11_code
def yX3_common : MethodName := ⟨RX3, "common", "(JJ)J"⟩
abbrev cX3_addPlate : ByteArray := prog_5_method_12_code
def yX3_addPlate : MethodName := ⟨RX3, "addPlate", "(II)I"⟩
abbrev cX3_setScreen : ByteArray := prog_5_method_13_code
def yX3_setScreen : MethodName := ⟨RX3, "setScreen", "(III)I"⟩
abbrev cX3_removePlate : ByteArray := prog_5_method_14_code
def yX3_removePlate : MethodName := ⟨RX3, "removePlate", "(I)I"⟩
abbrev cX3_plateCount : ByteArray := prog_5_method_15_code
def yX3_plateCount : MethodName := ⟨RX3, "plateCount", "()I"⟩
abbrev cX3_cellP : ByteArray := prog_5_method_16_code
def yX3_cellP : MethodName := ⟨RX3, "cellP", "(I)I"⟩
abbrev cX3_cellQ : ByteArray := prog_5_method_17_code
def yX3_cellQ : MethodName := ⟨RX3, "cellQ", "(I)I"⟩
abbrev cX3_cellArea : ByteArray := prog_5_method_18_code
def yX3_cellArea : MethodName := ⟨RX3, "cellArea", "(I)I"⟩
abbrev cX3_tileOf : ByteArray := prog_5_method_19_code
def yX3_tileOf : MethodName := ⟨RX3, "tileOf", "(I)I"⟩
abbrev cX3_tile : ByteArray := prog_5_method_20_code
def yX3_tile : MethodName := ⟨RX3, "tile", "(I)I"⟩
abbrev cX3_commonTile : ByteArray := prog_5_method_21_code
def yX3_commonTile : MethodName := ⟨RX3, "commonTile", "()J"⟩
abbrev cX3_isAhead : ByteArray := prog_5_method_22_code
def yX3_isAhead : MethodName := ⟨RX3, "isAhead", "(II)Z"⟩
abbrev cX3_byAngle : ByteArray := prog_5_method_23_code
def yX3_byAngle : MethodName := ⟨RX3, "byAngle", "(I)I"⟩
abbrev cX3_setOrder : ByteArray := prog_5_method_24_code
def yX3_setOrder : MethodName := ⟨RX3, "setOrder", "(I)I"⟩
abbrev cX3_setLimits : ByteArray := prog_5_method_25_code
def yX3_setLimits : MethodName := ⟨RX3, "setLimits", "(II)I"⟩
abbrev cX3_longLimit : ByteArray := prog_5_method_26_code
def yX3_longLimit : MethodName := ⟨RX3, "longLimit", "()I"⟩
abbrev cX3_pairSquare : ByteArray := prog_5_method_27_code
def yX3_pairSquare : MethodName := ⟨RX3, "pairSquare", "(IIIIII)J"⟩
abbrev cX3_pairBase : ByteArray := prog_5_method_28_code
def yX3_pairBase : MethodName := ⟨RX3, "pairBase", "(II)J"⟩
abbrev cX3_part : ByteArray := prog_5_method_29_code
def yX3_part : MethodName := ⟨RX3, "part", "(IIZ)I"⟩
abbrev cX3_tripleSquare : ByteArray := prog_5_method_30_code
def yX3_tripleSquare : MethodName := ⟨RX3, "tripleSquare", "(IIII)J"⟩
abbrev cX3_tripleBase : ByteArray := prog_5_method_31_code
def yX3_tripleBase : MethodName := ⟨RX3, "tripleBase", "(III)J"⟩
abbrev cX3_kindOf : ByteArray := prog_5_method_32_code
def yX3_kindOf : MethodName := ⟨RX3, "kindOf", "(JJ)I"⟩
abbrev cX3_periodOf : ByteArray := prog_5_method_33_code
def yX3_periodOf : MethodName := ⟨RX3, "periodOf", "(JJ)I"⟩
abbrev cX3_isPart : ByteArray := prog_5_method_34_code
def yX3_isPart : MethodName := ⟨RX3, "isPart", "(II)Z"⟩
abbrev cX3_isCombination : ByteArray := prog_5_method_35_code
def yX3_isCombination : MethodName := ⟨RX3, "isCombination", "(IIIIII)Z"⟩
abbrev cX3_squareNumerator : ByteArray := prog_5_method_36_code
def yX3_squareNumerator : MethodName := ⟨RX3, "squareNumerator", "(IIIIII)J"⟩
abbrev cX3_squareDenominator : ByteArray := prog_5_method_37_code
def yX3_squareDenominator : MethodName := ⟨RX3, "squareDenominator", "(IIIIII)J"⟩
abbrev cX3_kind : ByteArray := prog_5_method_38_code
def yX3_kind : MethodName := ⟨RX3, "kind", "(IIIIII)I"⟩
abbrev cX3_laySquares : ByteArray := prog_5_method_39_code
def yX3_laySquares : MethodName := ⟨RX3, "laySquares", "(II)V"⟩
abbrev cX3_layWith : ByteArray := prog_5_method_40_code
def yX3_layWith : MethodName := ⟨RX3, "layWith", "(IIII)V"⟩
abbrev cX3_insert : ByteArray := prog_5_method_41_code
def yX3_insert : MethodName := ⟨RX3, "insert", "(J)V"⟩
abbrev cX3_placeOf : ByteArray := prog_5_method_42_code
def yX3_placeOf : MethodName := ⟨RX3, "placeOf", "(I)I"⟩
abbrev cX3_behind : ByteArray := prog_5_method_43_code
def yX3_behind : MethodName := ⟨RX3, "behind", "(I)I"⟩
abbrev cX3_beatCount : ByteArray := prog_5_method_44_code
def yX3_beatCount : MethodName := ⟨RX3, "beatCount", "(II)I"⟩
abbrev cX3_beat : ByteArray := prog_5_method_45_code
def yX3_beat : MethodName := ⟨RX3, "beat", "(IIII)J"⟩
abbrev cX3_beatNumerator : ByteArray := prog_5_method_46_code
def yX3_beatNumerator : MethodName := ⟨RX3, "beatNumerator", "(III)J"⟩
abbrev cX3_beatDenominator : ByteArray := prog_5_method_47_code
def yX3_beatDenominator : MethodName := ⟨RX3, "beatDenominator", "(III)J"⟩
abbrev cX3_beatFrequency : ByteArray := prog_5_method_48_code
def yX3_beatFrequency : MethodName := ⟨RX3, "beatFrequency", "(III)I"⟩
abbrev cX3_beatPeriod : ByteArray := prog_5_method_49_code
def yX3_beatPeriod : MethodName := ⟨RX3, "beatPeriod", "(III)I"⟩
abbrev cX3_ofKind : ByteArray := prog_5_method_50_code
def yX3_ofKind : MethodName := ⟨RX3, "ofKind", "(III)I"⟩
abbrev cX3_locked : ByteArray := prog_5_method_51_code
def yX3_locked : MethodName := ⟨RX3, "locked", "(II)I"⟩
abbrev cX3_bands : ByteArray := prog_5_method_52_code
def yX3_bands : MethodName := ⟨RX3, "bands", "(II)I"⟩
abbrev cX3_bandsOfThree : ByteArray := prog_5_method_53_code
def yX3_bandsOfThree : MethodName := ⟨RX3, "bandsOfThree", "(III)I"⟩
abbrev cX3_tripleBands : ByteArray := prog_5_method_54_code
def yX3_tripleBands : MethodName := ⟨RX3, "tripleBands", "(III)I"⟩
abbrev cX3_findAll : ByteArray := prog_5_method_55_code
def yX3_findAll : MethodName := ⟨RX3, "findAll", "()I"⟩
abbrev cX3_note : ByteArray := prog_5_method_56_code
def yX3_note : MethodName := ⟨RX3, "note", "(I)V"⟩
abbrev cX3_allBands : ByteArray := prog_5_method_57_code
def yX3_allBands : MethodName := ⟨RX3, "allBands", "()I"⟩
abbrev cX3_worstPlates : ByteArray := prog_5_method_58_code
def yX3_worstPlates : MethodName := ⟨RX3, "worstPlates", "()I"⟩
abbrev cX3_worstPeriod : ByteArray := prog_5_method_59_code
def yX3_worstPeriod : MethodName := ⟨RX3, "worstPeriod", "()I"⟩
abbrev cX3_worstPair : ByteArray := prog_5_method_60_code
def yX3_worstPair : MethodName := ⟨RX3, "worstPair", "()I"⟩
abbrev cX3_size : ByteArray := prog_5_method_61_code
def yX3_size : MethodName := ⟨RX3, "size", "(I)I"⟩
abbrev cX3_search : ByteArray := prog_5_method_62_code
def yX3_search : MethodName := ⟨RX3, "search", "(III)I"⟩
abbrev cX3_isRange : ByteArray := prog_5_method_63_code
def yX3_isRange : MethodName := ⟨RX3, "isRange", "(III)Z"⟩
abbrev cX3_bestScreen : ByteArray := prog_5_method_64_code
def yX3_bestScreen : MethodName := ⟨RX3, "bestScreen", "(III)I"⟩
abbrev cX3_bandsWithBest : ByteArray := prog_5_method_65_code
def yX3_bandsWithBest : MethodName := ⟨RX3, "bandsWithBest", "(III)I"⟩
abbrev cX3_save : ByteArray := prog_5_method_66_code
def yX3_save : MethodName := ⟨RX3, "save", "(I)I"⟩
abbrev cX3_restore : ByteArray := prog_5_method_67_code
def yX3_restore : MethodName := ⟨RX3, "restore", "(I)I"⟩
abbrev cX3_historySize : ByteArray := prog_5_method_68_code
def yX3_historySize : MethodName := ⟨RX3, "historySize", "()I"⟩
abbrev cX3_undo : ByteArray := prog_5_method_69_code
def yX3_undo : MethodName := ⟨RX3, "undo", "()I"⟩
def RJ9 : String := "java/lang/Math"
def TJ9 : u_T := fun k => match k with
  | _ => ("", "", "", false)
def tyJ9 : Nat → FieldType := fun k => match k with
  | _ => .int
abbrev wsJ90 : List Cond := u_ws RJ9 TJ9 0
theorem nmJ9 : ∀ a, a < 0 → ∀ b, b < 0 → a ≠ b → (TJ9 a).2.1 ≠ (TJ9 b).2.1 := by decide +kernel
theorem tyJ9_ok : ∀ k, k < 0 → parseFieldDescriptor (TJ9 k).2.2.1 = some (tyJ9 k) := by decide +kernel
abbrev cJ9_abs_0f7a4 : ByteArray := prog_6_method_59_code
def yJ9_abs_0f7a4 : MethodName := ⟨RJ9, "abs", "(I)I"⟩
def RL : String := "PlateBeatsLaw"
abbrev cL_law : ByteArray := code
def yL_law : MethodName := ⟨RL, "law", "([I)Z"⟩
def wsX0_init : List Cond := .code yX0_init cX0_init 1 none :: ([.methodLink RX0 3 objectInit, .instanceMethod objectInit, .code objectInit ⟨#[0xb1]⟩ 1 none, .arrayClass .int, .fieldLink RX0 9 "PlateBeats$Group" "norms" "[I", .fieldLink RX0 15 "PlateBeats$Group" "areas" "J", .fieldLink RX0 19 "PlateBeats$Group" "leastFine" "J", .fieldLink RX0 22 "PlateBeats$Group" "greatestLong" "J"] ++ wsX00)
def wsX1_has : List Cond := .code yX1_has cX1_has 2 (some .boolean) :: ([.fieldLink RX1 18 "PlateBeats$State" "count" "I"] ++ wsX10)
def wsX1_pOf : List Cond := .code yX1_pOf cX1_pOf 2 (some .int) :: ([.fieldLink RX1 9 "PlateBeats$State" "p" "[I", .methodLink RX1 31 yX1_has, .instanceMethod yX1_has, .selects RX1 yX1_has yX1_has, .initialized RX1, .code yX1_has cX1_has 2 (some .boolean), .fieldLink RX1 18 "PlateBeats$State" "count" "I"] ++ wsX10)
def wsX1_qOf : List Cond := .code yX1_qOf cX1_qOf 2 (some .int) :: ([.fieldLink RX1 15 "PlateBeats$State" "q" "[I", .methodLink RX1 31 yX1_has, .instanceMethod yX1_has, .selects RX1 yX1_has yX1_has, .initialized RX1, .code yX1_has cX1_has 2 (some .boolean), .fieldLink RX1 18 "PlateBeats$State" "count" "I"] ++ wsX10)
def wsX1_areaOf : List Cond := .code yX1_areaOf cX1_areaOf 2 (some .int) :: ([.methodLink RX1 35 yX1_pOf, .instanceMethod yX1_pOf, .selects RX1 yX1_pOf yX1_pOf, .initialized RX1, .code yX1_pOf cX1_pOf 2 (some .int), .fieldLink RX1 9 "PlateBeats$State" "p" "[I", .methodLink RX1 31 yX1_has, .instanceMethod yX1_has, .selects RX1 yX1_has yX1_has, .code yX1_has cX1_has 2 (some .boolean), .fieldLink RX1 18 "PlateBeats$State" "count" "I", .methodLink RX1 39 yX1_qOf, .instanceMethod yX1_qOf, .selects RX1 yX1_qOf yX1_qOf, .code yX1_qOf cX1_qOf 2 (some .int), .fieldLink RX1 15 "PlateBeats$State" "q" "[I"] ++ wsX10)
def wsX2_divided : List Cond := .code yX2_divided cX2_divided 4 (some .long) :: ([])
def wsX0_start : List Cond := .code yX0_start cX0_start 8 none :: ([.fieldLink RX0 35 "PlateBeats$Group" "size" "I", .fieldLink RX0 15 "PlateBeats$Group" "areas" "J", .fieldLink RX0 19 "PlateBeats$Group" "leastFine" "J", .fieldLink RX0 22 "PlateBeats$Group" "greatestLong" "J", .static yX2_divided, .initialized RX2, .code yX2_divided cX2_divided 4 (some .long)] ++ wsX00 ++ wsX10)
def wsX0_startPair_r1 : List Cond := [Cond.instanceMethod yX1_areaOf, Cond.initialized RX1, Cond.selects RX1 yX1_areaOf yX1_areaOf, Cond.code yX1_areaOf cX1_areaOf 2 (some .int), Cond.methodLink RX1 35 yX1_pOf, Cond.instanceMethod yX1_pOf, Cond.selects RX1 yX1_pOf yX1_pOf, Cond.code yX1_pOf cX1_pOf 2 (some .int), Cond.fieldLink RX1 9 "PlateBeats$State" "p" "[I", Cond.methodLink RX1 31 yX1_has, Cond.instanceMethod yX1_has, Cond.selects RX1 yX1_has yX1_has, Cond.code yX1_has cX1_has 2 (some .boolean), Cond.fieldLink RX1 18 "PlateBeats$State" "count" "I", Cond.methodLink RX1 39 yX1_qOf, Cond.instanceMethod yX1_qOf, Cond.selects RX1 yX1_qOf yX1_qOf, Cond.code yX1_qOf cX1_qOf 2 (some .int), Cond.fieldLink RX1 15 "PlateBeats$State" "q" "[I", Cond.methodLink RX0 31 yX0_start, Cond.instanceMethod yX0_start, Cond.selects RX0 yX0_start yX0_start, Cond.initialized RX0, Cond.code yX0_start cX0_start 8 none]
def wsX0_startPair_r2 : List Cond := [Cond.fieldLink RX0 35 "PlateBeats$Group" "size" "I", Cond.fieldLink RX0 15 "PlateBeats$Group" "areas" "J", Cond.fieldLink RX0 19 "PlateBeats$Group" "leastFine" "J", Cond.fieldLink RX0 22 "PlateBeats$Group" "greatestLong" "J", Cond.static yX2_divided, Cond.initialized RX2, Cond.code yX2_divided cX2_divided 4 (some .long)]
def wsX0_startPair : List Cond := .code yX0_startPair cX0_startPair 4 none :: ((wsX0_startPair_r1 ++ wsX0_startPair_r2) ++ wsX10 ++ wsX00)
def wsX0_add : List Cond := .code yX0_add cX0_add 2 none :: ([.fieldLink RX0 35 "PlateBeats$Group" "size" "I", .fieldLink RX0 9 "PlateBeats$Group" "norms" "[I"] ++ wsX00)
def wsX2_realPart : List Cond := .code yX2_realPart cX2_realPart 4 (some .int) :: ([])
def wsX2_imaginaryPart : List Cond := .code yX2_imaginaryPart cX2_imaginaryPart 4 (some .int) :: ([])
def wsX0_addAllFor_r1 : List Cond := [Cond.instanceMethod yX1_pOf, Cond.initialized RX1, Cond.selects RX1 yX1_pOf yX1_pOf, Cond.code yX1_pOf cX1_pOf 2 (some .int), Cond.fieldLink RX1 9 "PlateBeats$State" "p" "[I", Cond.methodLink RX1 31 yX1_has, Cond.instanceMethod yX1_has, Cond.selects RX1 yX1_has yX1_has, Cond.code yX1_has cX1_has 2 (some .boolean), Cond.fieldLink RX1 18 "PlateBeats$State" "count" "I", Cond.instanceMethod yX1_qOf, Cond.selects RX1 yX1_qOf yX1_qOf, Cond.code yX1_qOf cX1_qOf 2 (some .int), Cond.fieldLink RX1 15 "PlateBeats$State" "q" "[I", Cond.static yX2_realPart, Cond.initialized RX2, Cond.code yX2_realPart cX2_realPart 4 (some .int), Cond.static yX2_imaginaryPart, Cond.code yX2_imaginaryPart cX2_imaginaryPart 4 (some .int), Cond.methodLink RX0 73 yX0_add, Cond.instanceMethod yX0_add, Cond.selects RX0 yX0_add yX0_add, Cond.initialized RX0, Cond.code yX0_add cX0_add 2 none]
def wsX0_addAllFor_r2 : List Cond := [Cond.fieldLink RX0 35 "PlateBeats$Group" "size" "I", Cond.fieldLink RX0 9 "PlateBeats$Group" "norms" "[I"]
def wsX0_addAllFor : List Cond := .code yX0_addAllFor cX0_addAllFor 14 none :: ((wsX0_addAllFor_r1 ++ wsX0_addAllFor_r2) ++ wsX10 ++ wsX00)
def wsX0_fillPair_r1 : List Cond := [Cond.methodLink RX0 49 yX0_startPair, Cond.instanceMethod yX0_startPair, Cond.selects RX0 yX0_startPair yX0_startPair, Cond.initialized RX0, Cond.code yX0_startPair cX0_startPair 4 none, Cond.instanceMethod yX1_areaOf, Cond.initialized RX1, Cond.selects RX1 yX1_areaOf yX1_areaOf, Cond.code yX1_areaOf cX1_areaOf 2 (some .int), Cond.methodLink RX1 35 yX1_pOf, Cond.instanceMethod yX1_pOf, Cond.selects RX1 yX1_pOf yX1_pOf, Cond.code yX1_pOf cX1_pOf 2 (some .int), Cond.fieldLink RX1 9 "PlateBeats$State" "p" "[I", Cond.methodLink RX1 31 yX1_has, Cond.instanceMethod yX1_has, Cond.selects RX1 yX1_has yX1_has, Cond.code yX1_has cX1_has 2 (some .boolean), Cond.fieldLink RX1 18 "PlateBeats$State" "count" "I", Cond.methodLink RX1 39 yX1_qOf, Cond.instanceMethod yX1_qOf, Cond.selects RX1 yX1_qOf yX1_qOf, Cond.code yX1_qOf cX1_qOf 2 (some .int), Cond.fieldLink RX1 15 "PlateBeats$State" "q" "[I"]
def wsX0_fillPair_r2 : List Cond := [Cond.methodLink RX0 31 yX0_start, Cond.instanceMethod yX0_start, Cond.selects RX0 yX0_start yX0_start, Cond.code yX0_start cX0_start 8 none, Cond.fieldLink RX0 35 "PlateBeats$Group" "size" "I", Cond.fieldLink RX0 15 "PlateBeats$Group" "areas" "J", Cond.fieldLink RX0 19 "PlateBeats$Group" "leastFine" "J", Cond.fieldLink RX0 22 "PlateBeats$Group" "greatestLong" "J", Cond.static yX2_divided, Cond.initialized RX2, Cond.code yX2_divided cX2_divided 4 (some .long), Cond.methodLink RX0 56 yX0_addAllFor, Cond.instanceMethod yX0_addAllFor, Cond.selects RX0 yX0_addAllFor yX0_addAllFor, Cond.code yX0_addAllFor cX0_addAllFor 14 none, Cond.static yX2_realPart, Cond.code yX2_realPart cX2_realPart 4 (some .int), Cond.static yX2_imaginaryPart, Cond.code yX2_imaginaryPart cX2_imaginaryPart 4 (some .int), Cond.methodLink RX0 73 yX0_add, Cond.instanceMethod yX0_add, Cond.selects RX0 yX0_add yX0_add, Cond.code yX0_add cX0_add 2 none, Cond.fieldLink RX0 9 "PlateBeats$Group" "norms" "[I"]
def wsX0_fillPair : List Cond := .code yX0_fillPair cX0_fillPair 6 none :: ((wsX0_fillPair_r1 ++ wsX0_fillPair_r2) ++ wsX10 ++ wsX00)
def wsX0_productReal : List Cond := .code yX0_productReal cX0_productReal 3 (some .int) :: ([.instanceMethod yX1_pOf, .initialized RX1, .selects RX1 yX1_pOf yX1_pOf, .code yX1_pOf cX1_pOf 2 (some .int), .fieldLink RX1 9 "PlateBeats$State" "p" "[I", .methodLink RX1 31 yX1_has, .instanceMethod yX1_has, .selects RX1 yX1_has yX1_has, .code yX1_has cX1_has 2 (some .boolean), .fieldLink RX1 18 "PlateBeats$State" "count" "I", .instanceMethod yX1_qOf, .selects RX1 yX1_qOf yX1_qOf, .code yX1_qOf cX1_qOf 2 (some .int), .fieldLink RX1 15 "PlateBeats$State" "q" "[I"] ++ wsX10)
def wsX0_productImaginary : List Cond := .code yX0_productImaginary cX0_productImaginary 3 (some .int) :: ([.instanceMethod yX1_pOf, .initialized RX1, .selects RX1 yX1_pOf yX1_pOf, .code yX1_pOf cX1_pOf 2 (some .int), .fieldLink RX1 9 "PlateBeats$State" "p" "[I", .methodLink RX1 31 yX1_has, .instanceMethod yX1_has, .selects RX1 yX1_has yX1_has, .code yX1_has cX1_has 2 (some .boolean), .fieldLink RX1 18 "PlateBeats$State" "count" "I", .instanceMethod yX1_qOf, .selects RX1 yX1_qOf yX1_qOf, .code yX1_qOf cX1_qOf 2 (some .int), .fieldLink RX1 15 "PlateBeats$State" "q" "[I"] ++ wsX10)
def wsX0_fillTriple_r1 : List Cond := [Cond.instanceMethod yX1_areaOf, Cond.initialized RX1, Cond.selects RX1 yX1_areaOf yX1_areaOf, Cond.code yX1_areaOf cX1_areaOf 2 (some .int), Cond.methodLink RX1 35 yX1_pOf, Cond.instanceMethod yX1_pOf, Cond.selects RX1 yX1_pOf yX1_pOf, Cond.code yX1_pOf cX1_pOf 2 (some .int), Cond.fieldLink RX1 9 "PlateBeats$State" "p" "[I", Cond.methodLink RX1 31 yX1_has, Cond.instanceMethod yX1_has, Cond.selects RX1 yX1_has yX1_has, Cond.code yX1_has cX1_has 2 (some .boolean), Cond.fieldLink RX1 18 "PlateBeats$State" "count" "I", Cond.methodLink RX1 39 yX1_qOf, Cond.instanceMethod yX1_qOf, Cond.selects RX1 yX1_qOf yX1_qOf, Cond.code yX1_qOf cX1_qOf 2 (some .int), Cond.fieldLink RX1 15 "PlateBeats$State" "q" "[I", Cond.methodLink RX0 31 yX0_start, Cond.instanceMethod yX0_start, Cond.selects RX0 yX0_start yX0_start, Cond.initialized RX0, Cond.code yX0_start cX0_start 8 none]
def wsX0_fillTriple_r2 : List Cond := [Cond.fieldLink RX0 35 "PlateBeats$Group" "size" "I", Cond.fieldLink RX0 15 "PlateBeats$Group" "areas" "J", Cond.fieldLink RX0 19 "PlateBeats$Group" "leastFine" "J", Cond.fieldLink RX0 22 "PlateBeats$Group" "greatestLong" "J", Cond.static yX2_divided, Cond.initialized RX2, Cond.code yX2_divided cX2_divided 4 (some .long), Cond.methodLink RX0 77 yX0_productReal, Cond.static yX0_productReal, Cond.code yX0_productReal cX0_productReal 3 (some .int), Cond.methodLink RX0 81 yX0_productImaginary, Cond.static yX0_productImaginary, Cond.code yX0_productImaginary cX0_productImaginary 3 (some .int), Cond.methodLink RX0 73 yX0_add, Cond.instanceMethod yX0_add, Cond.selects RX0 yX0_add yX0_add, Cond.code yX0_add cX0_add 2 none, Cond.fieldLink RX0 9 "PlateBeats$Group" "norms" "[I"]
def wsX0_fillTriple : List Cond := .code yX0_fillTriple cX0_fillTriple 16 none :: ((wsX0_fillTriple_r1 ++ wsX0_fillTriple_r2) ++ wsX10 ++ wsX00)
def wsX0_firstPlate : List Cond := .code yX0_firstPlate cX0_firstPlate 3 (some .int) :: ([])
def wsX0_fillPlates_r1 : List Cond := [Cond.methodLink RX0 84 yX0_firstPlate, Cond.static yX0_firstPlate, Cond.initialized RX0, Cond.code yX0_firstPlate cX0_firstPlate 3 (some .int), Cond.methodLink RX0 88 yX0_fillTriple, Cond.instanceMethod yX0_fillTriple, Cond.selects RX0 yX0_fillTriple yX0_fillTriple, Cond.code yX0_fillTriple cX0_fillTriple 16 none, Cond.instanceMethod yX1_areaOf, Cond.initialized RX1, Cond.selects RX1 yX1_areaOf yX1_areaOf, Cond.code yX1_areaOf cX1_areaOf 2 (some .int), Cond.methodLink RX1 35 yX1_pOf, Cond.instanceMethod yX1_pOf, Cond.selects RX1 yX1_pOf yX1_pOf, Cond.code yX1_pOf cX1_pOf 2 (some .int), Cond.fieldLink RX1 9 "PlateBeats$State" "p" "[I", Cond.methodLink RX1 31 yX1_has, Cond.instanceMethod yX1_has, Cond.selects RX1 yX1_has yX1_has, Cond.code yX1_has cX1_has 2 (some .boolean), Cond.fieldLink RX1 18 "PlateBeats$State" "count" "I", Cond.methodLink RX1 39 yX1_qOf, Cond.instanceMethod yX1_qOf]
def wsX0_fillPlates_r2 : List Cond := [Cond.selects RX1 yX1_qOf yX1_qOf, Cond.code yX1_qOf cX1_qOf 2 (some .int), Cond.fieldLink RX1 15 "PlateBeats$State" "q" "[I", Cond.methodLink RX0 31 yX0_start, Cond.instanceMethod yX0_start, Cond.selects RX0 yX0_start yX0_start, Cond.code yX0_start cX0_start 8 none, Cond.fieldLink RX0 35 "PlateBeats$Group" "size" "I", Cond.fieldLink RX0 15 "PlateBeats$Group" "areas" "J", Cond.fieldLink RX0 19 "PlateBeats$Group" "leastFine" "J", Cond.fieldLink RX0 22 "PlateBeats$Group" "greatestLong" "J", Cond.static yX2_divided, Cond.initialized RX2, Cond.code yX2_divided cX2_divided 4 (some .long), Cond.methodLink RX0 77 yX0_productReal, Cond.static yX0_productReal, Cond.code yX0_productReal cX0_productReal 3 (some .int), Cond.methodLink RX0 81 yX0_productImaginary, Cond.static yX0_productImaginary, Cond.code yX0_productImaginary cX0_productImaginary 3 (some .int), Cond.methodLink RX0 73 yX0_add, Cond.instanceMethod yX0_add, Cond.selects RX0 yX0_add yX0_add, Cond.code yX0_add cX0_add 2 none]
def wsX0_fillPlates_r3 : List Cond := [Cond.fieldLink RX0 9 "PlateBeats$Group" "norms" "[I", Cond.methodLink RX0 92 yX0_fillPair, Cond.instanceMethod yX0_fillPair, Cond.selects RX0 yX0_fillPair yX0_fillPair, Cond.code yX0_fillPair cX0_fillPair 6 none, Cond.methodLink RX0 49 yX0_startPair, Cond.instanceMethod yX0_startPair, Cond.selects RX0 yX0_startPair yX0_startPair, Cond.code yX0_startPair cX0_startPair 4 none, Cond.methodLink RX0 56 yX0_addAllFor, Cond.instanceMethod yX0_addAllFor, Cond.selects RX0 yX0_addAllFor yX0_addAllFor, Cond.code yX0_addAllFor cX0_addAllFor 14 none, Cond.static yX2_realPart, Cond.code yX2_realPart cX2_realPart 4 (some .int), Cond.static yX2_imaginaryPart, Cond.code yX2_imaginaryPart cX2_imaginaryPart 4 (some .int)]
def wsX0_fillPlates : List Cond := .code yX0_fillPlates cX0_fillPlates 6 none :: ((wsX0_fillPlates_r1 ++ (wsX0_fillPlates_r2 ++ wsX0_fillPlates_r3)) ++ wsX10 ++ wsX00)
def wsX0_kindOf : List Cond := .code yX0_kindOf cX0_kindOf 2 (some .int) :: ([.fieldLink RX0 19 "PlateBeats$Group" "leastFine" "J", .fieldLink RX0 22 "PlateBeats$Group" "greatestLong" "J"] ++ wsX00)
def wsX0_bandCount : List Cond := .code yX0_bandCount cX0_bandCount 3 (some .int) :: ([.fieldLink RX0 35 "PlateBeats$Group" "size" "I", .fieldLink RX0 9 "PlateBeats$Group" "norms" "[I", .methodLink RX0 95 yX0_kindOf, .instanceMethod yX0_kindOf, .selects RX0 yX0_kindOf yX0_kindOf, .initialized RX0, .code yX0_kindOf cX0_kindOf 2 (some .int), .fieldLink RX0 19 "PlateBeats$Group" "leastFine" "J", .fieldLink RX0 22 "PlateBeats$Group" "greatestLong" "J"] ++ wsX00)
def wsX2_root : List Cond := .code yX2_root cX2_root 6 (some .int) :: ([])
def wsX0_period : List Cond := .code yX0_period cX0_period 2 (some .int) :: ([.fieldLink RX0 15 "PlateBeats$Group" "areas" "J", .static yX2_divided, .initialized RX2, .code yX2_divided cX2_divided 4 (some .long), .static yX2_root, .code yX2_root cX2_root 6 (some .int)] ++ wsX00)
def wsX0_worstPeriodFound : List Cond := .code yX0_worstPeriodFound cX0_worstPeriodFound 3 (some .int) :: ([.fieldLink RX0 35 "PlateBeats$Group" "size" "I", .fieldLink RX0 9 "PlateBeats$Group" "norms" "[I", .methodLink RX0 95 yX0_kindOf, .instanceMethod yX0_kindOf, .selects RX0 yX0_kindOf yX0_kindOf, .initialized RX0, .code yX0_kindOf cX0_kindOf 2 (some .int), .fieldLink RX0 19 "PlateBeats$Group" "leastFine" "J", .fieldLink RX0 22 "PlateBeats$Group" "greatestLong" "J", .methodLink RX0 98 yX0_period, .instanceMethod yX0_period, .selects RX0 yX0_period yX0_period, .code yX0_period cX0_period 2 (some .int), .fieldLink RX0 15 "PlateBeats$Group" "areas" "J", .static yX2_divided, .initialized RX2, .code yX2_divided cX2_divided 4 (some .long), .static yX2_root, .code yX2_root cX2_root 6 (some .int)] ++ wsX00)
def wsX0_combinationsWith : List Cond := .code yX0_combinationsWith cX0_combinationsWith 4 (some .int) :: ([.fieldLink RX0 35 "PlateBeats$Group" "size" "I", .fieldLink RX0 9 "PlateBeats$Group" "norms" "[I"] ++ wsX00)
def wsX0_sort : List Cond := .code yX0_sort cX0_sort 4 none :: ([.fieldLink RX0 35 "PlateBeats$Group" "size" "I", .fieldLink RX0 9 "PlateBeats$Group" "norms" "[I"] ++ wsX00)
def wsX0_differentNorms : List Cond := .code yX0_differentNorms cX0_differentNorms 3 (some .int) :: ([.fieldLink RX0 35 "PlateBeats$Group" "size" "I", .fieldLink RX0 9 "PlateBeats$Group" "norms" "[I"] ++ wsX00)
def wsX0_normAt : List Cond := .code yX0_normAt cX0_normAt 4 (some .int) :: ([.fieldLink RX0 35 "PlateBeats$Group" "size" "I", .fieldLink RX0 9 "PlateBeats$Group" "norms" "[I"] ++ wsX00)
def wsX2_gcd : List Cond := .code yX2_gcd cX2_gcd 11 (some .long) :: ([])
def wsX0_numerator : List Cond := .code yX0_numerator cX0_numerator 2 (some .long) :: ([.fieldLink RX0 15 "PlateBeats$Group" "areas" "J", .static yX2_gcd, .initialized RX2, .code yX2_gcd cX2_gcd 11 (some .long), .static yX2_divided, .code yX2_divided cX2_divided 4 (some .long)] ++ wsX00)
def wsX0_denominator : List Cond := .code yX0_denominator cX0_denominator 2 (some .long) :: ([.fieldLink RX0 15 "PlateBeats$Group" "areas" "J", .static yX2_gcd, .initialized RX2, .code yX2_gcd cX2_gcd 11 (some .long), .static yX2_divided, .code yX2_divided cX2_divided 4 (some .long)] ++ wsX00)
def wsX1_init : List Cond := .code yX1_init cX1_init 1 none :: ([.methodLink RX1 3 objectInit, .instanceMethod objectInit, .code objectInit ⟨#[0xb1]⟩ 1 none, .arrayClass .int, .fieldLink RX1 9 "PlateBeats$State" "p" "[I", .fieldLink RX1 15 "PlateBeats$State" "q" "[I", .fieldLink RX1 18 "PlateBeats$State" "count" "I", .fieldLink RX1 22 "PlateBeats$State" "order" "I", .fieldLink RX1 25 "PlateBeats$State" "fineLimit" "I", .fieldLink RX1 28 "PlateBeats$State" "longLimit" "I"] ++ wsX10)
def wsX1_hasPair : List Cond := .code yX1_hasPair cX1_hasPair 3 (some .boolean) :: ([.methodLink RX1 31 yX1_has, .instanceMethod yX1_has, .selects RX1 yX1_has yX1_has, .initialized RX1, .code yX1_has cX1_has 2 (some .boolean), .fieldLink RX1 18 "PlateBeats$State" "count" "I"] ++ wsX10)
def wsX1_hasAll : List Cond := .code yX1_hasAll cX1_hasAll 2 (some .boolean) :: ([.fieldLink RX1 18 "PlateBeats$State" "count" "I"] ++ wsX10)
def wsX1_isFactorPair : List Cond := .code yX1_isFactorPair cX1_isFactorPair 3 (some .boolean) :: ([.fieldLink RX1 22 "PlateBeats$State" "order" "I"] ++ wsX10)
def wsX1_put : List Cond := .code yX1_put cX1_put 4 none :: ([.fieldLink RX1 9 "PlateBeats$State" "p" "[I", .fieldLink RX1 15 "PlateBeats$State" "q" "[I", .methodLink RX1 31 yX1_has, .instanceMethod yX1_has, .selects RX1 yX1_has yX1_has, .initialized RX1, .code yX1_has cX1_has 2 (some .boolean), .fieldLink RX1 18 "PlateBeats$State" "count" "I"] ++ wsX10)
def wsX1_append : List Cond := .code yX1_append cX1_append 3 none :: ([.fieldLink RX1 18 "PlateBeats$State" "count" "I", .methodLink RX1 42 yX1_put, .instanceMethod yX1_put, .selects RX1 yX1_put yX1_put, .initialized RX1, .code yX1_put cX1_put 4 none, .fieldLink RX1 9 "PlateBeats$State" "p" "[I", .fieldLink RX1 15 "PlateBeats$State" "q" "[I", .methodLink RX1 31 yX1_has, .instanceMethod yX1_has, .selects RX1 yX1_has yX1_has, .code yX1_has cX1_has 2 (some .boolean)] ++ wsX10)
def wsX1_drop : List Cond := .code yX1_drop cX1_drop 3 none :: ([.fieldLink RX1 18 "PlateBeats$State" "count" "I", .methodLink RX1 31 yX1_has, .instanceMethod yX1_has, .selects RX1 yX1_has yX1_has, .initialized RX1, .code yX1_has cX1_has 2 (some .boolean), .methodLink RX1 35 yX1_pOf, .instanceMethod yX1_pOf, .selects RX1 yX1_pOf yX1_pOf, .code yX1_pOf cX1_pOf 2 (some .int), .fieldLink RX1 9 "PlateBeats$State" "p" "[I", .methodLink RX1 39 yX1_qOf, .instanceMethod yX1_qOf, .selects RX1 yX1_qOf yX1_qOf, .code yX1_qOf cX1_qOf 2 (some .int), .fieldLink RX1 15 "PlateBeats$State" "q" "[I", .methodLink RX1 42 yX1_put, .instanceMethod yX1_put, .selects RX1 yX1_put yX1_put, .code yX1_put cX1_put 4 none] ++ wsX10)
def wsX1_pairNorm : List Cond := .code yX1_pairNorm cX1_pairNorm 9 (some .int) :: ([.methodLink RX1 35 yX1_pOf, .instanceMethod yX1_pOf, .selects RX1 yX1_pOf yX1_pOf, .initialized RX1, .code yX1_pOf cX1_pOf 2 (some .int), .fieldLink RX1 9 "PlateBeats$State" "p" "[I", .methodLink RX1 31 yX1_has, .instanceMethod yX1_has, .selects RX1 yX1_has yX1_has, .code yX1_has cX1_has 2 (some .boolean), .fieldLink RX1 18 "PlateBeats$State" "count" "I", .methodLink RX1 39 yX1_qOf, .instanceMethod yX1_qOf, .selects RX1 yX1_qOf yX1_qOf, .code yX1_qOf cX1_qOf 2 (some .int), .fieldLink RX1 15 "PlateBeats$State" "q" "[I", .static yX2_realPart, .initialized RX2, .code yX2_realPart cX2_realPart 4 (some .int), .static yX2_imaginaryPart, .code yX2_imaginaryPart cX2_imaginaryPart 4 (some .int)] ++ wsX10)
def wsX2_init_r1 : List Cond := [Cond.methodLink RX2 1 objectInit, Cond.instanceMethod objectInit, Cond.code objectInit ⟨#[0xb1]⟩ 1 none, Cond.classLink RX2 7 RX1, Cond.instantiable RX1 6, Cond.initialized RX1, Cond.fieldLink RX2 10 "PlateBeats" "present" "LPlateBeats$State;", Cond.fieldLink RX2 16 "PlateBeats" "trial" "LPlateBeats$State;", Cond.fieldLink RX2 19 "PlateBeats" "history" "[LPlateBeats$State;", Cond.fieldLink RX2 23 "PlateBeats" "slots" "[LPlateBeats$State;", Cond.arrayClass .boolean, Cond.fieldLink RX2 26 "PlateBeats" "slotFilled" "[Z", Cond.classLink RX2 30 RX0, Cond.instantiable RX0 5, Cond.initialized RX0, Cond.fieldLink RX2 33 "PlateBeats" "group" "LPlateBeats$Group;", Cond.instanceMethod yX1_init, Cond.code yX1_init cX1_init 1 none, Cond.methodLink RX1 3 objectInit, Cond.arrayClass .int, Cond.fieldLink RX1 9 "PlateBeats$State" "p" "[I", Cond.fieldLink RX1 15 "PlateBeats$State" "q" "[I", Cond.fieldLink RX1 18 "PlateBeats$State" "count" "I", Cond.fieldLink RX1 22 "PlateBeats$State" "order" "I"]
def wsX2_init_r2 : List Cond := [Cond.fieldLink RX1 25 "PlateBeats$State" "fineLimit" "I", Cond.fieldLink RX1 28 "PlateBeats$State" "longLimit" "I", Cond.instanceMethod yX0_init, Cond.code yX0_init cX0_init 1 none, Cond.methodLink RX0 3 objectInit, Cond.fieldLink RX0 9 "PlateBeats$Group" "norms" "[I", Cond.fieldLink RX0 15 "PlateBeats$Group" "areas" "J", Cond.fieldLink RX0 19 "PlateBeats$Group" "leastFine" "J", Cond.fieldLink RX0 22 "PlateBeats$Group" "greatestLong" "J"]
def wsX2_init : List Cond := .code yX2_init cX2_init 2 none :: ((wsX2_init_r1 ++ wsX2_init_r2) ++ wsX10 ++ wsX20 ++ wsX00)
def wsX2_isScreen : List Cond := .code yX2_isScreen cX2_isScreen 2 (some .boolean) :: ([])
def wsX2_dropOldest : List Cond := .code yX2_dropOldest cX2_dropOldest 3 none :: ([.fieldLink RX2 19 "PlateBeats" "history" "[LPlateBeats$State;", .fieldLink RX2 202 "PlateBeats" "historyCount" "I"] ++ wsX20)
def wsX2_copy : List Cond := .code yX2_copy cX2_copy 3 none :: ([] ++ wsX10)
def wsX2_record : List Cond := .code yX2_record cX2_record 1 none :: ([.fieldLink RX2 202 "PlateBeats" "historyCount" "I", .fieldLink RX2 10 "PlateBeats" "present" "LPlateBeats$State;", .fieldLink RX2 19 "PlateBeats" "history" "[LPlateBeats$State;", .methodLink RX2 205 yX2_dropOldest, .instanceMethod yX2_dropOldest, .selects RX2 yX2_dropOldest yX2_dropOldest, .initialized RX2, .code yX2_dropOldest cX2_dropOldest 3 none, .methodLink RX2 190 yX2_copy, .static yX2_copy, .code yX2_copy cX2_copy 3 none] ++ wsX20 ++ wsX10)
def wsX2_addPlate_r1 : List Cond := [Cond.fieldLink RX2 10 "PlateBeats" "present" "LPlateBeats$State;", Cond.methodLink RX2 37 yX2_isScreen, Cond.static yX2_isScreen, Cond.initialized RX2, Cond.code yX2_isScreen cX2_isScreen 2 (some .boolean), Cond.methodLink RX2 45 yX2_record, Cond.instanceMethod yX2_record, Cond.selects RX2 yX2_record yX2_record, Cond.code yX2_record cX2_record 1 none, Cond.fieldLink RX2 202 "PlateBeats" "historyCount" "I", Cond.fieldLink RX2 19 "PlateBeats" "history" "[LPlateBeats$State;", Cond.methodLink RX2 205 yX2_dropOldest, Cond.instanceMethod yX2_dropOldest, Cond.selects RX2 yX2_dropOldest yX2_dropOldest, Cond.code yX2_dropOldest cX2_dropOldest 3 none, Cond.methodLink RX2 190 yX2_copy, Cond.static yX2_copy, Cond.code yX2_copy cX2_copy 3 none, Cond.instanceMethod yX1_append, Cond.initialized RX1, Cond.selects RX1 yX1_append yX1_append, Cond.code yX1_append cX1_append 3 none, Cond.fieldLink RX1 18 "PlateBeats$State" "count" "I", Cond.methodLink RX1 42 yX1_put]
def wsX2_addPlate_r2 : List Cond := [Cond.instanceMethod yX1_put, Cond.selects RX1 yX1_put yX1_put, Cond.code yX1_put cX1_put 4 none, Cond.fieldLink RX1 9 "PlateBeats$State" "p" "[I", Cond.fieldLink RX1 15 "PlateBeats$State" "q" "[I", Cond.methodLink RX1 31 yX1_has, Cond.instanceMethod yX1_has, Cond.selects RX1 yX1_has yX1_has, Cond.code yX1_has cX1_has 2 (some .boolean)]
def wsX2_addPlate : List Cond := .code yX2_addPlate cX2_addPlate 3 (some .int) :: ((wsX2_addPlate_r1 ++ wsX2_addPlate_r2) ++ wsX20 ++ wsX10)
def wsX2_setScreen_r1 : List Cond := [Cond.fieldLink RX2 10 "PlateBeats" "present" "LPlateBeats$State;", Cond.instanceMethod yX1_has, Cond.initialized RX1, Cond.selects RX1 yX1_has yX1_has, Cond.code yX1_has cX1_has 2 (some .boolean), Cond.fieldLink RX1 18 "PlateBeats$State" "count" "I", Cond.methodLink RX2 37 yX2_isScreen, Cond.static yX2_isScreen, Cond.initialized RX2, Cond.code yX2_isScreen cX2_isScreen 2 (some .boolean), Cond.methodLink RX2 45 yX2_record, Cond.instanceMethod yX2_record, Cond.selects RX2 yX2_record yX2_record, Cond.code yX2_record cX2_record 1 none, Cond.fieldLink RX2 202 "PlateBeats" "historyCount" "I", Cond.fieldLink RX2 19 "PlateBeats" "history" "[LPlateBeats$State;", Cond.methodLink RX2 205 yX2_dropOldest, Cond.instanceMethod yX2_dropOldest, Cond.selects RX2 yX2_dropOldest yX2_dropOldest, Cond.code yX2_dropOldest cX2_dropOldest 3 none, Cond.methodLink RX2 190 yX2_copy, Cond.static yX2_copy, Cond.code yX2_copy cX2_copy 3 none, Cond.instanceMethod yX1_areaOf]
def wsX2_setScreen_r2 : List Cond := [Cond.selects RX1 yX1_areaOf yX1_areaOf, Cond.code yX1_areaOf cX1_areaOf 2 (some .int), Cond.methodLink RX1 35 yX1_pOf, Cond.instanceMethod yX1_pOf, Cond.selects RX1 yX1_pOf yX1_pOf, Cond.code yX1_pOf cX1_pOf 2 (some .int), Cond.fieldLink RX1 9 "PlateBeats$State" "p" "[I", Cond.methodLink RX1 31 yX1_has, Cond.methodLink RX1 39 yX1_qOf, Cond.instanceMethod yX1_qOf, Cond.selects RX1 yX1_qOf yX1_qOf, Cond.code yX1_qOf cX1_qOf 2 (some .int), Cond.fieldLink RX1 15 "PlateBeats$State" "q" "[I", Cond.instanceMethod yX1_put, Cond.selects RX1 yX1_put yX1_put, Cond.code yX1_put cX1_put 4 none]
def wsX2_setScreen : List Cond := .code yX2_setScreen cX2_setScreen 5 (some .int) :: ((wsX2_setScreen_r1 ++ wsX2_setScreen_r2) ++ wsX20 ++ wsX10)
def wsX2_removePlate_r1 : List Cond := [Cond.fieldLink RX2 10 "PlateBeats" "present" "LPlateBeats$State;", Cond.instanceMethod yX1_has, Cond.initialized RX1, Cond.selects RX1 yX1_has yX1_has, Cond.code yX1_has cX1_has 2 (some .boolean), Cond.fieldLink RX1 18 "PlateBeats$State" "count" "I", Cond.methodLink RX2 45 yX2_record, Cond.instanceMethod yX2_record, Cond.selects RX2 yX2_record yX2_record, Cond.initialized RX2, Cond.code yX2_record cX2_record 1 none, Cond.fieldLink RX2 202 "PlateBeats" "historyCount" "I", Cond.fieldLink RX2 19 "PlateBeats" "history" "[LPlateBeats$State;", Cond.methodLink RX2 205 yX2_dropOldest, Cond.instanceMethod yX2_dropOldest, Cond.selects RX2 yX2_dropOldest yX2_dropOldest, Cond.code yX2_dropOldest cX2_dropOldest 3 none, Cond.methodLink RX2 190 yX2_copy, Cond.static yX2_copy, Cond.code yX2_copy cX2_copy 3 none, Cond.instanceMethod yX1_drop, Cond.selects RX1 yX1_drop yX1_drop, Cond.code yX1_drop cX1_drop 3 none, Cond.methodLink RX1 31 yX1_has]
def wsX2_removePlate_r2 : List Cond := [Cond.methodLink RX1 35 yX1_pOf, Cond.instanceMethod yX1_pOf, Cond.selects RX1 yX1_pOf yX1_pOf, Cond.code yX1_pOf cX1_pOf 2 (some .int), Cond.fieldLink RX1 9 "PlateBeats$State" "p" "[I", Cond.methodLink RX1 39 yX1_qOf, Cond.instanceMethod yX1_qOf, Cond.selects RX1 yX1_qOf yX1_qOf, Cond.code yX1_qOf cX1_qOf 2 (some .int), Cond.fieldLink RX1 15 "PlateBeats$State" "q" "[I", Cond.methodLink RX1 42 yX1_put, Cond.instanceMethod yX1_put, Cond.selects RX1 yX1_put yX1_put, Cond.code yX1_put cX1_put 4 none]
def wsX2_removePlate : List Cond := .code yX2_removePlate cX2_removePlate 2 (some .int) :: ((wsX2_removePlate_r1 ++ wsX2_removePlate_r2) ++ wsX20 ++ wsX10)
def wsX2_plateCount : List Cond := .code yX2_plateCount cX2_plateCount 1 (some .int) :: ([.fieldLink RX2 10 "PlateBeats" "present" "LPlateBeats$State;"] ++ wsX20 ++ wsX10)
def wsX2_cellP : List Cond := .code yX2_cellP cX2_cellP 2 (some .int) :: ([.fieldLink RX2 10 "PlateBeats" "present" "LPlateBeats$State;", .instanceMethod yX1_has, .initialized RX1, .selects RX1 yX1_has yX1_has, .code yX1_has cX1_has 2 (some .boolean), .fieldLink RX1 18 "PlateBeats$State" "count" "I", .instanceMethod yX1_pOf, .selects RX1 yX1_pOf yX1_pOf, .code yX1_pOf cX1_pOf 2 (some .int), .fieldLink RX1 9 "PlateBeats$State" "p" "[I", .methodLink RX1 31 yX1_has] ++ wsX20 ++ wsX10)
def wsX2_cellQ : List Cond := .code yX2_cellQ cX2_cellQ 2 (some .int) :: ([.fieldLink RX2 10 "PlateBeats" "present" "LPlateBeats$State;", .instanceMethod yX1_has, .initialized RX1, .selects RX1 yX1_has yX1_has, .code yX1_has cX1_has 2 (some .boolean), .fieldLink RX1 18 "PlateBeats$State" "count" "I", .instanceMethod yX1_qOf, .selects RX1 yX1_qOf yX1_qOf, .code yX1_qOf cX1_qOf 2 (some .int), .fieldLink RX1 15 "PlateBeats$State" "q" "[I", .methodLink RX1 31 yX1_has] ++ wsX20 ++ wsX10)
def wsX2_cellArea : List Cond := .code yX2_cellArea cX2_cellArea 2 (some .int) :: ([.fieldLink RX2 10 "PlateBeats" "present" "LPlateBeats$State;", .instanceMethod yX1_has, .initialized RX1, .selects RX1 yX1_has yX1_has, .code yX1_has cX1_has 2 (some .boolean), .fieldLink RX1 18 "PlateBeats$State" "count" "I", .instanceMethod yX1_areaOf, .selects RX1 yX1_areaOf yX1_areaOf, .code yX1_areaOf cX1_areaOf 2 (some .int), .methodLink RX1 35 yX1_pOf, .instanceMethod yX1_pOf, .selects RX1 yX1_pOf yX1_pOf, .code yX1_pOf cX1_pOf 2 (some .int), .fieldLink RX1 9 "PlateBeats$State" "p" "[I", .methodLink RX1 31 yX1_has, .methodLink RX1 39 yX1_qOf, .instanceMethod yX1_qOf, .selects RX1 yX1_qOf yX1_qOf, .code yX1_qOf cX1_qOf 2 (some .int), .fieldLink RX1 15 "PlateBeats$State" "q" "[I"] ++ wsX20 ++ wsX10)
def wsX2_tileOf_r1 : List Cond := [Cond.fieldLink RX2 10 "PlateBeats" "present" "LPlateBeats$State;", Cond.instanceMethod yX1_areaOf, Cond.initialized RX1, Cond.selects RX1 yX1_areaOf yX1_areaOf, Cond.code yX1_areaOf cX1_areaOf 2 (some .int), Cond.methodLink RX1 35 yX1_pOf, Cond.instanceMethod yX1_pOf, Cond.selects RX1 yX1_pOf yX1_pOf, Cond.code yX1_pOf cX1_pOf 2 (some .int), Cond.fieldLink RX1 9 "PlateBeats$State" "p" "[I", Cond.methodLink RX1 31 yX1_has, Cond.instanceMethod yX1_has, Cond.selects RX1 yX1_has yX1_has, Cond.code yX1_has cX1_has 2 (some .boolean), Cond.fieldLink RX1 18 "PlateBeats$State" "count" "I", Cond.methodLink RX1 39 yX1_qOf, Cond.instanceMethod yX1_qOf, Cond.selects RX1 yX1_qOf yX1_qOf, Cond.code yX1_qOf cX1_qOf 2 (some .int), Cond.fieldLink RX1 15 "PlateBeats$State" "q" "[I", Cond.methodLink RX2 78 yX2_gcd, Cond.static yX2_gcd, Cond.initialized RX2, Cond.code yX2_gcd cX2_gcd 11 (some .long)]
def wsX2_tileOf_r2 : List Cond := [Cond.methodLink RX2 82 yX2_divided, Cond.static yX2_divided, Cond.code yX2_divided cX2_divided 4 (some .long)]
def wsX2_tileOf : List Cond := .code yX2_tileOf cX2_tileOf 2 (some .long) :: ((wsX2_tileOf_r1 ++ wsX2_tileOf_r2) ++ wsX20 ++ wsX10)
def wsX2_tile_r1 : List Cond := [Cond.fieldLink RX2 10 "PlateBeats" "present" "LPlateBeats$State;", Cond.instanceMethod yX1_has, Cond.initialized RX1, Cond.selects RX1 yX1_has yX1_has, Cond.code yX1_has cX1_has 2 (some .boolean), Cond.fieldLink RX1 18 "PlateBeats$State" "count" "I", Cond.methodLink RX2 74 yX2_tileOf, Cond.instanceMethod yX2_tileOf, Cond.selects RX2 yX2_tileOf yX2_tileOf, Cond.initialized RX2, Cond.code yX2_tileOf cX2_tileOf 2 (some .long), Cond.instanceMethod yX1_areaOf, Cond.selects RX1 yX1_areaOf yX1_areaOf, Cond.code yX1_areaOf cX1_areaOf 2 (some .int), Cond.methodLink RX1 35 yX1_pOf, Cond.instanceMethod yX1_pOf, Cond.selects RX1 yX1_pOf yX1_pOf, Cond.code yX1_pOf cX1_pOf 2 (some .int), Cond.fieldLink RX1 9 "PlateBeats$State" "p" "[I", Cond.methodLink RX1 31 yX1_has, Cond.methodLink RX1 39 yX1_qOf, Cond.instanceMethod yX1_qOf, Cond.selects RX1 yX1_qOf yX1_qOf, Cond.code yX1_qOf cX1_qOf 2 (some .int)]
def wsX2_tile_r2 : List Cond := [Cond.fieldLink RX1 15 "PlateBeats$State" "q" "[I", Cond.methodLink RX2 78 yX2_gcd, Cond.static yX2_gcd, Cond.code yX2_gcd cX2_gcd 11 (some .long), Cond.methodLink RX2 82 yX2_divided, Cond.static yX2_divided, Cond.code yX2_divided cX2_divided 4 (some .long)]
def wsX2_tile : List Cond := .code yX2_tile cX2_tile 2 (some .int) :: ((wsX2_tile_r1 ++ wsX2_tile_r2) ++ wsX20 ++ wsX10)
def wsX2_commonTile_r1 : List Cond := [Cond.fieldLink RX2 10 "PlateBeats" "present" "LPlateBeats$State;", Cond.methodLink RX2 74 yX2_tileOf, Cond.instanceMethod yX2_tileOf, Cond.selects RX2 yX2_tileOf yX2_tileOf, Cond.initialized RX2, Cond.code yX2_tileOf cX2_tileOf 2 (some .long), Cond.instanceMethod yX1_areaOf, Cond.initialized RX1, Cond.selects RX1 yX1_areaOf yX1_areaOf, Cond.code yX1_areaOf cX1_areaOf 2 (some .int), Cond.methodLink RX1 35 yX1_pOf, Cond.instanceMethod yX1_pOf, Cond.selects RX1 yX1_pOf yX1_pOf, Cond.code yX1_pOf cX1_pOf 2 (some .int), Cond.fieldLink RX1 9 "PlateBeats$State" "p" "[I", Cond.methodLink RX1 31 yX1_has, Cond.instanceMethod yX1_has, Cond.selects RX1 yX1_has yX1_has, Cond.code yX1_has cX1_has 2 (some .boolean), Cond.fieldLink RX1 18 "PlateBeats$State" "count" "I", Cond.methodLink RX1 39 yX1_qOf, Cond.instanceMethod yX1_qOf, Cond.selects RX1 yX1_qOf yX1_qOf, Cond.code yX1_qOf cX1_qOf 2 (some .int)]
def wsX2_commonTile_r2 : List Cond := [Cond.fieldLink RX1 15 "PlateBeats$State" "q" "[I", Cond.methodLink RX2 78 yX2_gcd, Cond.static yX2_gcd, Cond.code yX2_gcd cX2_gcd 11 (some .long), Cond.methodLink RX2 82 yX2_divided, Cond.static yX2_divided, Cond.code yX2_divided cX2_divided 4 (some .long)]
def wsX2_commonTile : List Cond := .code yX2_commonTile cX2_commonTile 6 (some .long) :: ((wsX2_commonTile_r1 ++ wsX2_commonTile_r2) ++ wsX20 ++ wsX10)
def wsX2_platesBefore : List Cond := .code yX2_platesBefore cX2_platesBefore 6 (some .int) :: ([.fieldLink RX2 10 "PlateBeats" "present" "LPlateBeats$State;", .instanceMethod yX1_qOf, .initialized RX1, .selects RX1 yX1_qOf yX1_qOf, .code yX1_qOf cX1_qOf 2 (some .int), .fieldLink RX1 15 "PlateBeats$State" "q" "[I", .methodLink RX1 31 yX1_has, .instanceMethod yX1_has, .selects RX1 yX1_has yX1_has, .code yX1_has cX1_has 2 (some .boolean), .fieldLink RX1 18 "PlateBeats$State" "count" "I", .instanceMethod yX1_pOf, .selects RX1 yX1_pOf yX1_pOf, .code yX1_pOf cX1_pOf 2 (some .int), .fieldLink RX1 9 "PlateBeats$State" "p" "[I"] ++ wsX20 ++ wsX10)
def wsX2_byAngle : List Cond := .code yX2_byAngle cX2_byAngle 3 (some .int) :: ([.fieldLink RX2 10 "PlateBeats" "present" "LPlateBeats$State;", .methodLink RX2 85 yX2_platesBefore, .instanceMethod yX2_platesBefore, .selects RX2 yX2_platesBefore yX2_platesBefore, .initialized RX2, .code yX2_platesBefore cX2_platesBefore 6 (some .int), .instanceMethod yX1_qOf, .initialized RX1, .selects RX1 yX1_qOf yX1_qOf, .code yX1_qOf cX1_qOf 2 (some .int), .fieldLink RX1 15 "PlateBeats$State" "q" "[I", .methodLink RX1 31 yX1_has, .instanceMethod yX1_has, .selects RX1 yX1_has yX1_has, .code yX1_has cX1_has 2 (some .boolean), .fieldLink RX1 18 "PlateBeats$State" "count" "I", .instanceMethod yX1_pOf, .selects RX1 yX1_pOf yX1_pOf, .code yX1_pOf cX1_pOf 2 (some .int), .fieldLink RX1 9 "PlateBeats$State" "p" "[I"] ++ wsX20 ++ wsX10)
def wsX2_setOrder : List Cond := .code yX2_setOrder cX2_setOrder 3 (some .int) :: ([.fieldLink RX2 10 "PlateBeats" "present" "LPlateBeats$State;", .methodLink RX2 45 yX2_record, .instanceMethod yX2_record, .selects RX2 yX2_record yX2_record, .initialized RX2, .code yX2_record cX2_record 1 none, .fieldLink RX2 202 "PlateBeats" "historyCount" "I", .fieldLink RX2 19 "PlateBeats" "history" "[LPlateBeats$State;", .methodLink RX2 205 yX2_dropOldest, .instanceMethod yX2_dropOldest, .selects RX2 yX2_dropOldest yX2_dropOldest, .code yX2_dropOldest cX2_dropOldest 3 none, .methodLink RX2 190 yX2_copy, .static yX2_copy, .code yX2_copy cX2_copy 3 none] ++ wsX20 ++ wsX10)
def wsX2_setLimits : List Cond := .code yX2_setLimits cX2_setLimits 4 (some .int) :: ([.fieldLink RX2 10 "PlateBeats" "present" "LPlateBeats$State;", .methodLink RX2 45 yX2_record, .instanceMethod yX2_record, .selects RX2 yX2_record yX2_record, .initialized RX2, .code yX2_record cX2_record 1 none, .fieldLink RX2 202 "PlateBeats" "historyCount" "I", .fieldLink RX2 19 "PlateBeats" "history" "[LPlateBeats$State;", .methodLink RX2 205 yX2_dropOldest, .instanceMethod yX2_dropOldest, .selects RX2 yX2_dropOldest yX2_dropOldest, .code yX2_dropOldest cX2_dropOldest 3 none, .methodLink RX2 190 yX2_copy, .static yX2_copy, .code yX2_copy cX2_copy 3 none] ++ wsX20 ++ wsX10)
def wsX2_longLimit : List Cond := .code yX2_longLimit cX2_longLimit 1 (some .int) :: ([.fieldLink RX2 10 "PlateBeats" "present" "LPlateBeats$State;"] ++ wsX20 ++ wsX10)
def wsX2_isCombination : List Cond := .code yX2_isCombination cX2_isCombination 7 (some .boolean) :: ([.fieldLink RX2 10 "PlateBeats" "present" "LPlateBeats$State;", .instanceMethod yX1_hasPair, .initialized RX1, .selects RX1 yX1_hasPair yX1_hasPair, .code yX1_hasPair cX1_hasPair 3 (some .boolean), .methodLink RX1 31 yX1_has, .instanceMethod yX1_has, .selects RX1 yX1_has yX1_has, .code yX1_has cX1_has 2 (some .boolean), .fieldLink RX1 18 "PlateBeats$State" "count" "I", .instanceMethod yX1_isFactorPair, .selects RX1 yX1_isFactorPair yX1_isFactorPair, .code yX1_isFactorPair cX1_isFactorPair 3 (some .boolean), .fieldLink RX1 22 "PlateBeats$State" "order" "I"] ++ wsX20 ++ wsX10)
def wsX2_squareNumerator_r1 : List Cond := [Cond.constantLong RX2 101 (-1), Cond.fieldLink RX2 33 "PlateBeats" "group" "LPlateBeats$Group;", Cond.fieldLink RX2 10 "PlateBeats" "present" "LPlateBeats$State;", Cond.methodLink RX2 97 yX2_isCombination, Cond.instanceMethod yX2_isCombination, Cond.selects RX2 yX2_isCombination yX2_isCombination, Cond.initialized RX2, Cond.code yX2_isCombination cX2_isCombination 7 (some .boolean), Cond.instanceMethod yX1_hasPair, Cond.initialized RX1, Cond.selects RX1 yX1_hasPair yX1_hasPair, Cond.code yX1_hasPair cX1_hasPair 3 (some .boolean), Cond.methodLink RX1 31 yX1_has, Cond.instanceMethod yX1_has, Cond.selects RX1 yX1_has yX1_has, Cond.code yX1_has cX1_has 2 (some .boolean), Cond.fieldLink RX1 18 "PlateBeats$State" "count" "I", Cond.instanceMethod yX1_isFactorPair, Cond.selects RX1 yX1_isFactorPair yX1_isFactorPair, Cond.code yX1_isFactorPair cX1_isFactorPair 3 (some .boolean), Cond.fieldLink RX1 22 "PlateBeats$State" "order" "I", Cond.instanceMethod yX0_startPair, Cond.initialized RX0, Cond.selects RX0 yX0_startPair yX0_startPair]
def wsX2_squareNumerator_r2 : List Cond := [Cond.code yX0_startPair cX0_startPair 4 none, Cond.instanceMethod yX1_areaOf, Cond.selects RX1 yX1_areaOf yX1_areaOf, Cond.code yX1_areaOf cX1_areaOf 2 (some .int), Cond.methodLink RX1 35 yX1_pOf, Cond.instanceMethod yX1_pOf, Cond.selects RX1 yX1_pOf yX1_pOf, Cond.code yX1_pOf cX1_pOf 2 (some .int), Cond.fieldLink RX1 9 "PlateBeats$State" "p" "[I", Cond.methodLink RX1 39 yX1_qOf, Cond.instanceMethod yX1_qOf, Cond.selects RX1 yX1_qOf yX1_qOf, Cond.code yX1_qOf cX1_qOf 2 (some .int), Cond.fieldLink RX1 15 "PlateBeats$State" "q" "[I", Cond.methodLink RX0 31 yX0_start, Cond.instanceMethod yX0_start, Cond.selects RX0 yX0_start yX0_start, Cond.code yX0_start cX0_start 8 none, Cond.fieldLink RX0 35 "PlateBeats$Group" "size" "I", Cond.fieldLink RX0 15 "PlateBeats$Group" "areas" "J", Cond.fieldLink RX0 19 "PlateBeats$Group" "leastFine" "J", Cond.fieldLink RX0 22 "PlateBeats$Group" "greatestLong" "J", Cond.static yX2_divided, Cond.code yX2_divided cX2_divided 4 (some .long)]
def wsX2_squareNumerator_r3 : List Cond := [Cond.instanceMethod yX1_pairNorm, Cond.selects RX1 yX1_pairNorm yX1_pairNorm, Cond.code yX1_pairNorm cX1_pairNorm 9 (some .int), Cond.static yX2_realPart, Cond.code yX2_realPart cX2_realPart 4 (some .int), Cond.static yX2_imaginaryPart, Cond.code yX2_imaginaryPart cX2_imaginaryPart 4 (some .int), Cond.instanceMethod yX0_numerator, Cond.selects RX0 yX0_numerator yX0_numerator, Cond.code yX0_numerator cX0_numerator 2 (some .long), Cond.static yX2_gcd, Cond.code yX2_gcd cX2_gcd 11 (some .long)]
def wsX2_squareNumerator : List Cond := .code yX2_squareNumerator cX2_squareNumerator 7 (some .long) :: ((wsX2_squareNumerator_r1 ++ (wsX2_squareNumerator_r2 ++ wsX2_squareNumerator_r3)) ++ wsX20 ++ wsX10 ++ wsX00)
def wsX2_squareDenominator_r1 : List Cond := [Cond.constantLong RX2 101 (-1), Cond.fieldLink RX2 33 "PlateBeats" "group" "LPlateBeats$Group;", Cond.fieldLink RX2 10 "PlateBeats" "present" "LPlateBeats$State;", Cond.methodLink RX2 97 yX2_isCombination, Cond.instanceMethod yX2_isCombination, Cond.selects RX2 yX2_isCombination yX2_isCombination, Cond.initialized RX2, Cond.code yX2_isCombination cX2_isCombination 7 (some .boolean), Cond.instanceMethod yX1_hasPair, Cond.initialized RX1, Cond.selects RX1 yX1_hasPair yX1_hasPair, Cond.code yX1_hasPair cX1_hasPair 3 (some .boolean), Cond.methodLink RX1 31 yX1_has, Cond.instanceMethod yX1_has, Cond.selects RX1 yX1_has yX1_has, Cond.code yX1_has cX1_has 2 (some .boolean), Cond.fieldLink RX1 18 "PlateBeats$State" "count" "I", Cond.instanceMethod yX1_isFactorPair, Cond.selects RX1 yX1_isFactorPair yX1_isFactorPair, Cond.code yX1_isFactorPair cX1_isFactorPair 3 (some .boolean), Cond.fieldLink RX1 22 "PlateBeats$State" "order" "I", Cond.instanceMethod yX0_startPair, Cond.initialized RX0, Cond.selects RX0 yX0_startPair yX0_startPair]
def wsX2_squareDenominator_r2 : List Cond := [Cond.code yX0_startPair cX0_startPair 4 none, Cond.instanceMethod yX1_areaOf, Cond.selects RX1 yX1_areaOf yX1_areaOf, Cond.code yX1_areaOf cX1_areaOf 2 (some .int), Cond.methodLink RX1 35 yX1_pOf, Cond.instanceMethod yX1_pOf, Cond.selects RX1 yX1_pOf yX1_pOf, Cond.code yX1_pOf cX1_pOf 2 (some .int), Cond.fieldLink RX1 9 "PlateBeats$State" "p" "[I", Cond.methodLink RX1 39 yX1_qOf, Cond.instanceMethod yX1_qOf, Cond.selects RX1 yX1_qOf yX1_qOf, Cond.code yX1_qOf cX1_qOf 2 (some .int), Cond.fieldLink RX1 15 "PlateBeats$State" "q" "[I", Cond.methodLink RX0 31 yX0_start, Cond.instanceMethod yX0_start, Cond.selects RX0 yX0_start yX0_start, Cond.code yX0_start cX0_start 8 none, Cond.fieldLink RX0 35 "PlateBeats$Group" "size" "I", Cond.fieldLink RX0 15 "PlateBeats$Group" "areas" "J", Cond.fieldLink RX0 19 "PlateBeats$Group" "leastFine" "J", Cond.fieldLink RX0 22 "PlateBeats$Group" "greatestLong" "J", Cond.static yX2_divided, Cond.code yX2_divided cX2_divided 4 (some .long)]
def wsX2_squareDenominator_r3 : List Cond := [Cond.instanceMethod yX1_pairNorm, Cond.selects RX1 yX1_pairNorm yX1_pairNorm, Cond.code yX1_pairNorm cX1_pairNorm 9 (some .int), Cond.static yX2_realPart, Cond.code yX2_realPart cX2_realPart 4 (some .int), Cond.static yX2_imaginaryPart, Cond.code yX2_imaginaryPart cX2_imaginaryPart 4 (some .int), Cond.instanceMethod yX0_denominator, Cond.selects RX0 yX0_denominator yX0_denominator, Cond.code yX0_denominator cX0_denominator 2 (some .long), Cond.static yX2_gcd, Cond.code yX2_gcd cX2_gcd 11 (some .long)]
def wsX2_squareDenominator : List Cond := .code yX2_squareDenominator cX2_squareDenominator 7 (some .long) :: ((wsX2_squareDenominator_r1 ++ (wsX2_squareDenominator_r2 ++ wsX2_squareDenominator_r3)) ++ wsX20 ++ wsX10 ++ wsX00)
def wsX2_kind_r1 : List Cond := [Cond.fieldLink RX2 33 "PlateBeats" "group" "LPlateBeats$Group;", Cond.fieldLink RX2 10 "PlateBeats" "present" "LPlateBeats$State;", Cond.methodLink RX2 97 yX2_isCombination, Cond.instanceMethod yX2_isCombination, Cond.selects RX2 yX2_isCombination yX2_isCombination, Cond.initialized RX2, Cond.code yX2_isCombination cX2_isCombination 7 (some .boolean), Cond.instanceMethod yX1_hasPair, Cond.initialized RX1, Cond.selects RX1 yX1_hasPair yX1_hasPair, Cond.code yX1_hasPair cX1_hasPair 3 (some .boolean), Cond.methodLink RX1 31 yX1_has, Cond.instanceMethod yX1_has, Cond.selects RX1 yX1_has yX1_has, Cond.code yX1_has cX1_has 2 (some .boolean), Cond.fieldLink RX1 18 "PlateBeats$State" "count" "I", Cond.instanceMethod yX1_isFactorPair, Cond.selects RX1 yX1_isFactorPair yX1_isFactorPair, Cond.code yX1_isFactorPair cX1_isFactorPair 3 (some .boolean), Cond.fieldLink RX1 22 "PlateBeats$State" "order" "I", Cond.instanceMethod yX0_startPair, Cond.initialized RX0, Cond.selects RX0 yX0_startPair yX0_startPair, Cond.code yX0_startPair cX0_startPair 4 none]
def wsX2_kind_r2 : List Cond := [Cond.instanceMethod yX1_areaOf, Cond.selects RX1 yX1_areaOf yX1_areaOf, Cond.code yX1_areaOf cX1_areaOf 2 (some .int), Cond.methodLink RX1 35 yX1_pOf, Cond.instanceMethod yX1_pOf, Cond.selects RX1 yX1_pOf yX1_pOf, Cond.code yX1_pOf cX1_pOf 2 (some .int), Cond.fieldLink RX1 9 "PlateBeats$State" "p" "[I", Cond.methodLink RX1 39 yX1_qOf, Cond.instanceMethod yX1_qOf, Cond.selects RX1 yX1_qOf yX1_qOf, Cond.code yX1_qOf cX1_qOf 2 (some .int), Cond.fieldLink RX1 15 "PlateBeats$State" "q" "[I", Cond.methodLink RX0 31 yX0_start, Cond.instanceMethod yX0_start, Cond.selects RX0 yX0_start yX0_start, Cond.code yX0_start cX0_start 8 none, Cond.fieldLink RX0 35 "PlateBeats$Group" "size" "I", Cond.fieldLink RX0 15 "PlateBeats$Group" "areas" "J", Cond.fieldLink RX0 19 "PlateBeats$Group" "leastFine" "J", Cond.fieldLink RX0 22 "PlateBeats$Group" "greatestLong" "J", Cond.static yX2_divided, Cond.code yX2_divided cX2_divided 4 (some .long), Cond.instanceMethod yX1_pairNorm]
def wsX2_kind_r3 : List Cond := [Cond.selects RX1 yX1_pairNorm yX1_pairNorm, Cond.code yX1_pairNorm cX1_pairNorm 9 (some .int), Cond.static yX2_realPart, Cond.code yX2_realPart cX2_realPart 4 (some .int), Cond.static yX2_imaginaryPart, Cond.code yX2_imaginaryPart cX2_imaginaryPart 4 (some .int), Cond.instanceMethod yX0_kindOf, Cond.selects RX0 yX0_kindOf yX0_kindOf, Cond.code yX0_kindOf cX0_kindOf 2 (some .int)]
def wsX2_kind : List Cond := .code yX2_kind cX2_kind 7 (some .int) :: ((wsX2_kind_r1 ++ (wsX2_kind_r2 ++ wsX2_kind_r3)) ++ wsX20 ++ wsX10 ++ wsX00)
def wsX2_beatCount_r1 : List Cond := [Cond.fieldLink RX2 10 "PlateBeats" "present" "LPlateBeats$State;", Cond.fieldLink RX2 33 "PlateBeats" "group" "LPlateBeats$Group;", Cond.instanceMethod yX1_hasPair, Cond.initialized RX1, Cond.selects RX1 yX1_hasPair yX1_hasPair, Cond.code yX1_hasPair cX1_hasPair 3 (some .boolean), Cond.methodLink RX1 31 yX1_has, Cond.instanceMethod yX1_has, Cond.selects RX1 yX1_has yX1_has, Cond.code yX1_has cX1_has 2 (some .boolean), Cond.fieldLink RX1 18 "PlateBeats$State" "count" "I", Cond.instanceMethod yX0_fillPair, Cond.initialized RX0, Cond.selects RX0 yX0_fillPair yX0_fillPair, Cond.code yX0_fillPair cX0_fillPair 6 none, Cond.methodLink RX0 49 yX0_startPair, Cond.instanceMethod yX0_startPair, Cond.selects RX0 yX0_startPair yX0_startPair, Cond.code yX0_startPair cX0_startPair 4 none, Cond.instanceMethod yX1_areaOf, Cond.selects RX1 yX1_areaOf yX1_areaOf, Cond.code yX1_areaOf cX1_areaOf 2 (some .int), Cond.methodLink RX1 35 yX1_pOf, Cond.instanceMethod yX1_pOf]
def wsX2_beatCount_r2 : List Cond := [Cond.selects RX1 yX1_pOf yX1_pOf, Cond.code yX1_pOf cX1_pOf 2 (some .int), Cond.fieldLink RX1 9 "PlateBeats$State" "p" "[I", Cond.methodLink RX1 39 yX1_qOf, Cond.instanceMethod yX1_qOf, Cond.selects RX1 yX1_qOf yX1_qOf, Cond.code yX1_qOf cX1_qOf 2 (some .int), Cond.fieldLink RX1 15 "PlateBeats$State" "q" "[I", Cond.methodLink RX0 31 yX0_start, Cond.instanceMethod yX0_start, Cond.selects RX0 yX0_start yX0_start, Cond.code yX0_start cX0_start 8 none, Cond.fieldLink RX0 35 "PlateBeats$Group" "size" "I", Cond.fieldLink RX0 15 "PlateBeats$Group" "areas" "J", Cond.fieldLink RX0 19 "PlateBeats$Group" "leastFine" "J", Cond.fieldLink RX0 22 "PlateBeats$Group" "greatestLong" "J", Cond.static yX2_divided, Cond.initialized RX2, Cond.code yX2_divided cX2_divided 4 (some .long), Cond.methodLink RX0 56 yX0_addAllFor, Cond.instanceMethod yX0_addAllFor, Cond.selects RX0 yX0_addAllFor yX0_addAllFor, Cond.code yX0_addAllFor cX0_addAllFor 14 none, Cond.static yX2_realPart]
def wsX2_beatCount_r3 : List Cond := [Cond.code yX2_realPart cX2_realPart 4 (some .int), Cond.static yX2_imaginaryPart, Cond.code yX2_imaginaryPart cX2_imaginaryPart 4 (some .int), Cond.methodLink RX0 73 yX0_add, Cond.instanceMethod yX0_add, Cond.selects RX0 yX0_add yX0_add, Cond.code yX0_add cX0_add 2 none, Cond.fieldLink RX0 9 "PlateBeats$Group" "norms" "[I", Cond.instanceMethod yX0_sort, Cond.selects RX0 yX0_sort yX0_sort, Cond.code yX0_sort cX0_sort 4 none, Cond.instanceMethod yX0_differentNorms, Cond.selects RX0 yX0_differentNorms yX0_differentNorms, Cond.code yX0_differentNorms cX0_differentNorms 3 (some .int)]
def wsX2_beatCount : List Cond := .code yX2_beatCount cX2_beatCount 3 (some .int) :: ((wsX2_beatCount_r1 ++ (wsX2_beatCount_r2 ++ wsX2_beatCount_r3)) ++ wsX20 ++ wsX10 ++ wsX00)
def wsX2_normOfRank_r1 : List Cond := [Cond.fieldLink RX2 10 "PlateBeats" "present" "LPlateBeats$State;", Cond.fieldLink RX2 33 "PlateBeats" "group" "LPlateBeats$Group;", Cond.instanceMethod yX1_hasPair, Cond.initialized RX1, Cond.selects RX1 yX1_hasPair yX1_hasPair, Cond.code yX1_hasPair cX1_hasPair 3 (some .boolean), Cond.methodLink RX1 31 yX1_has, Cond.instanceMethod yX1_has, Cond.selects RX1 yX1_has yX1_has, Cond.code yX1_has cX1_has 2 (some .boolean), Cond.fieldLink RX1 18 "PlateBeats$State" "count" "I", Cond.instanceMethod yX0_fillPair, Cond.initialized RX0, Cond.selects RX0 yX0_fillPair yX0_fillPair, Cond.code yX0_fillPair cX0_fillPair 6 none, Cond.methodLink RX0 49 yX0_startPair, Cond.instanceMethod yX0_startPair, Cond.selects RX0 yX0_startPair yX0_startPair, Cond.code yX0_startPair cX0_startPair 4 none, Cond.instanceMethod yX1_areaOf, Cond.selects RX1 yX1_areaOf yX1_areaOf, Cond.code yX1_areaOf cX1_areaOf 2 (some .int), Cond.methodLink RX1 35 yX1_pOf, Cond.instanceMethod yX1_pOf]
def wsX2_normOfRank_r2 : List Cond := [Cond.selects RX1 yX1_pOf yX1_pOf, Cond.code yX1_pOf cX1_pOf 2 (some .int), Cond.fieldLink RX1 9 "PlateBeats$State" "p" "[I", Cond.methodLink RX1 39 yX1_qOf, Cond.instanceMethod yX1_qOf, Cond.selects RX1 yX1_qOf yX1_qOf, Cond.code yX1_qOf cX1_qOf 2 (some .int), Cond.fieldLink RX1 15 "PlateBeats$State" "q" "[I", Cond.methodLink RX0 31 yX0_start, Cond.instanceMethod yX0_start, Cond.selects RX0 yX0_start yX0_start, Cond.code yX0_start cX0_start 8 none, Cond.fieldLink RX0 35 "PlateBeats$Group" "size" "I", Cond.fieldLink RX0 15 "PlateBeats$Group" "areas" "J", Cond.fieldLink RX0 19 "PlateBeats$Group" "leastFine" "J", Cond.fieldLink RX0 22 "PlateBeats$Group" "greatestLong" "J", Cond.static yX2_divided, Cond.initialized RX2, Cond.code yX2_divided cX2_divided 4 (some .long), Cond.methodLink RX0 56 yX0_addAllFor, Cond.instanceMethod yX0_addAllFor, Cond.selects RX0 yX0_addAllFor yX0_addAllFor, Cond.code yX0_addAllFor cX0_addAllFor 14 none, Cond.static yX2_realPart]
def wsX2_normOfRank_r3 : List Cond := [Cond.code yX2_realPart cX2_realPart 4 (some .int), Cond.static yX2_imaginaryPart, Cond.code yX2_imaginaryPart cX2_imaginaryPart 4 (some .int), Cond.methodLink RX0 73 yX0_add, Cond.instanceMethod yX0_add, Cond.selects RX0 yX0_add yX0_add, Cond.code yX0_add cX0_add 2 none, Cond.fieldLink RX0 9 "PlateBeats$Group" "norms" "[I", Cond.instanceMethod yX0_sort, Cond.selects RX0 yX0_sort yX0_sort, Cond.code yX0_sort cX0_sort 4 none, Cond.instanceMethod yX0_normAt, Cond.selects RX0 yX0_normAt yX0_normAt, Cond.code yX0_normAt cX0_normAt 4 (some .int)]
def wsX2_normOfRank : List Cond := .code yX2_normOfRank cX2_normOfRank 4 (some .int) :: ((wsX2_normOfRank_r1 ++ (wsX2_normOfRank_r2 ++ wsX2_normOfRank_r3)) ++ wsX20 ++ wsX10 ++ wsX00)
def wsX2_beatNumerator_r1 : List Cond := [Cond.fieldLink RX2 33 "PlateBeats" "group" "LPlateBeats$Group;", Cond.methodLink RX2 133 yX2_normOfRank, Cond.instanceMethod yX2_normOfRank, Cond.selects RX2 yX2_normOfRank yX2_normOfRank, Cond.initialized RX2, Cond.code yX2_normOfRank cX2_normOfRank 4 (some .int), Cond.fieldLink RX2 10 "PlateBeats" "present" "LPlateBeats$State;", Cond.instanceMethod yX1_hasPair, Cond.initialized RX1, Cond.selects RX1 yX1_hasPair yX1_hasPair, Cond.code yX1_hasPair cX1_hasPair 3 (some .boolean), Cond.methodLink RX1 31 yX1_has, Cond.instanceMethod yX1_has, Cond.selects RX1 yX1_has yX1_has, Cond.code yX1_has cX1_has 2 (some .boolean), Cond.fieldLink RX1 18 "PlateBeats$State" "count" "I", Cond.instanceMethod yX0_fillPair, Cond.initialized RX0, Cond.selects RX0 yX0_fillPair yX0_fillPair, Cond.code yX0_fillPair cX0_fillPair 6 none, Cond.methodLink RX0 49 yX0_startPair, Cond.instanceMethod yX0_startPair, Cond.selects RX0 yX0_startPair yX0_startPair, Cond.code yX0_startPair cX0_startPair 4 none]
def wsX2_beatNumerator_r2 : List Cond := [Cond.instanceMethod yX1_areaOf, Cond.selects RX1 yX1_areaOf yX1_areaOf, Cond.code yX1_areaOf cX1_areaOf 2 (some .int), Cond.methodLink RX1 35 yX1_pOf, Cond.instanceMethod yX1_pOf, Cond.selects RX1 yX1_pOf yX1_pOf, Cond.code yX1_pOf cX1_pOf 2 (some .int), Cond.fieldLink RX1 9 "PlateBeats$State" "p" "[I", Cond.methodLink RX1 39 yX1_qOf, Cond.instanceMethod yX1_qOf, Cond.selects RX1 yX1_qOf yX1_qOf, Cond.code yX1_qOf cX1_qOf 2 (some .int), Cond.fieldLink RX1 15 "PlateBeats$State" "q" "[I", Cond.methodLink RX0 31 yX0_start, Cond.instanceMethod yX0_start, Cond.selects RX0 yX0_start yX0_start, Cond.code yX0_start cX0_start 8 none, Cond.fieldLink RX0 35 "PlateBeats$Group" "size" "I", Cond.fieldLink RX0 15 "PlateBeats$Group" "areas" "J", Cond.fieldLink RX0 19 "PlateBeats$Group" "leastFine" "J", Cond.fieldLink RX0 22 "PlateBeats$Group" "greatestLong" "J", Cond.static yX2_divided, Cond.code yX2_divided cX2_divided 4 (some .long), Cond.methodLink RX0 56 yX0_addAllFor]
def wsX2_beatNumerator_r3 : List Cond := [Cond.instanceMethod yX0_addAllFor, Cond.selects RX0 yX0_addAllFor yX0_addAllFor, Cond.code yX0_addAllFor cX0_addAllFor 14 none, Cond.static yX2_realPart, Cond.code yX2_realPart cX2_realPart 4 (some .int), Cond.static yX2_imaginaryPart, Cond.code yX2_imaginaryPart cX2_imaginaryPart 4 (some .int), Cond.methodLink RX0 73 yX0_add, Cond.instanceMethod yX0_add, Cond.selects RX0 yX0_add yX0_add, Cond.code yX0_add cX0_add 2 none, Cond.fieldLink RX0 9 "PlateBeats$Group" "norms" "[I", Cond.instanceMethod yX0_sort, Cond.selects RX0 yX0_sort yX0_sort, Cond.code yX0_sort cX0_sort 4 none, Cond.instanceMethod yX0_normAt, Cond.selects RX0 yX0_normAt yX0_normAt, Cond.code yX0_normAt cX0_normAt 4 (some .int), Cond.instanceMethod yX0_numerator, Cond.selects RX0 yX0_numerator yX0_numerator, Cond.code yX0_numerator cX0_numerator 2 (some .long), Cond.static yX2_gcd, Cond.code yX2_gcd cX2_gcd 11 (some .long)]
def wsX2_beatNumerator : List Cond := .code yX2_beatNumerator cX2_beatNumerator 5 (some .long) :: ((wsX2_beatNumerator_r1 ++ (wsX2_beatNumerator_r2 ++ wsX2_beatNumerator_r3)) ++ wsX20 ++ wsX10 ++ wsX00)
def wsX2_beatDenominator_r1 : List Cond := [Cond.fieldLink RX2 33 "PlateBeats" "group" "LPlateBeats$Group;", Cond.methodLink RX2 133 yX2_normOfRank, Cond.instanceMethod yX2_normOfRank, Cond.selects RX2 yX2_normOfRank yX2_normOfRank, Cond.initialized RX2, Cond.code yX2_normOfRank cX2_normOfRank 4 (some .int), Cond.fieldLink RX2 10 "PlateBeats" "present" "LPlateBeats$State;", Cond.instanceMethod yX1_hasPair, Cond.initialized RX1, Cond.selects RX1 yX1_hasPair yX1_hasPair, Cond.code yX1_hasPair cX1_hasPair 3 (some .boolean), Cond.methodLink RX1 31 yX1_has, Cond.instanceMethod yX1_has, Cond.selects RX1 yX1_has yX1_has, Cond.code yX1_has cX1_has 2 (some .boolean), Cond.fieldLink RX1 18 "PlateBeats$State" "count" "I", Cond.instanceMethod yX0_fillPair, Cond.initialized RX0, Cond.selects RX0 yX0_fillPair yX0_fillPair, Cond.code yX0_fillPair cX0_fillPair 6 none, Cond.methodLink RX0 49 yX0_startPair, Cond.instanceMethod yX0_startPair, Cond.selects RX0 yX0_startPair yX0_startPair, Cond.code yX0_startPair cX0_startPair 4 none]
def wsX2_beatDenominator_r2 : List Cond := [Cond.instanceMethod yX1_areaOf, Cond.selects RX1 yX1_areaOf yX1_areaOf, Cond.code yX1_areaOf cX1_areaOf 2 (some .int), Cond.methodLink RX1 35 yX1_pOf, Cond.instanceMethod yX1_pOf, Cond.selects RX1 yX1_pOf yX1_pOf, Cond.code yX1_pOf cX1_pOf 2 (some .int), Cond.fieldLink RX1 9 "PlateBeats$State" "p" "[I", Cond.methodLink RX1 39 yX1_qOf, Cond.instanceMethod yX1_qOf, Cond.selects RX1 yX1_qOf yX1_qOf, Cond.code yX1_qOf cX1_qOf 2 (some .int), Cond.fieldLink RX1 15 "PlateBeats$State" "q" "[I", Cond.methodLink RX0 31 yX0_start, Cond.instanceMethod yX0_start, Cond.selects RX0 yX0_start yX0_start, Cond.code yX0_start cX0_start 8 none, Cond.fieldLink RX0 35 "PlateBeats$Group" "size" "I", Cond.fieldLink RX0 15 "PlateBeats$Group" "areas" "J", Cond.fieldLink RX0 19 "PlateBeats$Group" "leastFine" "J", Cond.fieldLink RX0 22 "PlateBeats$Group" "greatestLong" "J", Cond.static yX2_divided, Cond.code yX2_divided cX2_divided 4 (some .long), Cond.methodLink RX0 56 yX0_addAllFor]
def wsX2_beatDenominator_r3 : List Cond := [Cond.instanceMethod yX0_addAllFor, Cond.selects RX0 yX0_addAllFor yX0_addAllFor, Cond.code yX0_addAllFor cX0_addAllFor 14 none, Cond.static yX2_realPart, Cond.code yX2_realPart cX2_realPart 4 (some .int), Cond.static yX2_imaginaryPart, Cond.code yX2_imaginaryPart cX2_imaginaryPart 4 (some .int), Cond.methodLink RX0 73 yX0_add, Cond.instanceMethod yX0_add, Cond.selects RX0 yX0_add yX0_add, Cond.code yX0_add cX0_add 2 none, Cond.fieldLink RX0 9 "PlateBeats$Group" "norms" "[I", Cond.instanceMethod yX0_sort, Cond.selects RX0 yX0_sort yX0_sort, Cond.code yX0_sort cX0_sort 4 none, Cond.instanceMethod yX0_normAt, Cond.selects RX0 yX0_normAt yX0_normAt, Cond.code yX0_normAt cX0_normAt 4 (some .int), Cond.instanceMethod yX0_denominator, Cond.selects RX0 yX0_denominator yX0_denominator, Cond.code yX0_denominator cX0_denominator 2 (some .long), Cond.static yX2_gcd, Cond.code yX2_gcd cX2_gcd 11 (some .long)]
def wsX2_beatDenominator : List Cond := .code yX2_beatDenominator cX2_beatDenominator 5 (some .long) :: ((wsX2_beatDenominator_r1 ++ (wsX2_beatDenominator_r2 ++ wsX2_beatDenominator_r3)) ++ wsX20 ++ wsX10 ++ wsX00)
def wsX2_beatFrequency_r1 : List Cond := [Cond.fieldLink RX2 33 "PlateBeats" "group" "LPlateBeats$Group;", Cond.methodLink RX2 133 yX2_normOfRank, Cond.instanceMethod yX2_normOfRank, Cond.selects RX2 yX2_normOfRank yX2_normOfRank, Cond.initialized RX2, Cond.code yX2_normOfRank cX2_normOfRank 4 (some .int), Cond.fieldLink RX2 10 "PlateBeats" "present" "LPlateBeats$State;", Cond.instanceMethod yX1_hasPair, Cond.initialized RX1, Cond.selects RX1 yX1_hasPair yX1_hasPair, Cond.code yX1_hasPair cX1_hasPair 3 (some .boolean), Cond.methodLink RX1 31 yX1_has, Cond.instanceMethod yX1_has, Cond.selects RX1 yX1_has yX1_has, Cond.code yX1_has cX1_has 2 (some .boolean), Cond.fieldLink RX1 18 "PlateBeats$State" "count" "I", Cond.instanceMethod yX0_fillPair, Cond.initialized RX0, Cond.selects RX0 yX0_fillPair yX0_fillPair, Cond.code yX0_fillPair cX0_fillPair 6 none, Cond.methodLink RX0 49 yX0_startPair, Cond.instanceMethod yX0_startPair, Cond.selects RX0 yX0_startPair yX0_startPair, Cond.code yX0_startPair cX0_startPair 4 none]
def wsX2_beatFrequency_r2 : List Cond := [Cond.instanceMethod yX1_areaOf, Cond.selects RX1 yX1_areaOf yX1_areaOf, Cond.code yX1_areaOf cX1_areaOf 2 (some .int), Cond.methodLink RX1 35 yX1_pOf, Cond.instanceMethod yX1_pOf, Cond.selects RX1 yX1_pOf yX1_pOf, Cond.code yX1_pOf cX1_pOf 2 (some .int), Cond.fieldLink RX1 9 "PlateBeats$State" "p" "[I", Cond.methodLink RX1 39 yX1_qOf, Cond.instanceMethod yX1_qOf, Cond.selects RX1 yX1_qOf yX1_qOf, Cond.code yX1_qOf cX1_qOf 2 (some .int), Cond.fieldLink RX1 15 "PlateBeats$State" "q" "[I", Cond.methodLink RX0 31 yX0_start, Cond.instanceMethod yX0_start, Cond.selects RX0 yX0_start yX0_start, Cond.code yX0_start cX0_start 8 none, Cond.fieldLink RX0 35 "PlateBeats$Group" "size" "I", Cond.fieldLink RX0 15 "PlateBeats$Group" "areas" "J", Cond.fieldLink RX0 19 "PlateBeats$Group" "leastFine" "J", Cond.fieldLink RX0 22 "PlateBeats$Group" "greatestLong" "J", Cond.static yX2_divided, Cond.code yX2_divided cX2_divided 4 (some .long), Cond.methodLink RX0 56 yX0_addAllFor]
def wsX2_beatFrequency_r3 : List Cond := [Cond.instanceMethod yX0_addAllFor, Cond.selects RX0 yX0_addAllFor yX0_addAllFor, Cond.code yX0_addAllFor cX0_addAllFor 14 none, Cond.static yX2_realPart, Cond.code yX2_realPart cX2_realPart 4 (some .int), Cond.static yX2_imaginaryPart, Cond.code yX2_imaginaryPart cX2_imaginaryPart 4 (some .int), Cond.methodLink RX0 73 yX0_add, Cond.instanceMethod yX0_add, Cond.selects RX0 yX0_add yX0_add, Cond.code yX0_add cX0_add 2 none, Cond.fieldLink RX0 9 "PlateBeats$Group" "norms" "[I", Cond.instanceMethod yX0_sort, Cond.selects RX0 yX0_sort yX0_sort, Cond.code yX0_sort cX0_sort 4 none, Cond.instanceMethod yX0_normAt, Cond.selects RX0 yX0_normAt yX0_normAt, Cond.code yX0_normAt cX0_normAt 4 (some .int), Cond.instanceMethod yX0_combinationsWith, Cond.selects RX0 yX0_combinationsWith yX0_combinationsWith, Cond.code yX0_combinationsWith cX0_combinationsWith 4 (some .int)]
def wsX2_beatFrequency : List Cond := .code yX2_beatFrequency cX2_beatFrequency 5 (some .int) :: ((wsX2_beatFrequency_r1 ++ (wsX2_beatFrequency_r2 ++ wsX2_beatFrequency_r3)) ++ wsX20 ++ wsX10 ++ wsX00)
def wsX2_beatPeriod_r1 : List Cond := [Cond.fieldLink RX2 33 "PlateBeats" "group" "LPlateBeats$Group;", Cond.methodLink RX2 133 yX2_normOfRank, Cond.instanceMethod yX2_normOfRank, Cond.selects RX2 yX2_normOfRank yX2_normOfRank, Cond.initialized RX2, Cond.code yX2_normOfRank cX2_normOfRank 4 (some .int), Cond.fieldLink RX2 10 "PlateBeats" "present" "LPlateBeats$State;", Cond.instanceMethod yX1_hasPair, Cond.initialized RX1, Cond.selects RX1 yX1_hasPair yX1_hasPair, Cond.code yX1_hasPair cX1_hasPair 3 (some .boolean), Cond.methodLink RX1 31 yX1_has, Cond.instanceMethod yX1_has, Cond.selects RX1 yX1_has yX1_has, Cond.code yX1_has cX1_has 2 (some .boolean), Cond.fieldLink RX1 18 "PlateBeats$State" "count" "I", Cond.instanceMethod yX0_fillPair, Cond.initialized RX0, Cond.selects RX0 yX0_fillPair yX0_fillPair, Cond.code yX0_fillPair cX0_fillPair 6 none, Cond.methodLink RX0 49 yX0_startPair, Cond.instanceMethod yX0_startPair, Cond.selects RX0 yX0_startPair yX0_startPair, Cond.code yX0_startPair cX0_startPair 4 none]
def wsX2_beatPeriod_r2 : List Cond := [Cond.instanceMethod yX1_areaOf, Cond.selects RX1 yX1_areaOf yX1_areaOf, Cond.code yX1_areaOf cX1_areaOf 2 (some .int), Cond.methodLink RX1 35 yX1_pOf, Cond.instanceMethod yX1_pOf, Cond.selects RX1 yX1_pOf yX1_pOf, Cond.code yX1_pOf cX1_pOf 2 (some .int), Cond.fieldLink RX1 9 "PlateBeats$State" "p" "[I", Cond.methodLink RX1 39 yX1_qOf, Cond.instanceMethod yX1_qOf, Cond.selects RX1 yX1_qOf yX1_qOf, Cond.code yX1_qOf cX1_qOf 2 (some .int), Cond.fieldLink RX1 15 "PlateBeats$State" "q" "[I", Cond.methodLink RX0 31 yX0_start, Cond.instanceMethod yX0_start, Cond.selects RX0 yX0_start yX0_start, Cond.code yX0_start cX0_start 8 none, Cond.fieldLink RX0 35 "PlateBeats$Group" "size" "I", Cond.fieldLink RX0 15 "PlateBeats$Group" "areas" "J", Cond.fieldLink RX0 19 "PlateBeats$Group" "leastFine" "J", Cond.fieldLink RX0 22 "PlateBeats$Group" "greatestLong" "J", Cond.static yX2_divided, Cond.code yX2_divided cX2_divided 4 (some .long), Cond.methodLink RX0 56 yX0_addAllFor]
def wsX2_beatPeriod_r3 : List Cond := [Cond.instanceMethod yX0_addAllFor, Cond.selects RX0 yX0_addAllFor yX0_addAllFor, Cond.code yX0_addAllFor cX0_addAllFor 14 none, Cond.static yX2_realPart, Cond.code yX2_realPart cX2_realPart 4 (some .int), Cond.static yX2_imaginaryPart, Cond.code yX2_imaginaryPart cX2_imaginaryPart 4 (some .int), Cond.methodLink RX0 73 yX0_add, Cond.instanceMethod yX0_add, Cond.selects RX0 yX0_add yX0_add, Cond.code yX0_add cX0_add 2 none, Cond.fieldLink RX0 9 "PlateBeats$Group" "norms" "[I", Cond.instanceMethod yX0_sort, Cond.selects RX0 yX0_sort yX0_sort, Cond.code yX0_sort cX0_sort 4 none, Cond.instanceMethod yX0_normAt, Cond.selects RX0 yX0_normAt yX0_normAt, Cond.code yX0_normAt cX0_normAt 4 (some .int), Cond.instanceMethod yX0_period, Cond.selects RX0 yX0_period yX0_period, Cond.code yX0_period cX0_period 2 (some .int), Cond.static yX2_root, Cond.code yX2_root cX2_root 6 (some .int)]
def wsX2_beatPeriod : List Cond := .code yX2_beatPeriod cX2_beatPeriod 5 (some .int) :: ((wsX2_beatPeriod_r1 ++ (wsX2_beatPeriod_r2 ++ wsX2_beatPeriod_r3)) ++ wsX20 ++ wsX10 ++ wsX00)
def wsX2_locked_r1 : List Cond := [Cond.fieldLink RX2 10 "PlateBeats" "present" "LPlateBeats$State;", Cond.fieldLink RX2 33 "PlateBeats" "group" "LPlateBeats$Group;", Cond.instanceMethod yX1_hasPair, Cond.initialized RX1, Cond.selects RX1 yX1_hasPair yX1_hasPair, Cond.code yX1_hasPair cX1_hasPair 3 (some .boolean), Cond.methodLink RX1 31 yX1_has, Cond.instanceMethod yX1_has, Cond.selects RX1 yX1_has yX1_has, Cond.code yX1_has cX1_has 2 (some .boolean), Cond.fieldLink RX1 18 "PlateBeats$State" "count" "I", Cond.instanceMethod yX0_fillPair, Cond.initialized RX0, Cond.selects RX0 yX0_fillPair yX0_fillPair, Cond.code yX0_fillPair cX0_fillPair 6 none, Cond.methodLink RX0 49 yX0_startPair, Cond.instanceMethod yX0_startPair, Cond.selects RX0 yX0_startPair yX0_startPair, Cond.code yX0_startPair cX0_startPair 4 none, Cond.instanceMethod yX1_areaOf, Cond.selects RX1 yX1_areaOf yX1_areaOf, Cond.code yX1_areaOf cX1_areaOf 2 (some .int), Cond.methodLink RX1 35 yX1_pOf, Cond.instanceMethod yX1_pOf]
def wsX2_locked_r2 : List Cond := [Cond.selects RX1 yX1_pOf yX1_pOf, Cond.code yX1_pOf cX1_pOf 2 (some .int), Cond.fieldLink RX1 9 "PlateBeats$State" "p" "[I", Cond.methodLink RX1 39 yX1_qOf, Cond.instanceMethod yX1_qOf, Cond.selects RX1 yX1_qOf yX1_qOf, Cond.code yX1_qOf cX1_qOf 2 (some .int), Cond.fieldLink RX1 15 "PlateBeats$State" "q" "[I", Cond.methodLink RX0 31 yX0_start, Cond.instanceMethod yX0_start, Cond.selects RX0 yX0_start yX0_start, Cond.code yX0_start cX0_start 8 none, Cond.fieldLink RX0 35 "PlateBeats$Group" "size" "I", Cond.fieldLink RX0 15 "PlateBeats$Group" "areas" "J", Cond.fieldLink RX0 19 "PlateBeats$Group" "leastFine" "J", Cond.fieldLink RX0 22 "PlateBeats$Group" "greatestLong" "J", Cond.static yX2_divided, Cond.initialized RX2, Cond.code yX2_divided cX2_divided 4 (some .long), Cond.methodLink RX0 56 yX0_addAllFor, Cond.instanceMethod yX0_addAllFor, Cond.selects RX0 yX0_addAllFor yX0_addAllFor, Cond.code yX0_addAllFor cX0_addAllFor 14 none, Cond.static yX2_realPart]
def wsX2_locked_r3 : List Cond := [Cond.code yX2_realPart cX2_realPart 4 (some .int), Cond.static yX2_imaginaryPart, Cond.code yX2_imaginaryPart cX2_imaginaryPart 4 (some .int), Cond.methodLink RX0 73 yX0_add, Cond.instanceMethod yX0_add, Cond.selects RX0 yX0_add yX0_add, Cond.code yX0_add cX0_add 2 none, Cond.fieldLink RX0 9 "PlateBeats$Group" "norms" "[I", Cond.instanceMethod yX0_combinationsWith, Cond.selects RX0 yX0_combinationsWith yX0_combinationsWith, Cond.code yX0_combinationsWith cX0_combinationsWith 4 (some .int)]
def wsX2_locked : List Cond := .code yX2_locked cX2_locked 3 (some .int) :: ((wsX2_locked_r1 ++ (wsX2_locked_r2 ++ wsX2_locked_r3)) ++ wsX20 ++ wsX10 ++ wsX00)
def wsX2_pairBands_r1 : List Cond := [Cond.fieldLink RX2 33 "PlateBeats" "group" "LPlateBeats$Group;", Cond.fieldLink RX2 10 "PlateBeats" "present" "LPlateBeats$State;", Cond.instanceMethod yX0_fillPair, Cond.initialized RX0, Cond.selects RX0 yX0_fillPair yX0_fillPair, Cond.code yX0_fillPair cX0_fillPair 6 none, Cond.methodLink RX0 49 yX0_startPair, Cond.instanceMethod yX0_startPair, Cond.selects RX0 yX0_startPair yX0_startPair, Cond.code yX0_startPair cX0_startPair 4 none, Cond.instanceMethod yX1_areaOf, Cond.initialized RX1, Cond.selects RX1 yX1_areaOf yX1_areaOf, Cond.code yX1_areaOf cX1_areaOf 2 (some .int), Cond.methodLink RX1 35 yX1_pOf, Cond.instanceMethod yX1_pOf, Cond.selects RX1 yX1_pOf yX1_pOf, Cond.code yX1_pOf cX1_pOf 2 (some .int), Cond.fieldLink RX1 9 "PlateBeats$State" "p" "[I", Cond.methodLink RX1 31 yX1_has, Cond.instanceMethod yX1_has, Cond.selects RX1 yX1_has yX1_has, Cond.code yX1_has cX1_has 2 (some .boolean), Cond.fieldLink RX1 18 "PlateBeats$State" "count" "I"]
def wsX2_pairBands_r2 : List Cond := [Cond.methodLink RX1 39 yX1_qOf, Cond.instanceMethod yX1_qOf, Cond.selects RX1 yX1_qOf yX1_qOf, Cond.code yX1_qOf cX1_qOf 2 (some .int), Cond.fieldLink RX1 15 "PlateBeats$State" "q" "[I", Cond.methodLink RX0 31 yX0_start, Cond.instanceMethod yX0_start, Cond.selects RX0 yX0_start yX0_start, Cond.code yX0_start cX0_start 8 none, Cond.fieldLink RX0 35 "PlateBeats$Group" "size" "I", Cond.fieldLink RX0 15 "PlateBeats$Group" "areas" "J", Cond.fieldLink RX0 19 "PlateBeats$Group" "leastFine" "J", Cond.fieldLink RX0 22 "PlateBeats$Group" "greatestLong" "J", Cond.static yX2_divided, Cond.initialized RX2, Cond.code yX2_divided cX2_divided 4 (some .long), Cond.methodLink RX0 56 yX0_addAllFor, Cond.instanceMethod yX0_addAllFor, Cond.selects RX0 yX0_addAllFor yX0_addAllFor, Cond.code yX0_addAllFor cX0_addAllFor 14 none, Cond.static yX2_realPart, Cond.code yX2_realPart cX2_realPart 4 (some .int), Cond.static yX2_imaginaryPart, Cond.code yX2_imaginaryPart cX2_imaginaryPart 4 (some .int)]
def wsX2_pairBands_r3 : List Cond := [Cond.methodLink RX0 73 yX0_add, Cond.instanceMethod yX0_add, Cond.selects RX0 yX0_add yX0_add, Cond.code yX0_add cX0_add 2 none, Cond.fieldLink RX0 9 "PlateBeats$Group" "norms" "[I", Cond.instanceMethod yX0_bandCount, Cond.selects RX0 yX0_bandCount yX0_bandCount, Cond.code yX0_bandCount cX0_bandCount 3 (some .int), Cond.methodLink RX0 95 yX0_kindOf, Cond.instanceMethod yX0_kindOf, Cond.selects RX0 yX0_kindOf yX0_kindOf, Cond.code yX0_kindOf cX0_kindOf 2 (some .int)]
def wsX2_pairBands : List Cond := .code yX2_pairBands cX2_pairBands 3 (some .int) :: ((wsX2_pairBands_r1 ++ (wsX2_pairBands_r2 ++ wsX2_pairBands_r3)) ++ wsX20 ++ wsX10 ++ wsX00)
def wsX2_bands_r1 : List Cond := [Cond.fieldLink RX2 10 "PlateBeats" "present" "LPlateBeats$State;", Cond.instanceMethod yX1_hasPair, Cond.initialized RX1, Cond.selects RX1 yX1_hasPair yX1_hasPair, Cond.code yX1_hasPair cX1_hasPair 3 (some .boolean), Cond.methodLink RX1 31 yX1_has, Cond.instanceMethod yX1_has, Cond.selects RX1 yX1_has yX1_has, Cond.code yX1_has cX1_has 2 (some .boolean), Cond.fieldLink RX1 18 "PlateBeats$State" "count" "I", Cond.methodLink RX2 143 yX2_pairBands, Cond.instanceMethod yX2_pairBands, Cond.selects RX2 yX2_pairBands yX2_pairBands, Cond.initialized RX2, Cond.code yX2_pairBands cX2_pairBands 3 (some .int), Cond.fieldLink RX2 33 "PlateBeats" "group" "LPlateBeats$Group;", Cond.instanceMethod yX0_fillPair, Cond.initialized RX0, Cond.selects RX0 yX0_fillPair yX0_fillPair, Cond.code yX0_fillPair cX0_fillPair 6 none, Cond.methodLink RX0 49 yX0_startPair, Cond.instanceMethod yX0_startPair, Cond.selects RX0 yX0_startPair yX0_startPair, Cond.code yX0_startPair cX0_startPair 4 none]
def wsX2_bands_r2 : List Cond := [Cond.instanceMethod yX1_areaOf, Cond.selects RX1 yX1_areaOf yX1_areaOf, Cond.code yX1_areaOf cX1_areaOf 2 (some .int), Cond.methodLink RX1 35 yX1_pOf, Cond.instanceMethod yX1_pOf, Cond.selects RX1 yX1_pOf yX1_pOf, Cond.code yX1_pOf cX1_pOf 2 (some .int), Cond.fieldLink RX1 9 "PlateBeats$State" "p" "[I", Cond.methodLink RX1 39 yX1_qOf, Cond.instanceMethod yX1_qOf, Cond.selects RX1 yX1_qOf yX1_qOf, Cond.code yX1_qOf cX1_qOf 2 (some .int), Cond.fieldLink RX1 15 "PlateBeats$State" "q" "[I", Cond.methodLink RX0 31 yX0_start, Cond.instanceMethod yX0_start, Cond.selects RX0 yX0_start yX0_start, Cond.code yX0_start cX0_start 8 none, Cond.fieldLink RX0 35 "PlateBeats$Group" "size" "I", Cond.fieldLink RX0 15 "PlateBeats$Group" "areas" "J", Cond.fieldLink RX0 19 "PlateBeats$Group" "leastFine" "J", Cond.fieldLink RX0 22 "PlateBeats$Group" "greatestLong" "J", Cond.static yX2_divided, Cond.code yX2_divided cX2_divided 4 (some .long), Cond.methodLink RX0 56 yX0_addAllFor]
def wsX2_bands_r3 : List Cond := [Cond.instanceMethod yX0_addAllFor, Cond.selects RX0 yX0_addAllFor yX0_addAllFor, Cond.code yX0_addAllFor cX0_addAllFor 14 none, Cond.static yX2_realPart, Cond.code yX2_realPart cX2_realPart 4 (some .int), Cond.static yX2_imaginaryPart, Cond.code yX2_imaginaryPart cX2_imaginaryPart 4 (some .int), Cond.methodLink RX0 73 yX0_add, Cond.instanceMethod yX0_add, Cond.selects RX0 yX0_add yX0_add, Cond.code yX0_add cX0_add 2 none, Cond.fieldLink RX0 9 "PlateBeats$Group" "norms" "[I", Cond.instanceMethod yX0_bandCount, Cond.selects RX0 yX0_bandCount yX0_bandCount, Cond.code yX0_bandCount cX0_bandCount 3 (some .int), Cond.methodLink RX0 95 yX0_kindOf, Cond.instanceMethod yX0_kindOf, Cond.selects RX0 yX0_kindOf yX0_kindOf, Cond.code yX0_kindOf cX0_kindOf 2 (some .int)]
def wsX2_bands : List Cond := .code yX2_bands cX2_bands 3 (some .int) :: ((wsX2_bands_r1 ++ (wsX2_bands_r2 ++ wsX2_bands_r3)) ++ wsX20 ++ wsX10 ++ wsX00)
def wsX2_tripleBands_r1 : List Cond := [Cond.fieldLink RX2 10 "PlateBeats" "present" "LPlateBeats$State;", Cond.fieldLink RX2 33 "PlateBeats" "group" "LPlateBeats$Group;", Cond.instanceMethod yX1_hasPair, Cond.initialized RX1, Cond.selects RX1 yX1_hasPair yX1_hasPair, Cond.code yX1_hasPair cX1_hasPair 3 (some .boolean), Cond.methodLink RX1 31 yX1_has, Cond.instanceMethod yX1_has, Cond.selects RX1 yX1_has yX1_has, Cond.code yX1_has cX1_has 2 (some .boolean), Cond.fieldLink RX1 18 "PlateBeats$State" "count" "I", Cond.instanceMethod yX0_fillTriple, Cond.initialized RX0, Cond.selects RX0 yX0_fillTriple yX0_fillTriple, Cond.code yX0_fillTriple cX0_fillTriple 16 none, Cond.instanceMethod yX1_areaOf, Cond.selects RX1 yX1_areaOf yX1_areaOf, Cond.code yX1_areaOf cX1_areaOf 2 (some .int), Cond.methodLink RX1 35 yX1_pOf, Cond.instanceMethod yX1_pOf, Cond.selects RX1 yX1_pOf yX1_pOf, Cond.code yX1_pOf cX1_pOf 2 (some .int), Cond.fieldLink RX1 9 "PlateBeats$State" "p" "[I", Cond.methodLink RX1 39 yX1_qOf]
def wsX2_tripleBands_r2 : List Cond := [Cond.instanceMethod yX1_qOf, Cond.selects RX1 yX1_qOf yX1_qOf, Cond.code yX1_qOf cX1_qOf 2 (some .int), Cond.fieldLink RX1 15 "PlateBeats$State" "q" "[I", Cond.methodLink RX0 31 yX0_start, Cond.instanceMethod yX0_start, Cond.selects RX0 yX0_start yX0_start, Cond.code yX0_start cX0_start 8 none, Cond.fieldLink RX0 35 "PlateBeats$Group" "size" "I", Cond.fieldLink RX0 15 "PlateBeats$Group" "areas" "J", Cond.fieldLink RX0 19 "PlateBeats$Group" "leastFine" "J", Cond.fieldLink RX0 22 "PlateBeats$Group" "greatestLong" "J", Cond.static yX2_divided, Cond.initialized RX2, Cond.code yX2_divided cX2_divided 4 (some .long), Cond.methodLink RX0 77 yX0_productReal, Cond.static yX0_productReal, Cond.code yX0_productReal cX0_productReal 3 (some .int), Cond.methodLink RX0 81 yX0_productImaginary, Cond.static yX0_productImaginary, Cond.code yX0_productImaginary cX0_productImaginary 3 (some .int), Cond.methodLink RX0 73 yX0_add, Cond.instanceMethod yX0_add, Cond.selects RX0 yX0_add yX0_add]
def wsX2_tripleBands_r3 : List Cond := [Cond.code yX0_add cX0_add 2 none, Cond.fieldLink RX0 9 "PlateBeats$Group" "norms" "[I", Cond.instanceMethod yX0_bandCount, Cond.selects RX0 yX0_bandCount yX0_bandCount, Cond.code yX0_bandCount cX0_bandCount 3 (some .int), Cond.methodLink RX0 95 yX0_kindOf, Cond.instanceMethod yX0_kindOf, Cond.selects RX0 yX0_kindOf yX0_kindOf, Cond.code yX0_kindOf cX0_kindOf 2 (some .int)]
def wsX2_tripleBands : List Cond := .code yX2_tripleBands cX2_tripleBands 4 (some .int) :: ((wsX2_tripleBands_r1 ++ (wsX2_tripleBands_r2 ++ wsX2_tripleBands_r3)) ++ wsX20 ++ wsX10 ++ wsX00)
def wsX2_bandsOfGroups_r1 : List Cond := [Cond.fieldLink RX2 164 "PlateBeats" "GROUPS" "[I", Cond.fieldLink RX2 33 "PlateBeats" "group" "LPlateBeats$Group;", Cond.instanceMethod yX1_hasAll, Cond.initialized RX1, Cond.selects RX1 yX1_hasAll yX1_hasAll, Cond.code yX1_hasAll cX1_hasAll 2 (some .boolean), Cond.fieldLink RX1 18 "PlateBeats$State" "count" "I", Cond.instanceMethod yX0_fillPlates, Cond.initialized RX0, Cond.selects RX0 yX0_fillPlates yX0_fillPlates, Cond.code yX0_fillPlates cX0_fillPlates 6 none, Cond.methodLink RX0 84 yX0_firstPlate, Cond.static yX0_firstPlate, Cond.code yX0_firstPlate cX0_firstPlate 3 (some .int), Cond.methodLink RX0 88 yX0_fillTriple, Cond.instanceMethod yX0_fillTriple, Cond.selects RX0 yX0_fillTriple yX0_fillTriple, Cond.code yX0_fillTriple cX0_fillTriple 16 none, Cond.instanceMethod yX1_areaOf, Cond.selects RX1 yX1_areaOf yX1_areaOf, Cond.code yX1_areaOf cX1_areaOf 2 (some .int), Cond.methodLink RX1 35 yX1_pOf, Cond.instanceMethod yX1_pOf, Cond.selects RX1 yX1_pOf yX1_pOf]
def wsX2_bandsOfGroups_r2 : List Cond := [Cond.code yX1_pOf cX1_pOf 2 (some .int), Cond.fieldLink RX1 9 "PlateBeats$State" "p" "[I", Cond.methodLink RX1 31 yX1_has, Cond.instanceMethod yX1_has, Cond.selects RX1 yX1_has yX1_has, Cond.code yX1_has cX1_has 2 (some .boolean), Cond.methodLink RX1 39 yX1_qOf, Cond.instanceMethod yX1_qOf, Cond.selects RX1 yX1_qOf yX1_qOf, Cond.code yX1_qOf cX1_qOf 2 (some .int), Cond.fieldLink RX1 15 "PlateBeats$State" "q" "[I", Cond.methodLink RX0 31 yX0_start, Cond.instanceMethod yX0_start, Cond.selects RX0 yX0_start yX0_start, Cond.code yX0_start cX0_start 8 none, Cond.fieldLink RX0 35 "PlateBeats$Group" "size" "I", Cond.fieldLink RX0 15 "PlateBeats$Group" "areas" "J", Cond.fieldLink RX0 19 "PlateBeats$Group" "leastFine" "J", Cond.fieldLink RX0 22 "PlateBeats$Group" "greatestLong" "J", Cond.static yX2_divided, Cond.initialized RX2, Cond.code yX2_divided cX2_divided 4 (some .long), Cond.methodLink RX0 77 yX0_productReal, Cond.static yX0_productReal]
def wsX2_bandsOfGroups_r3 : List Cond := [Cond.code yX0_productReal cX0_productReal 3 (some .int), Cond.methodLink RX0 81 yX0_productImaginary, Cond.static yX0_productImaginary, Cond.code yX0_productImaginary cX0_productImaginary 3 (some .int), Cond.methodLink RX0 73 yX0_add, Cond.instanceMethod yX0_add, Cond.selects RX0 yX0_add yX0_add, Cond.code yX0_add cX0_add 2 none, Cond.fieldLink RX0 9 "PlateBeats$Group" "norms" "[I", Cond.methodLink RX0 92 yX0_fillPair, Cond.instanceMethod yX0_fillPair, Cond.selects RX0 yX0_fillPair yX0_fillPair, Cond.code yX0_fillPair cX0_fillPair 6 none, Cond.methodLink RX0 49 yX0_startPair, Cond.instanceMethod yX0_startPair, Cond.selects RX0 yX0_startPair yX0_startPair, Cond.code yX0_startPair cX0_startPair 4 none, Cond.methodLink RX0 56 yX0_addAllFor, Cond.instanceMethod yX0_addAllFor, Cond.selects RX0 yX0_addAllFor yX0_addAllFor, Cond.code yX0_addAllFor cX0_addAllFor 14 none, Cond.static yX2_realPart, Cond.code yX2_realPart cX2_realPart 4 (some .int), Cond.static yX2_imaginaryPart]
def wsX2_bandsOfGroups_r4 : List Cond := [Cond.code yX2_imaginaryPart cX2_imaginaryPart 4 (some .int), Cond.instanceMethod yX0_bandCount, Cond.selects RX0 yX0_bandCount yX0_bandCount, Cond.code yX0_bandCount cX0_bandCount 3 (some .int), Cond.methodLink RX0 95 yX0_kindOf, Cond.instanceMethod yX0_kindOf, Cond.selects RX0 yX0_kindOf yX0_kindOf, Cond.code yX0_kindOf cX0_kindOf 2 (some .int)]
def wsX2_bandsOfGroups : List Cond := .code yX2_bandsOfGroups cX2_bandsOfGroups 6 (some .int) :: ((wsX2_bandsOfGroups_r1 ++ (wsX2_bandsOfGroups_r2 ++ (wsX2_bandsOfGroups_r3 ++ wsX2_bandsOfGroups_r4))) ++ wsX20 ++ wsX10 ++ wsX00)
def wsX2_allBands_r1 : List Cond := [Cond.fieldLink RX2 10 "PlateBeats" "present" "LPlateBeats$State;", Cond.methodLink RX2 160 yX2_bandsOfGroups, Cond.instanceMethod yX2_bandsOfGroups, Cond.selects RX2 yX2_bandsOfGroups yX2_bandsOfGroups, Cond.initialized RX2, Cond.code yX2_bandsOfGroups cX2_bandsOfGroups 6 (some .int), Cond.fieldLink RX2 164 "PlateBeats" "GROUPS" "[I", Cond.fieldLink RX2 33 "PlateBeats" "group" "LPlateBeats$Group;", Cond.instanceMethod yX1_hasAll, Cond.initialized RX1, Cond.selects RX1 yX1_hasAll yX1_hasAll, Cond.code yX1_hasAll cX1_hasAll 2 (some .boolean), Cond.fieldLink RX1 18 "PlateBeats$State" "count" "I", Cond.instanceMethod yX0_fillPlates, Cond.initialized RX0, Cond.selects RX0 yX0_fillPlates yX0_fillPlates, Cond.code yX0_fillPlates cX0_fillPlates 6 none, Cond.methodLink RX0 84 yX0_firstPlate, Cond.static yX0_firstPlate, Cond.code yX0_firstPlate cX0_firstPlate 3 (some .int), Cond.methodLink RX0 88 yX0_fillTriple, Cond.instanceMethod yX0_fillTriple, Cond.selects RX0 yX0_fillTriple yX0_fillTriple, Cond.code yX0_fillTriple cX0_fillTriple 16 none]
def wsX2_allBands_r2 : List Cond := [Cond.instanceMethod yX1_areaOf, Cond.selects RX1 yX1_areaOf yX1_areaOf, Cond.code yX1_areaOf cX1_areaOf 2 (some .int), Cond.methodLink RX1 35 yX1_pOf, Cond.instanceMethod yX1_pOf, Cond.selects RX1 yX1_pOf yX1_pOf, Cond.code yX1_pOf cX1_pOf 2 (some .int), Cond.fieldLink RX1 9 "PlateBeats$State" "p" "[I", Cond.methodLink RX1 31 yX1_has, Cond.instanceMethod yX1_has, Cond.selects RX1 yX1_has yX1_has, Cond.code yX1_has cX1_has 2 (some .boolean), Cond.methodLink RX1 39 yX1_qOf, Cond.instanceMethod yX1_qOf, Cond.selects RX1 yX1_qOf yX1_qOf, Cond.code yX1_qOf cX1_qOf 2 (some .int), Cond.fieldLink RX1 15 "PlateBeats$State" "q" "[I", Cond.methodLink RX0 31 yX0_start, Cond.instanceMethod yX0_start, Cond.selects RX0 yX0_start yX0_start, Cond.code yX0_start cX0_start 8 none, Cond.fieldLink RX0 35 "PlateBeats$Group" "size" "I", Cond.fieldLink RX0 15 "PlateBeats$Group" "areas" "J", Cond.fieldLink RX0 19 "PlateBeats$Group" "leastFine" "J"]
def wsX2_allBands_r3 : List Cond := [Cond.fieldLink RX0 22 "PlateBeats$Group" "greatestLong" "J", Cond.static yX2_divided, Cond.code yX2_divided cX2_divided 4 (some .long), Cond.methodLink RX0 77 yX0_productReal, Cond.static yX0_productReal, Cond.code yX0_productReal cX0_productReal 3 (some .int), Cond.methodLink RX0 81 yX0_productImaginary, Cond.static yX0_productImaginary, Cond.code yX0_productImaginary cX0_productImaginary 3 (some .int), Cond.methodLink RX0 73 yX0_add, Cond.instanceMethod yX0_add, Cond.selects RX0 yX0_add yX0_add, Cond.code yX0_add cX0_add 2 none, Cond.fieldLink RX0 9 "PlateBeats$Group" "norms" "[I", Cond.methodLink RX0 92 yX0_fillPair, Cond.instanceMethod yX0_fillPair, Cond.selects RX0 yX0_fillPair yX0_fillPair, Cond.code yX0_fillPair cX0_fillPair 6 none, Cond.methodLink RX0 49 yX0_startPair, Cond.instanceMethod yX0_startPair, Cond.selects RX0 yX0_startPair yX0_startPair, Cond.code yX0_startPair cX0_startPair 4 none, Cond.methodLink RX0 56 yX0_addAllFor, Cond.instanceMethod yX0_addAllFor]
def wsX2_allBands_r4 : List Cond := [Cond.selects RX0 yX0_addAllFor yX0_addAllFor, Cond.code yX0_addAllFor cX0_addAllFor 14 none, Cond.static yX2_realPart, Cond.code yX2_realPart cX2_realPart 4 (some .int), Cond.static yX2_imaginaryPart, Cond.code yX2_imaginaryPart cX2_imaginaryPart 4 (some .int), Cond.instanceMethod yX0_bandCount, Cond.selects RX0 yX0_bandCount yX0_bandCount, Cond.code yX0_bandCount cX0_bandCount 3 (some .int), Cond.methodLink RX0 95 yX0_kindOf, Cond.instanceMethod yX0_kindOf, Cond.selects RX0 yX0_kindOf yX0_kindOf, Cond.code yX0_kindOf cX0_kindOf 2 (some .int)]
def wsX2_allBands : List Cond := .code yX2_allBands cX2_allBands 1 (some .int) :: ((wsX2_allBands_r1 ++ (wsX2_allBands_r2 ++ (wsX2_allBands_r3 ++ wsX2_allBands_r4))) ++ wsX20 ++ wsX10 ++ wsX00)
def wsX2_worstPeriodOf_r1 : List Cond := [Cond.fieldLink RX2 10 "PlateBeats" "present" "LPlateBeats$State;", Cond.fieldLink RX2 33 "PlateBeats" "group" "LPlateBeats$Group;", Cond.instanceMethod yX1_hasAll, Cond.initialized RX1, Cond.selects RX1 yX1_hasAll yX1_hasAll, Cond.code yX1_hasAll cX1_hasAll 2 (some .boolean), Cond.fieldLink RX1 18 "PlateBeats$State" "count" "I", Cond.instanceMethod yX0_fillPlates, Cond.initialized RX0, Cond.selects RX0 yX0_fillPlates yX0_fillPlates, Cond.code yX0_fillPlates cX0_fillPlates 6 none, Cond.methodLink RX0 84 yX0_firstPlate, Cond.static yX0_firstPlate, Cond.code yX0_firstPlate cX0_firstPlate 3 (some .int), Cond.methodLink RX0 88 yX0_fillTriple, Cond.instanceMethod yX0_fillTriple, Cond.selects RX0 yX0_fillTriple yX0_fillTriple, Cond.code yX0_fillTriple cX0_fillTriple 16 none, Cond.instanceMethod yX1_areaOf, Cond.selects RX1 yX1_areaOf yX1_areaOf, Cond.code yX1_areaOf cX1_areaOf 2 (some .int), Cond.methodLink RX1 35 yX1_pOf, Cond.instanceMethod yX1_pOf, Cond.selects RX1 yX1_pOf yX1_pOf]
def wsX2_worstPeriodOf_r2 : List Cond := [Cond.code yX1_pOf cX1_pOf 2 (some .int), Cond.fieldLink RX1 9 "PlateBeats$State" "p" "[I", Cond.methodLink RX1 31 yX1_has, Cond.instanceMethod yX1_has, Cond.selects RX1 yX1_has yX1_has, Cond.code yX1_has cX1_has 2 (some .boolean), Cond.methodLink RX1 39 yX1_qOf, Cond.instanceMethod yX1_qOf, Cond.selects RX1 yX1_qOf yX1_qOf, Cond.code yX1_qOf cX1_qOf 2 (some .int), Cond.fieldLink RX1 15 "PlateBeats$State" "q" "[I", Cond.methodLink RX0 31 yX0_start, Cond.instanceMethod yX0_start, Cond.selects RX0 yX0_start yX0_start, Cond.code yX0_start cX0_start 8 none, Cond.fieldLink RX0 35 "PlateBeats$Group" "size" "I", Cond.fieldLink RX0 15 "PlateBeats$Group" "areas" "J", Cond.fieldLink RX0 19 "PlateBeats$Group" "leastFine" "J", Cond.fieldLink RX0 22 "PlateBeats$Group" "greatestLong" "J", Cond.static yX2_divided, Cond.initialized RX2, Cond.code yX2_divided cX2_divided 4 (some .long), Cond.methodLink RX0 77 yX0_productReal, Cond.static yX0_productReal]
def wsX2_worstPeriodOf_r3 : List Cond := [Cond.code yX0_productReal cX0_productReal 3 (some .int), Cond.methodLink RX0 81 yX0_productImaginary, Cond.static yX0_productImaginary, Cond.code yX0_productImaginary cX0_productImaginary 3 (some .int), Cond.methodLink RX0 73 yX0_add, Cond.instanceMethod yX0_add, Cond.selects RX0 yX0_add yX0_add, Cond.code yX0_add cX0_add 2 none, Cond.fieldLink RX0 9 "PlateBeats$Group" "norms" "[I", Cond.methodLink RX0 92 yX0_fillPair, Cond.instanceMethod yX0_fillPair, Cond.selects RX0 yX0_fillPair yX0_fillPair, Cond.code yX0_fillPair cX0_fillPair 6 none, Cond.methodLink RX0 49 yX0_startPair, Cond.instanceMethod yX0_startPair, Cond.selects RX0 yX0_startPair yX0_startPair, Cond.code yX0_startPair cX0_startPair 4 none, Cond.methodLink RX0 56 yX0_addAllFor, Cond.instanceMethod yX0_addAllFor, Cond.selects RX0 yX0_addAllFor yX0_addAllFor, Cond.code yX0_addAllFor cX0_addAllFor 14 none, Cond.static yX2_realPart, Cond.code yX2_realPart cX2_realPart 4 (some .int), Cond.static yX2_imaginaryPart]
def wsX2_worstPeriodOf_r4 : List Cond := [Cond.code yX2_imaginaryPart cX2_imaginaryPart 4 (some .int), Cond.instanceMethod yX0_worstPeriodFound, Cond.selects RX0 yX0_worstPeriodFound yX0_worstPeriodFound, Cond.code yX0_worstPeriodFound cX0_worstPeriodFound 3 (some .int), Cond.methodLink RX0 95 yX0_kindOf, Cond.instanceMethod yX0_kindOf, Cond.selects RX0 yX0_kindOf yX0_kindOf, Cond.code yX0_kindOf cX0_kindOf 2 (some .int), Cond.methodLink RX0 98 yX0_period, Cond.instanceMethod yX0_period, Cond.selects RX0 yX0_period yX0_period, Cond.code yX0_period cX0_period 2 (some .int), Cond.static yX2_root, Cond.code yX2_root cX2_root 6 (some .int)]
def wsX2_worstPeriodOf : List Cond := .code yX2_worstPeriodOf cX2_worstPeriodOf 2 (some .int) :: ((wsX2_worstPeriodOf_r1 ++ (wsX2_worstPeriodOf_r2 ++ (wsX2_worstPeriodOf_r3 ++ wsX2_worstPeriodOf_r4))) ++ wsX20 ++ wsX10 ++ wsX00)
def wsX2_worstPlates_r1 : List Cond := [Cond.fieldLink RX2 164 "PlateBeats" "GROUPS" "[I", Cond.methodLink RX2 168 yX2_worstPeriodOf, Cond.instanceMethod yX2_worstPeriodOf, Cond.selects RX2 yX2_worstPeriodOf yX2_worstPeriodOf, Cond.initialized RX2, Cond.code yX2_worstPeriodOf cX2_worstPeriodOf 2 (some .int), Cond.fieldLink RX2 10 "PlateBeats" "present" "LPlateBeats$State;", Cond.fieldLink RX2 33 "PlateBeats" "group" "LPlateBeats$Group;", Cond.instanceMethod yX1_hasAll, Cond.initialized RX1, Cond.selects RX1 yX1_hasAll yX1_hasAll, Cond.code yX1_hasAll cX1_hasAll 2 (some .boolean), Cond.fieldLink RX1 18 "PlateBeats$State" "count" "I", Cond.instanceMethod yX0_fillPlates, Cond.initialized RX0, Cond.selects RX0 yX0_fillPlates yX0_fillPlates, Cond.code yX0_fillPlates cX0_fillPlates 6 none, Cond.methodLink RX0 84 yX0_firstPlate, Cond.static yX0_firstPlate, Cond.code yX0_firstPlate cX0_firstPlate 3 (some .int), Cond.methodLink RX0 88 yX0_fillTriple, Cond.instanceMethod yX0_fillTriple, Cond.selects RX0 yX0_fillTriple yX0_fillTriple, Cond.code yX0_fillTriple cX0_fillTriple 16 none]
def wsX2_worstPlates_r2 : List Cond := [Cond.instanceMethod yX1_areaOf, Cond.selects RX1 yX1_areaOf yX1_areaOf, Cond.code yX1_areaOf cX1_areaOf 2 (some .int), Cond.methodLink RX1 35 yX1_pOf, Cond.instanceMethod yX1_pOf, Cond.selects RX1 yX1_pOf yX1_pOf, Cond.code yX1_pOf cX1_pOf 2 (some .int), Cond.fieldLink RX1 9 "PlateBeats$State" "p" "[I", Cond.methodLink RX1 31 yX1_has, Cond.instanceMethod yX1_has, Cond.selects RX1 yX1_has yX1_has, Cond.code yX1_has cX1_has 2 (some .boolean), Cond.methodLink RX1 39 yX1_qOf, Cond.instanceMethod yX1_qOf, Cond.selects RX1 yX1_qOf yX1_qOf, Cond.code yX1_qOf cX1_qOf 2 (some .int), Cond.fieldLink RX1 15 "PlateBeats$State" "q" "[I", Cond.methodLink RX0 31 yX0_start, Cond.instanceMethod yX0_start, Cond.selects RX0 yX0_start yX0_start, Cond.code yX0_start cX0_start 8 none, Cond.fieldLink RX0 35 "PlateBeats$Group" "size" "I", Cond.fieldLink RX0 15 "PlateBeats$Group" "areas" "J", Cond.fieldLink RX0 19 "PlateBeats$Group" "leastFine" "J"]
def wsX2_worstPlates_r3 : List Cond := [Cond.fieldLink RX0 22 "PlateBeats$Group" "greatestLong" "J", Cond.static yX2_divided, Cond.code yX2_divided cX2_divided 4 (some .long), Cond.methodLink RX0 77 yX0_productReal, Cond.static yX0_productReal, Cond.code yX0_productReal cX0_productReal 3 (some .int), Cond.methodLink RX0 81 yX0_productImaginary, Cond.static yX0_productImaginary, Cond.code yX0_productImaginary cX0_productImaginary 3 (some .int), Cond.methodLink RX0 73 yX0_add, Cond.instanceMethod yX0_add, Cond.selects RX0 yX0_add yX0_add, Cond.code yX0_add cX0_add 2 none, Cond.fieldLink RX0 9 "PlateBeats$Group" "norms" "[I", Cond.methodLink RX0 92 yX0_fillPair, Cond.instanceMethod yX0_fillPair, Cond.selects RX0 yX0_fillPair yX0_fillPair, Cond.code yX0_fillPair cX0_fillPair 6 none, Cond.methodLink RX0 49 yX0_startPair, Cond.instanceMethod yX0_startPair, Cond.selects RX0 yX0_startPair yX0_startPair, Cond.code yX0_startPair cX0_startPair 4 none, Cond.methodLink RX0 56 yX0_addAllFor, Cond.instanceMethod yX0_addAllFor]
def wsX2_worstPlates_r4 : List Cond := [Cond.selects RX0 yX0_addAllFor yX0_addAllFor, Cond.code yX0_addAllFor cX0_addAllFor 14 none, Cond.static yX2_realPart, Cond.code yX2_realPart cX2_realPart 4 (some .int), Cond.static yX2_imaginaryPart, Cond.code yX2_imaginaryPart cX2_imaginaryPart 4 (some .int), Cond.instanceMethod yX0_worstPeriodFound, Cond.selects RX0 yX0_worstPeriodFound yX0_worstPeriodFound, Cond.code yX0_worstPeriodFound cX0_worstPeriodFound 3 (some .int), Cond.methodLink RX0 95 yX0_kindOf, Cond.instanceMethod yX0_kindOf, Cond.selects RX0 yX0_kindOf yX0_kindOf, Cond.code yX0_kindOf cX0_kindOf 2 (some .int), Cond.methodLink RX0 98 yX0_period, Cond.instanceMethod yX0_period, Cond.selects RX0 yX0_period yX0_period, Cond.code yX0_period cX0_period 2 (some .int), Cond.static yX2_root, Cond.code yX2_root cX2_root 6 (some .int)]
def wsX2_worstPlates : List Cond := .code yX2_worstPlates cX2_worstPlates 5 (some .int) :: ((wsX2_worstPlates_r1 ++ (wsX2_worstPlates_r2 ++ (wsX2_worstPlates_r3 ++ wsX2_worstPlates_r4))) ++ wsX20 ++ wsX10 ++ wsX00)
def wsX2_worstPeriod_r1 : List Cond := [Cond.methodLink RX2 171 yX2_worstPlates, Cond.instanceMethod yX2_worstPlates, Cond.selects RX2 yX2_worstPlates yX2_worstPlates, Cond.initialized RX2, Cond.code yX2_worstPlates cX2_worstPlates 5 (some .int), Cond.fieldLink RX2 164 "PlateBeats" "GROUPS" "[I", Cond.methodLink RX2 168 yX2_worstPeriodOf, Cond.instanceMethod yX2_worstPeriodOf, Cond.selects RX2 yX2_worstPeriodOf yX2_worstPeriodOf, Cond.code yX2_worstPeriodOf cX2_worstPeriodOf 2 (some .int), Cond.fieldLink RX2 10 "PlateBeats" "present" "LPlateBeats$State;", Cond.fieldLink RX2 33 "PlateBeats" "group" "LPlateBeats$Group;", Cond.instanceMethod yX1_hasAll, Cond.initialized RX1, Cond.selects RX1 yX1_hasAll yX1_hasAll, Cond.code yX1_hasAll cX1_hasAll 2 (some .boolean), Cond.fieldLink RX1 18 "PlateBeats$State" "count" "I", Cond.instanceMethod yX0_fillPlates, Cond.initialized RX0, Cond.selects RX0 yX0_fillPlates yX0_fillPlates, Cond.code yX0_fillPlates cX0_fillPlates 6 none, Cond.methodLink RX0 84 yX0_firstPlate, Cond.static yX0_firstPlate, Cond.code yX0_firstPlate cX0_firstPlate 3 (some .int)]
def wsX2_worstPeriod_r2 : List Cond := [Cond.methodLink RX0 88 yX0_fillTriple, Cond.instanceMethod yX0_fillTriple, Cond.selects RX0 yX0_fillTriple yX0_fillTriple, Cond.code yX0_fillTriple cX0_fillTriple 16 none, Cond.instanceMethod yX1_areaOf, Cond.selects RX1 yX1_areaOf yX1_areaOf, Cond.code yX1_areaOf cX1_areaOf 2 (some .int), Cond.methodLink RX1 35 yX1_pOf, Cond.instanceMethod yX1_pOf, Cond.selects RX1 yX1_pOf yX1_pOf, Cond.code yX1_pOf cX1_pOf 2 (some .int), Cond.fieldLink RX1 9 "PlateBeats$State" "p" "[I", Cond.methodLink RX1 31 yX1_has, Cond.instanceMethod yX1_has, Cond.selects RX1 yX1_has yX1_has, Cond.code yX1_has cX1_has 2 (some .boolean), Cond.methodLink RX1 39 yX1_qOf, Cond.instanceMethod yX1_qOf, Cond.selects RX1 yX1_qOf yX1_qOf, Cond.code yX1_qOf cX1_qOf 2 (some .int), Cond.fieldLink RX1 15 "PlateBeats$State" "q" "[I", Cond.methodLink RX0 31 yX0_start, Cond.instanceMethod yX0_start, Cond.selects RX0 yX0_start yX0_start]
def wsX2_worstPeriod_r3 : List Cond := [Cond.code yX0_start cX0_start 8 none, Cond.fieldLink RX0 35 "PlateBeats$Group" "size" "I", Cond.fieldLink RX0 15 "PlateBeats$Group" "areas" "J", Cond.fieldLink RX0 19 "PlateBeats$Group" "leastFine" "J", Cond.fieldLink RX0 22 "PlateBeats$Group" "greatestLong" "J", Cond.static yX2_divided, Cond.code yX2_divided cX2_divided 4 (some .long), Cond.methodLink RX0 77 yX0_productReal, Cond.static yX0_productReal, Cond.code yX0_productReal cX0_productReal 3 (some .int), Cond.methodLink RX0 81 yX0_productImaginary, Cond.static yX0_productImaginary, Cond.code yX0_productImaginary cX0_productImaginary 3 (some .int), Cond.methodLink RX0 73 yX0_add, Cond.instanceMethod yX0_add, Cond.selects RX0 yX0_add yX0_add, Cond.code yX0_add cX0_add 2 none, Cond.fieldLink RX0 9 "PlateBeats$Group" "norms" "[I", Cond.methodLink RX0 92 yX0_fillPair, Cond.instanceMethod yX0_fillPair, Cond.selects RX0 yX0_fillPair yX0_fillPair, Cond.code yX0_fillPair cX0_fillPair 6 none, Cond.methodLink RX0 49 yX0_startPair, Cond.instanceMethod yX0_startPair]
def wsX2_worstPeriod_r4 : List Cond := [Cond.selects RX0 yX0_startPair yX0_startPair, Cond.code yX0_startPair cX0_startPair 4 none, Cond.methodLink RX0 56 yX0_addAllFor, Cond.instanceMethod yX0_addAllFor, Cond.selects RX0 yX0_addAllFor yX0_addAllFor, Cond.code yX0_addAllFor cX0_addAllFor 14 none, Cond.static yX2_realPart, Cond.code yX2_realPart cX2_realPart 4 (some .int), Cond.static yX2_imaginaryPart, Cond.code yX2_imaginaryPart cX2_imaginaryPart 4 (some .int), Cond.instanceMethod yX0_worstPeriodFound, Cond.selects RX0 yX0_worstPeriodFound yX0_worstPeriodFound, Cond.code yX0_worstPeriodFound cX0_worstPeriodFound 3 (some .int), Cond.methodLink RX0 95 yX0_kindOf, Cond.instanceMethod yX0_kindOf, Cond.selects RX0 yX0_kindOf yX0_kindOf, Cond.code yX0_kindOf cX0_kindOf 2 (some .int), Cond.methodLink RX0 98 yX0_period, Cond.instanceMethod yX0_period, Cond.selects RX0 yX0_period yX0_period, Cond.code yX0_period cX0_period 2 (some .int), Cond.static yX2_root, Cond.code yX2_root cX2_root 6 (some .int)]
def wsX2_worstPeriod : List Cond := .code yX2_worstPeriod cX2_worstPeriod 2 (some .int) :: ((wsX2_worstPeriod_r1 ++ (wsX2_worstPeriod_r2 ++ (wsX2_worstPeriod_r3 ++ wsX2_worstPeriod_r4))) ++ wsX20 ++ wsX10 ++ wsX00)
def wsX2_worstPair_r1 : List Cond := [Cond.fieldLink RX2 10 "PlateBeats" "present" "LPlateBeats$State;", Cond.methodLink RX2 143 yX2_pairBands, Cond.instanceMethod yX2_pairBands, Cond.selects RX2 yX2_pairBands yX2_pairBands, Cond.initialized RX2, Cond.code yX2_pairBands cX2_pairBands 3 (some .int), Cond.fieldLink RX2 33 "PlateBeats" "group" "LPlateBeats$Group;", Cond.instanceMethod yX0_fillPair, Cond.initialized RX0, Cond.selects RX0 yX0_fillPair yX0_fillPair, Cond.code yX0_fillPair cX0_fillPair 6 none, Cond.methodLink RX0 49 yX0_startPair, Cond.instanceMethod yX0_startPair, Cond.selects RX0 yX0_startPair yX0_startPair, Cond.code yX0_startPair cX0_startPair 4 none, Cond.instanceMethod yX1_areaOf, Cond.initialized RX1, Cond.selects RX1 yX1_areaOf yX1_areaOf, Cond.code yX1_areaOf cX1_areaOf 2 (some .int), Cond.methodLink RX1 35 yX1_pOf, Cond.instanceMethod yX1_pOf, Cond.selects RX1 yX1_pOf yX1_pOf, Cond.code yX1_pOf cX1_pOf 2 (some .int), Cond.fieldLink RX1 9 "PlateBeats$State" "p" "[I"]
def wsX2_worstPair_r2 : List Cond := [Cond.methodLink RX1 31 yX1_has, Cond.instanceMethod yX1_has, Cond.selects RX1 yX1_has yX1_has, Cond.code yX1_has cX1_has 2 (some .boolean), Cond.fieldLink RX1 18 "PlateBeats$State" "count" "I", Cond.methodLink RX1 39 yX1_qOf, Cond.instanceMethod yX1_qOf, Cond.selects RX1 yX1_qOf yX1_qOf, Cond.code yX1_qOf cX1_qOf 2 (some .int), Cond.fieldLink RX1 15 "PlateBeats$State" "q" "[I", Cond.methodLink RX0 31 yX0_start, Cond.instanceMethod yX0_start, Cond.selects RX0 yX0_start yX0_start, Cond.code yX0_start cX0_start 8 none, Cond.fieldLink RX0 35 "PlateBeats$Group" "size" "I", Cond.fieldLink RX0 15 "PlateBeats$Group" "areas" "J", Cond.fieldLink RX0 19 "PlateBeats$Group" "leastFine" "J", Cond.fieldLink RX0 22 "PlateBeats$Group" "greatestLong" "J", Cond.static yX2_divided, Cond.code yX2_divided cX2_divided 4 (some .long), Cond.methodLink RX0 56 yX0_addAllFor, Cond.instanceMethod yX0_addAllFor, Cond.selects RX0 yX0_addAllFor yX0_addAllFor, Cond.code yX0_addAllFor cX0_addAllFor 14 none]
def wsX2_worstPair_r3 : List Cond := [Cond.static yX2_realPart, Cond.code yX2_realPart cX2_realPart 4 (some .int), Cond.static yX2_imaginaryPart, Cond.code yX2_imaginaryPart cX2_imaginaryPart 4 (some .int), Cond.methodLink RX0 73 yX0_add, Cond.instanceMethod yX0_add, Cond.selects RX0 yX0_add yX0_add, Cond.code yX0_add cX0_add 2 none, Cond.fieldLink RX0 9 "PlateBeats$Group" "norms" "[I", Cond.instanceMethod yX0_bandCount, Cond.selects RX0 yX0_bandCount yX0_bandCount, Cond.code yX0_bandCount cX0_bandCount 3 (some .int), Cond.methodLink RX0 95 yX0_kindOf, Cond.instanceMethod yX0_kindOf, Cond.selects RX0 yX0_kindOf yX0_kindOf, Cond.code yX0_kindOf cX0_kindOf 2 (some .int)]
def wsX2_worstPair : List Cond := .code yX2_worstPair cX2_worstPair 6 (some .int) :: ((wsX2_worstPair_r1 ++ (wsX2_worstPair_r2 ++ wsX2_worstPair_r3)) ++ wsX20 ++ wsX10 ++ wsX00)
def wsX2_search_r1 : List Cond := [Cond.fieldLink RX2 10 "PlateBeats" "present" "LPlateBeats$State;", Cond.fieldLink RX2 16 "PlateBeats" "trial" "LPlateBeats$State;", Cond.methodLink RX2 194 Lib.Math.abs.name, Cond.static Lib.Math.abs.name, Cond.initialized "java/lang/Math", Cond.code Lib.Math.abs.name Lib.Math.abs.code 1 (some .int), Cond.methodLink RX2 190 yX2_copy, Cond.static yX2_copy, Cond.initialized RX2, Cond.code yX2_copy cX2_copy 3 none, Cond.instanceMethod yX1_put, Cond.initialized RX1, Cond.selects RX1 yX1_put yX1_put, Cond.code yX1_put cX1_put 4 none, Cond.fieldLink RX1 9 "PlateBeats$State" "p" "[I", Cond.fieldLink RX1 15 "PlateBeats$State" "q" "[I", Cond.methodLink RX1 31 yX1_has, Cond.instanceMethod yX1_has, Cond.selects RX1 yX1_has yX1_has, Cond.code yX1_has cX1_has 2 (some .boolean), Cond.fieldLink RX1 18 "PlateBeats$State" "count" "I", Cond.methodLink RX2 160 yX2_bandsOfGroups, Cond.instanceMethod yX2_bandsOfGroups, Cond.selects RX2 yX2_bandsOfGroups yX2_bandsOfGroups]
def wsX2_search_r2 : List Cond := [Cond.code yX2_bandsOfGroups cX2_bandsOfGroups 6 (some .int), Cond.fieldLink RX2 164 "PlateBeats" "GROUPS" "[I", Cond.fieldLink RX2 33 "PlateBeats" "group" "LPlateBeats$Group;", Cond.instanceMethod yX1_hasAll, Cond.selects RX1 yX1_hasAll yX1_hasAll, Cond.code yX1_hasAll cX1_hasAll 2 (some .boolean), Cond.instanceMethod yX0_fillPlates, Cond.initialized RX0, Cond.selects RX0 yX0_fillPlates yX0_fillPlates, Cond.code yX0_fillPlates cX0_fillPlates 6 none, Cond.methodLink RX0 84 yX0_firstPlate, Cond.static yX0_firstPlate, Cond.code yX0_firstPlate cX0_firstPlate 3 (some .int), Cond.methodLink RX0 88 yX0_fillTriple, Cond.instanceMethod yX0_fillTriple, Cond.selects RX0 yX0_fillTriple yX0_fillTriple, Cond.code yX0_fillTriple cX0_fillTriple 16 none, Cond.instanceMethod yX1_areaOf, Cond.selects RX1 yX1_areaOf yX1_areaOf, Cond.code yX1_areaOf cX1_areaOf 2 (some .int), Cond.methodLink RX1 35 yX1_pOf, Cond.instanceMethod yX1_pOf, Cond.selects RX1 yX1_pOf yX1_pOf, Cond.code yX1_pOf cX1_pOf 2 (some .int)]
def wsX2_search_r3 : List Cond := [Cond.methodLink RX1 39 yX1_qOf, Cond.instanceMethod yX1_qOf, Cond.selects RX1 yX1_qOf yX1_qOf, Cond.code yX1_qOf cX1_qOf 2 (some .int), Cond.methodLink RX0 31 yX0_start, Cond.instanceMethod yX0_start, Cond.selects RX0 yX0_start yX0_start, Cond.code yX0_start cX0_start 8 none, Cond.fieldLink RX0 35 "PlateBeats$Group" "size" "I", Cond.fieldLink RX0 15 "PlateBeats$Group" "areas" "J", Cond.fieldLink RX0 19 "PlateBeats$Group" "leastFine" "J", Cond.fieldLink RX0 22 "PlateBeats$Group" "greatestLong" "J", Cond.static yX2_divided, Cond.code yX2_divided cX2_divided 4 (some .long), Cond.methodLink RX0 77 yX0_productReal, Cond.static yX0_productReal, Cond.code yX0_productReal cX0_productReal 3 (some .int), Cond.methodLink RX0 81 yX0_productImaginary, Cond.static yX0_productImaginary, Cond.code yX0_productImaginary cX0_productImaginary 3 (some .int), Cond.methodLink RX0 73 yX0_add, Cond.instanceMethod yX0_add, Cond.selects RX0 yX0_add yX0_add, Cond.code yX0_add cX0_add 2 none]
def wsX2_search_r4 : List Cond := [Cond.fieldLink RX0 9 "PlateBeats$Group" "norms" "[I", Cond.methodLink RX0 92 yX0_fillPair, Cond.instanceMethod yX0_fillPair, Cond.selects RX0 yX0_fillPair yX0_fillPair, Cond.code yX0_fillPair cX0_fillPair 6 none, Cond.methodLink RX0 49 yX0_startPair, Cond.instanceMethod yX0_startPair, Cond.selects RX0 yX0_startPair yX0_startPair, Cond.code yX0_startPair cX0_startPair 4 none, Cond.methodLink RX0 56 yX0_addAllFor, Cond.instanceMethod yX0_addAllFor, Cond.selects RX0 yX0_addAllFor yX0_addAllFor, Cond.code yX0_addAllFor cX0_addAllFor 14 none, Cond.static yX2_realPart, Cond.code yX2_realPart cX2_realPart 4 (some .int), Cond.static yX2_imaginaryPart, Cond.code yX2_imaginaryPart cX2_imaginaryPart 4 (some .int), Cond.instanceMethod yX0_bandCount, Cond.selects RX0 yX0_bandCount yX0_bandCount, Cond.code yX0_bandCount cX0_bandCount 3 (some .int), Cond.methodLink RX0 95 yX0_kindOf, Cond.instanceMethod yX0_kindOf, Cond.selects RX0 yX0_kindOf yX0_kindOf, Cond.code yX0_kindOf cX0_kindOf 2 (some .int)]
def wsX2_search : List Cond := .code yX2_search cX2_search 12 (some .int) :: ((wsX2_search_r1 ++ (wsX2_search_r2 ++ (wsX2_search_r3 ++ wsX2_search_r4))) ++ wsX20 ++ wsX10 ++ wsX00)
def wsX2_bestScreen_r1 : List Cond := [Cond.fieldLink RX2 10 "PlateBeats" "present" "LPlateBeats$State;", Cond.instanceMethod yX1_has, Cond.initialized RX1, Cond.selects RX1 yX1_has yX1_has, Cond.code yX1_has cX1_has 2 (some .boolean), Cond.fieldLink RX1 18 "PlateBeats$State" "count" "I", Cond.methodLink RX2 184 yX2_search, Cond.instanceMethod yX2_search, Cond.selects RX2 yX2_search yX2_search, Cond.initialized RX2, Cond.code yX2_search cX2_search 12 (some .int), Cond.fieldLink RX2 16 "PlateBeats" "trial" "LPlateBeats$State;", Cond.methodLink RX2 194 Lib.Math.abs.name, Cond.static Lib.Math.abs.name, Cond.initialized "java/lang/Math", Cond.code Lib.Math.abs.name Lib.Math.abs.code 1 (some .int), Cond.methodLink RX2 190 yX2_copy, Cond.static yX2_copy, Cond.code yX2_copy cX2_copy 3 none, Cond.instanceMethod yX1_put, Cond.selects RX1 yX1_put yX1_put, Cond.code yX1_put cX1_put 4 none, Cond.fieldLink RX1 9 "PlateBeats$State" "p" "[I", Cond.fieldLink RX1 15 "PlateBeats$State" "q" "[I"]
def wsX2_bestScreen_r2 : List Cond := [Cond.methodLink RX1 31 yX1_has, Cond.methodLink RX2 160 yX2_bandsOfGroups, Cond.instanceMethod yX2_bandsOfGroups, Cond.selects RX2 yX2_bandsOfGroups yX2_bandsOfGroups, Cond.code yX2_bandsOfGroups cX2_bandsOfGroups 6 (some .int), Cond.fieldLink RX2 164 "PlateBeats" "GROUPS" "[I", Cond.fieldLink RX2 33 "PlateBeats" "group" "LPlateBeats$Group;", Cond.instanceMethod yX1_hasAll, Cond.selects RX1 yX1_hasAll yX1_hasAll, Cond.code yX1_hasAll cX1_hasAll 2 (some .boolean), Cond.instanceMethod yX0_fillPlates, Cond.initialized RX0, Cond.selects RX0 yX0_fillPlates yX0_fillPlates, Cond.code yX0_fillPlates cX0_fillPlates 6 none, Cond.methodLink RX0 84 yX0_firstPlate, Cond.static yX0_firstPlate, Cond.code yX0_firstPlate cX0_firstPlate 3 (some .int), Cond.methodLink RX0 88 yX0_fillTriple, Cond.instanceMethod yX0_fillTriple, Cond.selects RX0 yX0_fillTriple yX0_fillTriple, Cond.code yX0_fillTriple cX0_fillTriple 16 none, Cond.instanceMethod yX1_areaOf, Cond.selects RX1 yX1_areaOf yX1_areaOf, Cond.code yX1_areaOf cX1_areaOf 2 (some .int)]
def wsX2_bestScreen_r3 : List Cond := [Cond.methodLink RX1 35 yX1_pOf, Cond.instanceMethod yX1_pOf, Cond.selects RX1 yX1_pOf yX1_pOf, Cond.code yX1_pOf cX1_pOf 2 (some .int), Cond.methodLink RX1 39 yX1_qOf, Cond.instanceMethod yX1_qOf, Cond.selects RX1 yX1_qOf yX1_qOf, Cond.code yX1_qOf cX1_qOf 2 (some .int), Cond.methodLink RX0 31 yX0_start, Cond.instanceMethod yX0_start, Cond.selects RX0 yX0_start yX0_start, Cond.code yX0_start cX0_start 8 none, Cond.fieldLink RX0 35 "PlateBeats$Group" "size" "I", Cond.fieldLink RX0 15 "PlateBeats$Group" "areas" "J", Cond.fieldLink RX0 19 "PlateBeats$Group" "leastFine" "J", Cond.fieldLink RX0 22 "PlateBeats$Group" "greatestLong" "J", Cond.static yX2_divided, Cond.code yX2_divided cX2_divided 4 (some .long), Cond.methodLink RX0 77 yX0_productReal, Cond.static yX0_productReal, Cond.code yX0_productReal cX0_productReal 3 (some .int), Cond.methodLink RX0 81 yX0_productImaginary, Cond.static yX0_productImaginary, Cond.code yX0_productImaginary cX0_productImaginary 3 (some .int)]
def wsX2_bestScreen_r4 : List Cond := [Cond.methodLink RX0 73 yX0_add, Cond.instanceMethod yX0_add, Cond.selects RX0 yX0_add yX0_add, Cond.code yX0_add cX0_add 2 none, Cond.fieldLink RX0 9 "PlateBeats$Group" "norms" "[I", Cond.methodLink RX0 92 yX0_fillPair, Cond.instanceMethod yX0_fillPair, Cond.selects RX0 yX0_fillPair yX0_fillPair, Cond.code yX0_fillPair cX0_fillPair 6 none, Cond.methodLink RX0 49 yX0_startPair, Cond.instanceMethod yX0_startPair, Cond.selects RX0 yX0_startPair yX0_startPair, Cond.code yX0_startPair cX0_startPair 4 none, Cond.methodLink RX0 56 yX0_addAllFor, Cond.instanceMethod yX0_addAllFor, Cond.selects RX0 yX0_addAllFor yX0_addAllFor, Cond.code yX0_addAllFor cX0_addAllFor 14 none, Cond.static yX2_realPart, Cond.code yX2_realPart cX2_realPart 4 (some .int), Cond.static yX2_imaginaryPart, Cond.code yX2_imaginaryPart cX2_imaginaryPart 4 (some .int), Cond.instanceMethod yX0_bandCount, Cond.selects RX0 yX0_bandCount yX0_bandCount, Cond.code yX0_bandCount cX0_bandCount 3 (some .int)]
def wsX2_bestScreen_r5 : List Cond := [Cond.methodLink RX0 95 yX0_kindOf, Cond.instanceMethod yX0_kindOf, Cond.selects RX0 yX0_kindOf yX0_kindOf, Cond.code yX0_kindOf cX0_kindOf 2 (some .int)]
def wsX2_bestScreen : List Cond := .code yX2_bestScreen cX2_bestScreen 4 (some .int) :: ((wsX2_bestScreen_r1 ++ (wsX2_bestScreen_r2 ++ (wsX2_bestScreen_r3 ++ (wsX2_bestScreen_r4 ++ wsX2_bestScreen_r5)))) ++ wsX20 ++ wsX10 ++ wsX00)
def wsX2_bandsWithBest_r1 : List Cond := [Cond.fieldLink RX2 10 "PlateBeats" "present" "LPlateBeats$State;", Cond.fieldLink RX2 16 "PlateBeats" "trial" "LPlateBeats$State;", Cond.methodLink RX2 187 yX2_bestScreen, Cond.instanceMethod yX2_bestScreen, Cond.selects RX2 yX2_bestScreen yX2_bestScreen, Cond.initialized RX2, Cond.code yX2_bestScreen cX2_bestScreen 4 (some .int), Cond.instanceMethod yX1_has, Cond.initialized RX1, Cond.selects RX1 yX1_has yX1_has, Cond.code yX1_has cX1_has 2 (some .boolean), Cond.fieldLink RX1 18 "PlateBeats$State" "count" "I", Cond.methodLink RX2 184 yX2_search, Cond.instanceMethod yX2_search, Cond.selects RX2 yX2_search yX2_search, Cond.code yX2_search cX2_search 12 (some .int), Cond.methodLink RX2 194 Lib.Math.abs.name, Cond.static Lib.Math.abs.name, Cond.initialized "java/lang/Math", Cond.code Lib.Math.abs.name Lib.Math.abs.code 1 (some .int), Cond.methodLink RX2 190 yX2_copy, Cond.static yX2_copy, Cond.code yX2_copy cX2_copy 3 none, Cond.instanceMethod yX1_put]
def wsX2_bandsWithBest_r2 : List Cond := [Cond.selects RX1 yX1_put yX1_put, Cond.code yX1_put cX1_put 4 none, Cond.fieldLink RX1 9 "PlateBeats$State" "p" "[I", Cond.fieldLink RX1 15 "PlateBeats$State" "q" "[I", Cond.methodLink RX1 31 yX1_has, Cond.methodLink RX2 160 yX2_bandsOfGroups, Cond.instanceMethod yX2_bandsOfGroups, Cond.selects RX2 yX2_bandsOfGroups yX2_bandsOfGroups, Cond.code yX2_bandsOfGroups cX2_bandsOfGroups 6 (some .int), Cond.fieldLink RX2 164 "PlateBeats" "GROUPS" "[I", Cond.fieldLink RX2 33 "PlateBeats" "group" "LPlateBeats$Group;", Cond.instanceMethod yX1_hasAll, Cond.selects RX1 yX1_hasAll yX1_hasAll, Cond.code yX1_hasAll cX1_hasAll 2 (some .boolean), Cond.instanceMethod yX0_fillPlates, Cond.initialized RX0, Cond.selects RX0 yX0_fillPlates yX0_fillPlates, Cond.code yX0_fillPlates cX0_fillPlates 6 none, Cond.methodLink RX0 84 yX0_firstPlate, Cond.static yX0_firstPlate, Cond.code yX0_firstPlate cX0_firstPlate 3 (some .int), Cond.methodLink RX0 88 yX0_fillTriple, Cond.instanceMethod yX0_fillTriple, Cond.selects RX0 yX0_fillTriple yX0_fillTriple]
def wsX2_bandsWithBest_r3 : List Cond := [Cond.code yX0_fillTriple cX0_fillTriple 16 none, Cond.instanceMethod yX1_areaOf, Cond.selects RX1 yX1_areaOf yX1_areaOf, Cond.code yX1_areaOf cX1_areaOf 2 (some .int), Cond.methodLink RX1 35 yX1_pOf, Cond.instanceMethod yX1_pOf, Cond.selects RX1 yX1_pOf yX1_pOf, Cond.code yX1_pOf cX1_pOf 2 (some .int), Cond.methodLink RX1 39 yX1_qOf, Cond.instanceMethod yX1_qOf, Cond.selects RX1 yX1_qOf yX1_qOf, Cond.code yX1_qOf cX1_qOf 2 (some .int), Cond.methodLink RX0 31 yX0_start, Cond.instanceMethod yX0_start, Cond.selects RX0 yX0_start yX0_start, Cond.code yX0_start cX0_start 8 none, Cond.fieldLink RX0 35 "PlateBeats$Group" "size" "I", Cond.fieldLink RX0 15 "PlateBeats$Group" "areas" "J", Cond.fieldLink RX0 19 "PlateBeats$Group" "leastFine" "J", Cond.fieldLink RX0 22 "PlateBeats$Group" "greatestLong" "J", Cond.static yX2_divided, Cond.code yX2_divided cX2_divided 4 (some .long), Cond.methodLink RX0 77 yX0_productReal, Cond.static yX0_productReal]
def wsX2_bandsWithBest_r4 : List Cond := [Cond.code yX0_productReal cX0_productReal 3 (some .int), Cond.methodLink RX0 81 yX0_productImaginary, Cond.static yX0_productImaginary, Cond.code yX0_productImaginary cX0_productImaginary 3 (some .int), Cond.methodLink RX0 73 yX0_add, Cond.instanceMethod yX0_add, Cond.selects RX0 yX0_add yX0_add, Cond.code yX0_add cX0_add 2 none, Cond.fieldLink RX0 9 "PlateBeats$Group" "norms" "[I", Cond.methodLink RX0 92 yX0_fillPair, Cond.instanceMethod yX0_fillPair, Cond.selects RX0 yX0_fillPair yX0_fillPair, Cond.code yX0_fillPair cX0_fillPair 6 none, Cond.methodLink RX0 49 yX0_startPair, Cond.instanceMethod yX0_startPair, Cond.selects RX0 yX0_startPair yX0_startPair, Cond.code yX0_startPair cX0_startPair 4 none, Cond.methodLink RX0 56 yX0_addAllFor, Cond.instanceMethod yX0_addAllFor, Cond.selects RX0 yX0_addAllFor yX0_addAllFor, Cond.code yX0_addAllFor cX0_addAllFor 14 none, Cond.static yX2_realPart, Cond.code yX2_realPart cX2_realPart 4 (some .int), Cond.static yX2_imaginaryPart]
def wsX2_bandsWithBest_r5 : List Cond := [Cond.code yX2_imaginaryPart cX2_imaginaryPart 4 (some .int), Cond.instanceMethod yX0_bandCount, Cond.selects RX0 yX0_bandCount yX0_bandCount, Cond.code yX0_bandCount cX0_bandCount 3 (some .int), Cond.methodLink RX0 95 yX0_kindOf, Cond.instanceMethod yX0_kindOf, Cond.selects RX0 yX0_kindOf yX0_kindOf, Cond.code yX0_kindOf cX0_kindOf 2 (some .int)]
def wsX2_bandsWithBest : List Cond := .code yX2_bandsWithBest cX2_bandsWithBest 5 (some .int) :: ((wsX2_bandsWithBest_r1 ++ (wsX2_bandsWithBest_r2 ++ (wsX2_bandsWithBest_r3 ++ (wsX2_bandsWithBest_r4 ++ wsX2_bandsWithBest_r5)))) ++ wsX20 ++ wsX10 ++ wsX00)
def wsX2_isSlot : List Cond := .code yX2_isSlot cX2_isSlot 1 (some .boolean) :: ([])
def wsX2_save : List Cond := .code yX2_save cX2_save 2 (some .int) :: ([.fieldLink RX2 10 "PlateBeats" "present" "LPlateBeats$State;", .fieldLink RX2 23 "PlateBeats" "slots" "[LPlateBeats$State;", .fieldLink RX2 26 "PlateBeats" "slotFilled" "[Z", .methodLink RX2 199 yX2_isSlot, .static yX2_isSlot, .initialized RX2, .code yX2_isSlot cX2_isSlot 1 (some .boolean), .methodLink RX2 190 yX2_copy, .static yX2_copy, .code yX2_copy cX2_copy 3 none] ++ wsX20 ++ wsX10)
def wsX2_restore : List Cond := .code yX2_restore cX2_restore 2 (some .int) :: ([.fieldLink RX2 26 "PlateBeats" "slotFilled" "[Z", .fieldLink RX2 23 "PlateBeats" "slots" "[LPlateBeats$State;", .fieldLink RX2 10 "PlateBeats" "present" "LPlateBeats$State;", .methodLink RX2 199 yX2_isSlot, .static yX2_isSlot, .initialized RX2, .code yX2_isSlot cX2_isSlot 1 (some .boolean), .methodLink RX2 45 yX2_record, .instanceMethod yX2_record, .selects RX2 yX2_record yX2_record, .code yX2_record cX2_record 1 none, .fieldLink RX2 202 "PlateBeats" "historyCount" "I", .fieldLink RX2 19 "PlateBeats" "history" "[LPlateBeats$State;", .methodLink RX2 205 yX2_dropOldest, .instanceMethod yX2_dropOldest, .selects RX2 yX2_dropOldest yX2_dropOldest, .code yX2_dropOldest cX2_dropOldest 3 none, .methodLink RX2 190 yX2_copy, .static yX2_copy, .code yX2_copy cX2_copy 3 none] ++ wsX20 ++ wsX10)
def wsX2_historySize : List Cond := .code yX2_historySize cX2_historySize 1 (some .int) :: ([.fieldLink RX2 202 "PlateBeats" "historyCount" "I"] ++ wsX20)
def wsX2_undo : List Cond := .code yX2_undo cX2_undo 1 (some .int) :: ([.fieldLink RX2 202 "PlateBeats" "historyCount" "I", .fieldLink RX2 19 "PlateBeats" "history" "[LPlateBeats$State;", .fieldLink RX2 10 "PlateBeats" "present" "LPlateBeats$State;", .methodLink RX2 190 yX2_copy, .static yX2_copy, .initialized RX2, .code yX2_copy cX2_copy 3 none] ++ wsX20 ++ wsX10)
def wsX3_init : List Cond := .code yX3_init cX3_init 1 none :: ([.methodLink RX3 1 objectInit, .instanceMethod objectInit, .code objectInit ⟨#[0xb1]⟩ 1 none, .arrayClass .int, .fieldLink RX3 7 "PlateBeatsModel" "p" "[I", .fieldLink RX3 13 "PlateBeatsModel" "saved" "[I", .fieldLink RX3 16 "PlateBeatsModel" "slots" "[I", .arrayClass .long, .fieldLink RX3 19 "PlateBeatsModel" "square" "[J"] ++ wsX30)
def wsX3_in : List Cond := .code yX3_in cX3_in 3 (some .boolean) :: ([])
def wsX3_records : List Cond := .code yX3_records cX3_records 2 none :: ([.fieldLink RX3 23 "PlateBeatsModel" "states" "I", .fieldLink RX3 13 "PlateBeatsModel" "saved" "[I", .fieldLink RX3 7 "PlateBeatsModel" "p" "[I"] ++ wsX30)
def wsX3_isPlate : List Cond := .code yX3_isPlate cX3_isPlate 2 (some .boolean) :: ([.fieldLink RX3 7 "PlateBeatsModel" "p" "[I", .methodLink RX3 27 yX3_in, .static yX3_in, .initialized RX3, .code yX3_in cX3_in 3 (some .boolean)] ++ wsX30)
def wsX3_isPair : List Cond := .code yX3_isPair cX3_isPair 3 (some .boolean) :: ([.methodLink RX3 31 yX3_isPlate, .instanceMethod yX3_isPlate, .selects RX3 yX3_isPlate yX3_isPlate, .initialized RX3, .code yX3_isPlate cX3_isPlate 2 (some .boolean), .fieldLink RX3 7 "PlateBeatsModel" "p" "[I", .methodLink RX3 27 yX3_in, .static yX3_in, .code yX3_in cX3_in 3 (some .boolean)] ++ wsX30)
def wsX3_isVector : List Cond := .code yX3_isVector cX3_isVector 2 (some .boolean) :: ([.methodLink RX3 27 yX3_in, .static yX3_in, .initialized RX3, .code yX3_in cX3_in 3 (some .boolean)])
def wsX3_firstOf : List Cond := .code yX3_firstOf cX3_firstOf 2 (some .int) :: ([.fieldLink RX3 7 "PlateBeatsModel" "p" "[I"] ++ wsX30)
def wsX3_secondOf : List Cond := .code yX3_secondOf cX3_secondOf 2 (some .int) :: ([.fieldLink RX3 7 "PlateBeatsModel" "p" "[I"] ++ wsX30)
def wsX3_areaOf : List Cond := .code yX3_areaOf cX3_areaOf 2 (some .int) :: ([.methodLink RX3 35 yX3_firstOf, .instanceMethod yX3_firstOf, .selects RX3 yX3_firstOf yX3_firstOf, .initialized RX3, .code yX3_firstOf cX3_firstOf 2 (some .int), .fieldLink RX3 7 "PlateBeatsModel" "p" "[I", .methodLink RX3 39 yX3_secondOf, .instanceMethod yX3_secondOf, .selects RX3 yX3_secondOf yX3_secondOf, .code yX3_secondOf cX3_secondOf 2 (some .int)] ++ wsX30)
def wsX3_common : List Cond := .code yX3_common cX3_common 10 (some .long) :: ([])
def wsX3_addPlate : List Cond := .code yX3_addPlate cX3_addPlate 4 (some .int) :: ([.fieldLink RX3 7 "PlateBeatsModel" "p" "[I", .methodLink RX3 42 yX3_isVector, .static yX3_isVector, .initialized RX3, .code yX3_isVector cX3_isVector 2 (some .boolean), .methodLink RX3 27 yX3_in, .static yX3_in, .code yX3_in cX3_in 3 (some .boolean), .methodLink RX3 46 yX3_records, .instanceMethod yX3_records, .selects RX3 yX3_records yX3_records, .code yX3_records cX3_records 2 none, .fieldLink RX3 23 "PlateBeatsModel" "states" "I", .fieldLink RX3 13 "PlateBeatsModel" "saved" "[I"] ++ wsX30)
def wsX3_setScreen_r1 : List Cond := [Cond.fieldLink RX3 7 "PlateBeatsModel" "p" "[I", Cond.methodLink RX3 31 yX3_isPlate, Cond.instanceMethod yX3_isPlate, Cond.selects RX3 yX3_isPlate yX3_isPlate, Cond.initialized RX3, Cond.code yX3_isPlate cX3_isPlate 2 (some .boolean), Cond.methodLink RX3 27 yX3_in, Cond.static yX3_in, Cond.code yX3_in cX3_in 3 (some .boolean), Cond.methodLink RX3 42 yX3_isVector, Cond.static yX3_isVector, Cond.code yX3_isVector cX3_isVector 2 (some .boolean), Cond.methodLink RX3 46 yX3_records, Cond.instanceMethod yX3_records, Cond.selects RX3 yX3_records yX3_records, Cond.code yX3_records cX3_records 2 none, Cond.fieldLink RX3 23 "PlateBeatsModel" "states" "I", Cond.fieldLink RX3 13 "PlateBeatsModel" "saved" "[I", Cond.methodLink RX3 49 yX3_areaOf, Cond.instanceMethod yX3_areaOf, Cond.selects RX3 yX3_areaOf yX3_areaOf, Cond.code yX3_areaOf cX3_areaOf 2 (some .int), Cond.methodLink RX3 35 yX3_firstOf, Cond.instanceMethod yX3_firstOf]
def wsX3_setScreen_r2 : List Cond := [Cond.selects RX3 yX3_firstOf yX3_firstOf, Cond.code yX3_firstOf cX3_firstOf 2 (some .int), Cond.methodLink RX3 39 yX3_secondOf, Cond.instanceMethod yX3_secondOf, Cond.selects RX3 yX3_secondOf yX3_secondOf, Cond.code yX3_secondOf cX3_secondOf 2 (some .int)]
def wsX3_setScreen : List Cond := .code yX3_setScreen cX3_setScreen 5 (some .int) :: ((wsX3_setScreen_r1 ++ wsX3_setScreen_r2) ++ wsX30)
def wsX3_removePlate : List Cond := .code yX3_removePlate cX3_removePlate 3 (some .int) :: ([.fieldLink RX3 7 "PlateBeatsModel" "p" "[I", .methodLink RX3 31 yX3_isPlate, .instanceMethod yX3_isPlate, .selects RX3 yX3_isPlate yX3_isPlate, .initialized RX3, .code yX3_isPlate cX3_isPlate 2 (some .boolean), .methodLink RX3 27 yX3_in, .static yX3_in, .code yX3_in cX3_in 3 (some .boolean), .methodLink RX3 46 yX3_records, .instanceMethod yX3_records, .selects RX3 yX3_records yX3_records, .code yX3_records cX3_records 2 none, .fieldLink RX3 23 "PlateBeatsModel" "states" "I", .fieldLink RX3 13 "PlateBeatsModel" "saved" "[I"] ++ wsX30)
def wsX3_plateCount : List Cond := .code yX3_plateCount cX3_plateCount 1 (some .int) :: ([.fieldLink RX3 7 "PlateBeatsModel" "p" "[I"] ++ wsX30)
def wsX3_cellP : List Cond := .code yX3_cellP cX3_cellP 2 (some .int) :: ([.methodLink RX3 31 yX3_isPlate, .instanceMethod yX3_isPlate, .selects RX3 yX3_isPlate yX3_isPlate, .initialized RX3, .code yX3_isPlate cX3_isPlate 2 (some .boolean), .fieldLink RX3 7 "PlateBeatsModel" "p" "[I", .methodLink RX3 27 yX3_in, .static yX3_in, .code yX3_in cX3_in 3 (some .boolean), .methodLink RX3 35 yX3_firstOf, .instanceMethod yX3_firstOf, .selects RX3 yX3_firstOf yX3_firstOf, .code yX3_firstOf cX3_firstOf 2 (some .int)] ++ wsX30)
def wsX3_cellQ : List Cond := .code yX3_cellQ cX3_cellQ 2 (some .int) :: ([.methodLink RX3 31 yX3_isPlate, .instanceMethod yX3_isPlate, .selects RX3 yX3_isPlate yX3_isPlate, .initialized RX3, .code yX3_isPlate cX3_isPlate 2 (some .boolean), .fieldLink RX3 7 "PlateBeatsModel" "p" "[I", .methodLink RX3 27 yX3_in, .static yX3_in, .code yX3_in cX3_in 3 (some .boolean), .methodLink RX3 39 yX3_secondOf, .instanceMethod yX3_secondOf, .selects RX3 yX3_secondOf yX3_secondOf, .code yX3_secondOf cX3_secondOf 2 (some .int)] ++ wsX30)
def wsX3_cellArea : List Cond := .code yX3_cellArea cX3_cellArea 2 (some .int) :: ([.methodLink RX3 31 yX3_isPlate, .instanceMethod yX3_isPlate, .selects RX3 yX3_isPlate yX3_isPlate, .initialized RX3, .code yX3_isPlate cX3_isPlate 2 (some .boolean), .fieldLink RX3 7 "PlateBeatsModel" "p" "[I", .methodLink RX3 27 yX3_in, .static yX3_in, .code yX3_in cX3_in 3 (some .boolean), .methodLink RX3 49 yX3_areaOf, .instanceMethod yX3_areaOf, .selects RX3 yX3_areaOf yX3_areaOf, .code yX3_areaOf cX3_areaOf 2 (some .int), .methodLink RX3 35 yX3_firstOf, .instanceMethod yX3_firstOf, .selects RX3 yX3_firstOf yX3_firstOf, .code yX3_firstOf cX3_firstOf 2 (some .int), .methodLink RX3 39 yX3_secondOf, .instanceMethod yX3_secondOf, .selects RX3 yX3_secondOf yX3_secondOf, .code yX3_secondOf cX3_secondOf 2 (some .int)] ++ wsX30)
def wsX3_tileOf : List Cond := .code yX3_tileOf cX3_tileOf 2 (some .int) :: ([.methodLink RX3 49 yX3_areaOf, .instanceMethod yX3_areaOf, .selects RX3 yX3_areaOf yX3_areaOf, .initialized RX3, .code yX3_areaOf cX3_areaOf 2 (some .int), .methodLink RX3 35 yX3_firstOf, .instanceMethod yX3_firstOf, .selects RX3 yX3_firstOf yX3_firstOf, .code yX3_firstOf cX3_firstOf 2 (some .int), .fieldLink RX3 7 "PlateBeatsModel" "p" "[I", .methodLink RX3 39 yX3_secondOf, .instanceMethod yX3_secondOf, .selects RX3 yX3_secondOf yX3_secondOf, .code yX3_secondOf cX3_secondOf 2 (some .int), .methodLink RX3 52 yX3_common, .static yX3_common, .code yX3_common cX3_common 10 (some .long)] ++ wsX30)
def wsX3_tile_r1 : List Cond := [Cond.methodLink RX3 31 yX3_isPlate, Cond.instanceMethod yX3_isPlate, Cond.selects RX3 yX3_isPlate yX3_isPlate, Cond.initialized RX3, Cond.code yX3_isPlate cX3_isPlate 2 (some .boolean), Cond.fieldLink RX3 7 "PlateBeatsModel" "p" "[I", Cond.methodLink RX3 27 yX3_in, Cond.static yX3_in, Cond.code yX3_in cX3_in 3 (some .boolean), Cond.methodLink RX3 56 yX3_tileOf, Cond.instanceMethod yX3_tileOf, Cond.selects RX3 yX3_tileOf yX3_tileOf, Cond.code yX3_tileOf cX3_tileOf 2 (some .int), Cond.methodLink RX3 49 yX3_areaOf, Cond.instanceMethod yX3_areaOf, Cond.selects RX3 yX3_areaOf yX3_areaOf, Cond.code yX3_areaOf cX3_areaOf 2 (some .int), Cond.methodLink RX3 35 yX3_firstOf, Cond.instanceMethod yX3_firstOf, Cond.selects RX3 yX3_firstOf yX3_firstOf, Cond.code yX3_firstOf cX3_firstOf 2 (some .int), Cond.methodLink RX3 39 yX3_secondOf, Cond.instanceMethod yX3_secondOf, Cond.selects RX3 yX3_secondOf yX3_secondOf]
def wsX3_tile_r2 : List Cond := [Cond.code yX3_secondOf cX3_secondOf 2 (some .int), Cond.methodLink RX3 52 yX3_common, Cond.static yX3_common, Cond.code yX3_common cX3_common 10 (some .long)]
def wsX3_tile : List Cond := .code yX3_tile cX3_tile 2 (some .int) :: ((wsX3_tile_r1 ++ wsX3_tile_r2) ++ wsX30)
def wsX3_commonTile : List Cond := .code yX3_commonTile cX3_commonTile 4 (some .long) :: ([.fieldLink RX3 7 "PlateBeatsModel" "p" "[I", .methodLink RX3 56 yX3_tileOf, .instanceMethod yX3_tileOf, .selects RX3 yX3_tileOf yX3_tileOf, .initialized RX3, .code yX3_tileOf cX3_tileOf 2 (some .int), .methodLink RX3 49 yX3_areaOf, .instanceMethod yX3_areaOf, .selects RX3 yX3_areaOf yX3_areaOf, .code yX3_areaOf cX3_areaOf 2 (some .int), .methodLink RX3 35 yX3_firstOf, .instanceMethod yX3_firstOf, .selects RX3 yX3_firstOf yX3_firstOf, .code yX3_firstOf cX3_firstOf 2 (some .int), .methodLink RX3 39 yX3_secondOf, .instanceMethod yX3_secondOf, .selects RX3 yX3_secondOf yX3_secondOf, .code yX3_secondOf cX3_secondOf 2 (some .int), .methodLink RX3 52 yX3_common, .static yX3_common, .code yX3_common cX3_common 10 (some .long)] ++ wsX30)
def wsX3_isAhead : List Cond := .code yX3_isAhead cX3_isAhead 5 (some .boolean) :: ([.methodLink RX3 39 yX3_secondOf, .instanceMethod yX3_secondOf, .selects RX3 yX3_secondOf yX3_secondOf, .initialized RX3, .code yX3_secondOf cX3_secondOf 2 (some .int), .fieldLink RX3 7 "PlateBeatsModel" "p" "[I", .methodLink RX3 35 yX3_firstOf, .instanceMethod yX3_firstOf, .selects RX3 yX3_firstOf yX3_firstOf, .code yX3_firstOf cX3_firstOf 2 (some .int)] ++ wsX30)
def wsX3_byAngle : List Cond := .code yX3_byAngle cX3_byAngle 5 (some .int) :: ([.fieldLink RX3 7 "PlateBeatsModel" "p" "[I", .methodLink RX3 59 yX3_isAhead, .instanceMethod yX3_isAhead, .selects RX3 yX3_isAhead yX3_isAhead, .initialized RX3, .code yX3_isAhead cX3_isAhead 5 (some .boolean), .methodLink RX3 39 yX3_secondOf, .instanceMethod yX3_secondOf, .selects RX3 yX3_secondOf yX3_secondOf, .code yX3_secondOf cX3_secondOf 2 (some .int), .methodLink RX3 35 yX3_firstOf, .instanceMethod yX3_firstOf, .selects RX3 yX3_firstOf yX3_firstOf, .code yX3_firstOf cX3_firstOf 2 (some .int)] ++ wsX30)
def wsX3_setOrder : List Cond := .code yX3_setOrder cX3_setOrder 3 (some .int) :: ([.fieldLink RX3 7 "PlateBeatsModel" "p" "[I", .methodLink RX3 27 yX3_in, .static yX3_in, .initialized RX3, .code yX3_in cX3_in 3 (some .boolean), .methodLink RX3 46 yX3_records, .instanceMethod yX3_records, .selects RX3 yX3_records yX3_records, .code yX3_records cX3_records 2 none, .fieldLink RX3 23 "PlateBeatsModel" "states" "I", .fieldLink RX3 13 "PlateBeatsModel" "saved" "[I"] ++ wsX30)
def wsX3_setLimits : List Cond := .code yX3_setLimits cX3_setLimits 4 (some .int) :: ([.fieldLink RX3 7 "PlateBeatsModel" "p" "[I", .methodLink RX3 27 yX3_in, .static yX3_in, .initialized RX3, .code yX3_in cX3_in 3 (some .boolean), .methodLink RX3 46 yX3_records, .instanceMethod yX3_records, .selects RX3 yX3_records yX3_records, .code yX3_records cX3_records 2 none, .fieldLink RX3 23 "PlateBeatsModel" "states" "I", .fieldLink RX3 13 "PlateBeatsModel" "saved" "[I"] ++ wsX30)
def wsX3_longLimit : List Cond := .code yX3_longLimit cX3_longLimit 1 (some .int) :: ([.fieldLink RX3 7 "PlateBeatsModel" "p" "[I"] ++ wsX30)
def wsX3_pairSquare : List Cond := .code yX3_pairSquare cX3_pairSquare 15 (some .long) :: ([.methodLink RX3 49 yX3_areaOf, .instanceMethod yX3_areaOf, .selects RX3 yX3_areaOf yX3_areaOf, .initialized RX3, .code yX3_areaOf cX3_areaOf 2 (some .int), .methodLink RX3 35 yX3_firstOf, .instanceMethod yX3_firstOf, .selects RX3 yX3_firstOf yX3_firstOf, .code yX3_firstOf cX3_firstOf 2 (some .int), .fieldLink RX3 7 "PlateBeatsModel" "p" "[I", .methodLink RX3 39 yX3_secondOf, .instanceMethod yX3_secondOf, .selects RX3 yX3_secondOf yX3_secondOf, .code yX3_secondOf cX3_secondOf 2 (some .int)] ++ wsX30)
def wsX3_pairBase : List Cond := .code yX3_pairBase cX3_pairBase 5 (some .long) :: ([.methodLink RX3 49 yX3_areaOf, .instanceMethod yX3_areaOf, .selects RX3 yX3_areaOf yX3_areaOf, .initialized RX3, .code yX3_areaOf cX3_areaOf 2 (some .int), .methodLink RX3 35 yX3_firstOf, .instanceMethod yX3_firstOf, .selects RX3 yX3_firstOf yX3_firstOf, .code yX3_firstOf cX3_firstOf 2 (some .int), .fieldLink RX3 7 "PlateBeatsModel" "p" "[I", .methodLink RX3 39 yX3_secondOf, .instanceMethod yX3_secondOf, .selects RX3 yX3_secondOf yX3_secondOf, .code yX3_secondOf cX3_secondOf 2 (some .int)] ++ wsX30)
def wsX3_part : List Cond := .code yX3_part cX3_part 5 (some .int) :: ([.methodLink RX3 39 yX3_secondOf, .instanceMethod yX3_secondOf, .selects RX3 yX3_secondOf yX3_secondOf, .initialized RX3, .code yX3_secondOf cX3_secondOf 2 (some .int), .fieldLink RX3 7 "PlateBeatsModel" "p" "[I", .methodLink RX3 35 yX3_firstOf, .instanceMethod yX3_firstOf, .selects RX3 yX3_firstOf yX3_firstOf, .code yX3_firstOf cX3_firstOf 2 (some .int)] ++ wsX30)
def wsX3_tripleSquare : List Cond := .code yX3_tripleSquare cX3_tripleSquare 15 (some .long) :: ([.methodLink RX3 49 yX3_areaOf, .instanceMethod yX3_areaOf, .selects RX3 yX3_areaOf yX3_areaOf, .initialized RX3, .code yX3_areaOf cX3_areaOf 2 (some .int), .methodLink RX3 35 yX3_firstOf, .instanceMethod yX3_firstOf, .selects RX3 yX3_firstOf yX3_firstOf, .code yX3_firstOf cX3_firstOf 2 (some .int), .fieldLink RX3 7 "PlateBeatsModel" "p" "[I", .methodLink RX3 39 yX3_secondOf, .instanceMethod yX3_secondOf, .selects RX3 yX3_secondOf yX3_secondOf, .code yX3_secondOf cX3_secondOf 2 (some .int), .methodLink RX3 62 yX3_part, .instanceMethod yX3_part, .selects RX3 yX3_part yX3_part, .code yX3_part cX3_part 5 (some .int)] ++ wsX30)
def wsX3_tripleBase : List Cond := .code yX3_tripleBase cX3_tripleBase 6 (some .long) :: ([.methodLink RX3 49 yX3_areaOf, .instanceMethod yX3_areaOf, .selects RX3 yX3_areaOf yX3_areaOf, .initialized RX3, .code yX3_areaOf cX3_areaOf 2 (some .int), .methodLink RX3 35 yX3_firstOf, .instanceMethod yX3_firstOf, .selects RX3 yX3_firstOf yX3_firstOf, .code yX3_firstOf cX3_firstOf 2 (some .int), .fieldLink RX3 7 "PlateBeatsModel" "p" "[I", .methodLink RX3 39 yX3_secondOf, .instanceMethod yX3_secondOf, .selects RX3 yX3_secondOf yX3_secondOf, .code yX3_secondOf cX3_secondOf 2 (some .int)] ++ wsX30)
def wsX3_kindOf : List Cond := .code yX3_kindOf cX3_kindOf 9 (some .int) :: ([.fieldLink RX3 7 "PlateBeatsModel" "p" "[I"] ++ wsX30)
def wsX3_periodOf : List Cond := .code yX3_periodOf cX3_periodOf 13 (some .int) :: ([.constantLong RX3 66 (600000000), .constantLong RX3 68 (2)])
def wsX3_isPart : List Cond := .code yX3_isPart cX3_isPart 3 (some .boolean) :: ([.fieldLink RX3 7 "PlateBeatsModel" "p" "[I", .methodLink RX3 27 yX3_in, .static yX3_in, .initialized RX3, .code yX3_in cX3_in 3 (some .boolean)] ++ wsX30)
def wsX3_isCombination : List Cond := .code yX3_isCombination cX3_isCombination 7 (some .boolean) :: ([.methodLink RX3 70 yX3_isPair, .instanceMethod yX3_isPair, .selects RX3 yX3_isPair yX3_isPair, .initialized RX3, .code yX3_isPair cX3_isPair 3 (some .boolean), .methodLink RX3 31 yX3_isPlate, .instanceMethod yX3_isPlate, .selects RX3 yX3_isPlate yX3_isPlate, .code yX3_isPlate cX3_isPlate 2 (some .boolean), .fieldLink RX3 7 "PlateBeatsModel" "p" "[I", .methodLink RX3 27 yX3_in, .static yX3_in, .code yX3_in cX3_in 3 (some .boolean), .methodLink RX3 73 yX3_isPart, .instanceMethod yX3_isPart, .selects RX3 yX3_isPart yX3_isPart, .code yX3_isPart cX3_isPart 3 (some .boolean)] ++ wsX30)
def wsX3_squareNumerator_r1 : List Cond := [Cond.constantLong RX3 80 (-1), Cond.methodLink RX3 76 yX3_isCombination, Cond.instanceMethod yX3_isCombination, Cond.selects RX3 yX3_isCombination yX3_isCombination, Cond.initialized RX3, Cond.code yX3_isCombination cX3_isCombination 7 (some .boolean), Cond.methodLink RX3 70 yX3_isPair, Cond.instanceMethod yX3_isPair, Cond.selects RX3 yX3_isPair yX3_isPair, Cond.code yX3_isPair cX3_isPair 3 (some .boolean), Cond.methodLink RX3 31 yX3_isPlate, Cond.instanceMethod yX3_isPlate, Cond.selects RX3 yX3_isPlate yX3_isPlate, Cond.code yX3_isPlate cX3_isPlate 2 (some .boolean), Cond.fieldLink RX3 7 "PlateBeatsModel" "p" "[I", Cond.methodLink RX3 27 yX3_in, Cond.static yX3_in, Cond.code yX3_in cX3_in 3 (some .boolean), Cond.methodLink RX3 73 yX3_isPart, Cond.instanceMethod yX3_isPart, Cond.selects RX3 yX3_isPart yX3_isPart, Cond.code yX3_isPart cX3_isPart 3 (some .boolean), Cond.methodLink RX3 82 yX3_pairSquare, Cond.instanceMethod yX3_pairSquare]
def wsX3_squareNumerator_r2 : List Cond := [Cond.selects RX3 yX3_pairSquare yX3_pairSquare, Cond.code yX3_pairSquare cX3_pairSquare 15 (some .long), Cond.methodLink RX3 49 yX3_areaOf, Cond.instanceMethod yX3_areaOf, Cond.selects RX3 yX3_areaOf yX3_areaOf, Cond.code yX3_areaOf cX3_areaOf 2 (some .int), Cond.methodLink RX3 35 yX3_firstOf, Cond.instanceMethod yX3_firstOf, Cond.selects RX3 yX3_firstOf yX3_firstOf, Cond.code yX3_firstOf cX3_firstOf 2 (some .int), Cond.methodLink RX3 39 yX3_secondOf, Cond.instanceMethod yX3_secondOf, Cond.selects RX3 yX3_secondOf yX3_secondOf, Cond.code yX3_secondOf cX3_secondOf 2 (some .int), Cond.methodLink RX3 86 yX3_pairBase, Cond.instanceMethod yX3_pairBase, Cond.selects RX3 yX3_pairBase yX3_pairBase, Cond.code yX3_pairBase cX3_pairBase 5 (some .long), Cond.methodLink RX3 52 yX3_common, Cond.static yX3_common, Cond.code yX3_common cX3_common 10 (some .long)]
def wsX3_squareNumerator : List Cond := .code yX3_squareNumerator cX3_squareNumerator 9 (some .long) :: ((wsX3_squareNumerator_r1 ++ wsX3_squareNumerator_r2) ++ wsX30)
def wsX3_squareDenominator_r1 : List Cond := [Cond.constantLong RX3 80 (-1), Cond.methodLink RX3 76 yX3_isCombination, Cond.instanceMethod yX3_isCombination, Cond.selects RX3 yX3_isCombination yX3_isCombination, Cond.initialized RX3, Cond.code yX3_isCombination cX3_isCombination 7 (some .boolean), Cond.methodLink RX3 70 yX3_isPair, Cond.instanceMethod yX3_isPair, Cond.selects RX3 yX3_isPair yX3_isPair, Cond.code yX3_isPair cX3_isPair 3 (some .boolean), Cond.methodLink RX3 31 yX3_isPlate, Cond.instanceMethod yX3_isPlate, Cond.selects RX3 yX3_isPlate yX3_isPlate, Cond.code yX3_isPlate cX3_isPlate 2 (some .boolean), Cond.fieldLink RX3 7 "PlateBeatsModel" "p" "[I", Cond.methodLink RX3 27 yX3_in, Cond.static yX3_in, Cond.code yX3_in cX3_in 3 (some .boolean), Cond.methodLink RX3 73 yX3_isPart, Cond.instanceMethod yX3_isPart, Cond.selects RX3 yX3_isPart yX3_isPart, Cond.code yX3_isPart cX3_isPart 3 (some .boolean), Cond.methodLink RX3 86 yX3_pairBase, Cond.instanceMethod yX3_pairBase]
def wsX3_squareDenominator_r2 : List Cond := [Cond.selects RX3 yX3_pairBase yX3_pairBase, Cond.code yX3_pairBase cX3_pairBase 5 (some .long), Cond.methodLink RX3 49 yX3_areaOf, Cond.instanceMethod yX3_areaOf, Cond.selects RX3 yX3_areaOf yX3_areaOf, Cond.code yX3_areaOf cX3_areaOf 2 (some .int), Cond.methodLink RX3 35 yX3_firstOf, Cond.instanceMethod yX3_firstOf, Cond.selects RX3 yX3_firstOf yX3_firstOf, Cond.code yX3_firstOf cX3_firstOf 2 (some .int), Cond.methodLink RX3 39 yX3_secondOf, Cond.instanceMethod yX3_secondOf, Cond.selects RX3 yX3_secondOf yX3_secondOf, Cond.code yX3_secondOf cX3_secondOf 2 (some .int), Cond.methodLink RX3 82 yX3_pairSquare, Cond.instanceMethod yX3_pairSquare, Cond.selects RX3 yX3_pairSquare yX3_pairSquare, Cond.code yX3_pairSquare cX3_pairSquare 15 (some .long), Cond.methodLink RX3 52 yX3_common, Cond.static yX3_common, Cond.code yX3_common cX3_common 10 (some .long)]
def wsX3_squareDenominator : List Cond := .code yX3_squareDenominator cX3_squareDenominator 9 (some .long) :: ((wsX3_squareDenominator_r1 ++ wsX3_squareDenominator_r2) ++ wsX30)
def wsX3_kind_r1 : List Cond := [Cond.methodLink RX3 76 yX3_isCombination, Cond.instanceMethod yX3_isCombination, Cond.selects RX3 yX3_isCombination yX3_isCombination, Cond.initialized RX3, Cond.code yX3_isCombination cX3_isCombination 7 (some .boolean), Cond.methodLink RX3 70 yX3_isPair, Cond.instanceMethod yX3_isPair, Cond.selects RX3 yX3_isPair yX3_isPair, Cond.code yX3_isPair cX3_isPair 3 (some .boolean), Cond.methodLink RX3 31 yX3_isPlate, Cond.instanceMethod yX3_isPlate, Cond.selects RX3 yX3_isPlate yX3_isPlate, Cond.code yX3_isPlate cX3_isPlate 2 (some .boolean), Cond.fieldLink RX3 7 "PlateBeatsModel" "p" "[I", Cond.methodLink RX3 27 yX3_in, Cond.static yX3_in, Cond.code yX3_in cX3_in 3 (some .boolean), Cond.methodLink RX3 73 yX3_isPart, Cond.instanceMethod yX3_isPart, Cond.selects RX3 yX3_isPart yX3_isPart, Cond.code yX3_isPart cX3_isPart 3 (some .boolean), Cond.methodLink RX3 82 yX3_pairSquare, Cond.instanceMethod yX3_pairSquare, Cond.selects RX3 yX3_pairSquare yX3_pairSquare]
def wsX3_kind_r2 : List Cond := [Cond.code yX3_pairSquare cX3_pairSquare 15 (some .long), Cond.methodLink RX3 49 yX3_areaOf, Cond.instanceMethod yX3_areaOf, Cond.selects RX3 yX3_areaOf yX3_areaOf, Cond.code yX3_areaOf cX3_areaOf 2 (some .int), Cond.methodLink RX3 35 yX3_firstOf, Cond.instanceMethod yX3_firstOf, Cond.selects RX3 yX3_firstOf yX3_firstOf, Cond.code yX3_firstOf cX3_firstOf 2 (some .int), Cond.methodLink RX3 39 yX3_secondOf, Cond.instanceMethod yX3_secondOf, Cond.selects RX3 yX3_secondOf yX3_secondOf, Cond.code yX3_secondOf cX3_secondOf 2 (some .int), Cond.methodLink RX3 86 yX3_pairBase, Cond.instanceMethod yX3_pairBase, Cond.selects RX3 yX3_pairBase yX3_pairBase, Cond.code yX3_pairBase cX3_pairBase 5 (some .long), Cond.methodLink RX3 90 yX3_kindOf, Cond.instanceMethod yX3_kindOf, Cond.selects RX3 yX3_kindOf yX3_kindOf, Cond.code yX3_kindOf cX3_kindOf 9 (some .int)]
def wsX3_kind : List Cond := .code yX3_kind cX3_kind 7 (some .int) :: ((wsX3_kind_r1 ++ wsX3_kind_r2) ++ wsX30)
def wsX3_insert : List Cond := .code yX3_insert cX3_insert 4 none :: ([.fieldLink RX3 94 "PlateBeatsModel" "all" "I", .fieldLink RX3 19 "PlateBeatsModel" "square" "[J"] ++ wsX30)
def wsX3_layWith : List Cond := .code yX3_layWith cX3_layWith 8 none :: ([.fieldLink RX3 7 "PlateBeatsModel" "p" "[I", .methodLink RX3 82 yX3_pairSquare, .instanceMethod yX3_pairSquare, .selects RX3 yX3_pairSquare yX3_pairSquare, .initialized RX3, .code yX3_pairSquare cX3_pairSquare 15 (some .long), .methodLink RX3 49 yX3_areaOf, .instanceMethod yX3_areaOf, .selects RX3 yX3_areaOf yX3_areaOf, .code yX3_areaOf cX3_areaOf 2 (some .int), .methodLink RX3 35 yX3_firstOf, .instanceMethod yX3_firstOf, .selects RX3 yX3_firstOf yX3_firstOf, .code yX3_firstOf cX3_firstOf 2 (some .int), .methodLink RX3 39 yX3_secondOf, .instanceMethod yX3_secondOf, .selects RX3 yX3_secondOf yX3_secondOf, .code yX3_secondOf cX3_secondOf 2 (some .int), .methodLink RX3 101 yX3_insert, .instanceMethod yX3_insert, .selects RX3 yX3_insert yX3_insert, .code yX3_insert cX3_insert 4 none, .fieldLink RX3 94 "PlateBeatsModel" "all" "I", .fieldLink RX3 19 "PlateBeatsModel" "square" "[J"] ++ wsX30)
def wsX3_laySquares_r1 : List Cond := [Cond.fieldLink RX3 94 "PlateBeatsModel" "all" "I", Cond.fieldLink RX3 7 "PlateBeatsModel" "p" "[I", Cond.methodLink RX3 97 yX3_layWith, Cond.instanceMethod yX3_layWith, Cond.selects RX3 yX3_layWith yX3_layWith, Cond.initialized RX3, Cond.code yX3_layWith cX3_layWith 8 none, Cond.methodLink RX3 82 yX3_pairSquare, Cond.instanceMethod yX3_pairSquare, Cond.selects RX3 yX3_pairSquare yX3_pairSquare, Cond.code yX3_pairSquare cX3_pairSquare 15 (some .long), Cond.methodLink RX3 49 yX3_areaOf, Cond.instanceMethod yX3_areaOf, Cond.selects RX3 yX3_areaOf yX3_areaOf, Cond.code yX3_areaOf cX3_areaOf 2 (some .int), Cond.methodLink RX3 35 yX3_firstOf, Cond.instanceMethod yX3_firstOf, Cond.selects RX3 yX3_firstOf yX3_firstOf, Cond.code yX3_firstOf cX3_firstOf 2 (some .int), Cond.methodLink RX3 39 yX3_secondOf, Cond.instanceMethod yX3_secondOf, Cond.selects RX3 yX3_secondOf yX3_secondOf, Cond.code yX3_secondOf cX3_secondOf 2 (some .int), Cond.methodLink RX3 101 yX3_insert]
def wsX3_laySquares_r2 : List Cond := [Cond.instanceMethod yX3_insert, Cond.selects RX3 yX3_insert yX3_insert, Cond.code yX3_insert cX3_insert 4 none, Cond.fieldLink RX3 19 "PlateBeatsModel" "square" "[J"]
def wsX3_laySquares : List Cond := .code yX3_laySquares cX3_laySquares 6 none :: ((wsX3_laySquares_r1 ++ wsX3_laySquares_r2) ++ wsX30)
def wsX3_behind : List Cond := .code yX3_behind cX3_behind 3 (some .int) :: ([.fieldLink RX3 94 "PlateBeatsModel" "all" "I", .fieldLink RX3 19 "PlateBeatsModel" "square" "[J"] ++ wsX30)
def wsX3_placeOf : List Cond := .code yX3_placeOf cX3_placeOf 4 (some .int) :: ([.fieldLink RX3 94 "PlateBeatsModel" "all" "I", .methodLink RX3 105 yX3_behind, .instanceMethod yX3_behind, .selects RX3 yX3_behind yX3_behind, .initialized RX3, .code yX3_behind cX3_behind 3 (some .int), .fieldLink RX3 19 "PlateBeatsModel" "square" "[J"] ++ wsX30)
def wsX3_beatCount_r1 : List Cond := [Cond.fieldLink RX3 94 "PlateBeatsModel" "all" "I", Cond.methodLink RX3 70 yX3_isPair, Cond.instanceMethod yX3_isPair, Cond.selects RX3 yX3_isPair yX3_isPair, Cond.initialized RX3, Cond.code yX3_isPair cX3_isPair 3 (some .boolean), Cond.methodLink RX3 31 yX3_isPlate, Cond.instanceMethod yX3_isPlate, Cond.selects RX3 yX3_isPlate yX3_isPlate, Cond.code yX3_isPlate cX3_isPlate 2 (some .boolean), Cond.fieldLink RX3 7 "PlateBeatsModel" "p" "[I", Cond.methodLink RX3 27 yX3_in, Cond.static yX3_in, Cond.code yX3_in cX3_in 3 (some .boolean), Cond.methodLink RX3 108 yX3_laySquares, Cond.instanceMethod yX3_laySquares, Cond.selects RX3 yX3_laySquares yX3_laySquares, Cond.code yX3_laySquares cX3_laySquares 6 none, Cond.methodLink RX3 97 yX3_layWith, Cond.instanceMethod yX3_layWith, Cond.selects RX3 yX3_layWith yX3_layWith, Cond.code yX3_layWith cX3_layWith 8 none, Cond.methodLink RX3 82 yX3_pairSquare, Cond.instanceMethod yX3_pairSquare]
def wsX3_beatCount_r2 : List Cond := [Cond.selects RX3 yX3_pairSquare yX3_pairSquare, Cond.code yX3_pairSquare cX3_pairSquare 15 (some .long), Cond.methodLink RX3 49 yX3_areaOf, Cond.instanceMethod yX3_areaOf, Cond.selects RX3 yX3_areaOf yX3_areaOf, Cond.code yX3_areaOf cX3_areaOf 2 (some .int), Cond.methodLink RX3 35 yX3_firstOf, Cond.instanceMethod yX3_firstOf, Cond.selects RX3 yX3_firstOf yX3_firstOf, Cond.code yX3_firstOf cX3_firstOf 2 (some .int), Cond.methodLink RX3 39 yX3_secondOf, Cond.instanceMethod yX3_secondOf, Cond.selects RX3 yX3_secondOf yX3_secondOf, Cond.code yX3_secondOf cX3_secondOf 2 (some .int), Cond.methodLink RX3 101 yX3_insert, Cond.instanceMethod yX3_insert, Cond.selects RX3 yX3_insert yX3_insert, Cond.code yX3_insert cX3_insert 4 none, Cond.fieldLink RX3 19 "PlateBeatsModel" "square" "[J", Cond.methodLink RX3 105 yX3_behind, Cond.instanceMethod yX3_behind, Cond.selects RX3 yX3_behind yX3_behind, Cond.code yX3_behind cX3_behind 3 (some .int)]
def wsX3_beatCount : List Cond := .code yX3_beatCount cX3_beatCount 5 (some .int) :: ((wsX3_beatCount_r1 ++ wsX3_beatCount_r2) ++ wsX30)
def wsX3_beat_r1 : List Cond := [Cond.constantLong RX3 80 (-1), Cond.fieldLink RX3 94 "PlateBeatsModel" "all" "I", Cond.constantLong RX3 115 (-4), Cond.fieldLink RX3 19 "PlateBeatsModel" "square" "[J", Cond.methodLink RX3 70 yX3_isPair, Cond.instanceMethod yX3_isPair, Cond.selects RX3 yX3_isPair yX3_isPair, Cond.initialized RX3, Cond.code yX3_isPair cX3_isPair 3 (some .boolean), Cond.methodLink RX3 31 yX3_isPlate, Cond.instanceMethod yX3_isPlate, Cond.selects RX3 yX3_isPlate yX3_isPlate, Cond.code yX3_isPlate cX3_isPlate 2 (some .boolean), Cond.fieldLink RX3 7 "PlateBeatsModel" "p" "[I", Cond.methodLink RX3 27 yX3_in, Cond.static yX3_in, Cond.code yX3_in cX3_in 3 (some .boolean), Cond.methodLink RX3 108 yX3_laySquares, Cond.instanceMethod yX3_laySquares, Cond.selects RX3 yX3_laySquares yX3_laySquares, Cond.code yX3_laySquares cX3_laySquares 6 none, Cond.methodLink RX3 97 yX3_layWith, Cond.instanceMethod yX3_layWith, Cond.selects RX3 yX3_layWith yX3_layWith]
def wsX3_beat_r2 : List Cond := [Cond.code yX3_layWith cX3_layWith 8 none, Cond.methodLink RX3 82 yX3_pairSquare, Cond.instanceMethod yX3_pairSquare, Cond.selects RX3 yX3_pairSquare yX3_pairSquare, Cond.code yX3_pairSquare cX3_pairSquare 15 (some .long), Cond.methodLink RX3 49 yX3_areaOf, Cond.instanceMethod yX3_areaOf, Cond.selects RX3 yX3_areaOf yX3_areaOf, Cond.code yX3_areaOf cX3_areaOf 2 (some .int), Cond.methodLink RX3 35 yX3_firstOf, Cond.instanceMethod yX3_firstOf, Cond.selects RX3 yX3_firstOf yX3_firstOf, Cond.code yX3_firstOf cX3_firstOf 2 (some .int), Cond.methodLink RX3 39 yX3_secondOf, Cond.instanceMethod yX3_secondOf, Cond.selects RX3 yX3_secondOf yX3_secondOf, Cond.code yX3_secondOf cX3_secondOf 2 (some .int), Cond.methodLink RX3 101 yX3_insert, Cond.instanceMethod yX3_insert, Cond.selects RX3 yX3_insert yX3_insert, Cond.code yX3_insert cX3_insert 4 none, Cond.methodLink RX3 112 yX3_placeOf, Cond.instanceMethod yX3_placeOf, Cond.selects RX3 yX3_placeOf yX3_placeOf]
def wsX3_beat_r3 : List Cond := [Cond.code yX3_placeOf cX3_placeOf 4 (some .int), Cond.methodLink RX3 105 yX3_behind, Cond.instanceMethod yX3_behind, Cond.selects RX3 yX3_behind yX3_behind, Cond.code yX3_behind cX3_behind 3 (some .int), Cond.methodLink RX3 86 yX3_pairBase, Cond.instanceMethod yX3_pairBase, Cond.selects RX3 yX3_pairBase yX3_pairBase, Cond.code yX3_pairBase cX3_pairBase 5 (some .long), Cond.methodLink RX3 52 yX3_common, Cond.static yX3_common, Cond.code yX3_common cX3_common 10 (some .long), Cond.methodLink RX3 117 yX3_periodOf, Cond.static yX3_periodOf, Cond.code yX3_periodOf cX3_periodOf 13 (some .int), Cond.constantLong RX3 66 (600000000), Cond.constantLong RX3 68 (2)]
def wsX3_beat : List Cond := .code yX3_beat cX3_beat 10 (some .long) :: ((wsX3_beat_r1 ++ (wsX3_beat_r2 ++ wsX3_beat_r3)) ++ wsX30)
def wsX3_beatNumerator_r1 : List Cond := [Cond.methodLink RX3 120 yX3_beat, Cond.instanceMethod yX3_beat, Cond.selects RX3 yX3_beat yX3_beat, Cond.initialized RX3, Cond.code yX3_beat cX3_beat 10 (some .long), Cond.constantLong RX3 80 (-1), Cond.fieldLink RX3 94 "PlateBeatsModel" "all" "I", Cond.constantLong RX3 115 (-4), Cond.fieldLink RX3 19 "PlateBeatsModel" "square" "[J", Cond.methodLink RX3 70 yX3_isPair, Cond.instanceMethod yX3_isPair, Cond.selects RX3 yX3_isPair yX3_isPair, Cond.code yX3_isPair cX3_isPair 3 (some .boolean), Cond.methodLink RX3 31 yX3_isPlate, Cond.instanceMethod yX3_isPlate, Cond.selects RX3 yX3_isPlate yX3_isPlate, Cond.code yX3_isPlate cX3_isPlate 2 (some .boolean), Cond.fieldLink RX3 7 "PlateBeatsModel" "p" "[I", Cond.methodLink RX3 27 yX3_in, Cond.static yX3_in, Cond.code yX3_in cX3_in 3 (some .boolean), Cond.methodLink RX3 108 yX3_laySquares, Cond.instanceMethod yX3_laySquares, Cond.selects RX3 yX3_laySquares yX3_laySquares]
def wsX3_beatNumerator_r2 : List Cond := [Cond.code yX3_laySquares cX3_laySquares 6 none, Cond.methodLink RX3 97 yX3_layWith, Cond.instanceMethod yX3_layWith, Cond.selects RX3 yX3_layWith yX3_layWith, Cond.code yX3_layWith cX3_layWith 8 none, Cond.methodLink RX3 82 yX3_pairSquare, Cond.instanceMethod yX3_pairSquare, Cond.selects RX3 yX3_pairSquare yX3_pairSquare, Cond.code yX3_pairSquare cX3_pairSquare 15 (some .long), Cond.methodLink RX3 49 yX3_areaOf, Cond.instanceMethod yX3_areaOf, Cond.selects RX3 yX3_areaOf yX3_areaOf, Cond.code yX3_areaOf cX3_areaOf 2 (some .int), Cond.methodLink RX3 35 yX3_firstOf, Cond.instanceMethod yX3_firstOf, Cond.selects RX3 yX3_firstOf yX3_firstOf, Cond.code yX3_firstOf cX3_firstOf 2 (some .int), Cond.methodLink RX3 39 yX3_secondOf, Cond.instanceMethod yX3_secondOf, Cond.selects RX3 yX3_secondOf yX3_secondOf, Cond.code yX3_secondOf cX3_secondOf 2 (some .int), Cond.methodLink RX3 101 yX3_insert, Cond.instanceMethod yX3_insert, Cond.selects RX3 yX3_insert yX3_insert]
def wsX3_beatNumerator_r3 : List Cond := [Cond.code yX3_insert cX3_insert 4 none, Cond.methodLink RX3 112 yX3_placeOf, Cond.instanceMethod yX3_placeOf, Cond.selects RX3 yX3_placeOf yX3_placeOf, Cond.code yX3_placeOf cX3_placeOf 4 (some .int), Cond.methodLink RX3 105 yX3_behind, Cond.instanceMethod yX3_behind, Cond.selects RX3 yX3_behind yX3_behind, Cond.code yX3_behind cX3_behind 3 (some .int), Cond.methodLink RX3 86 yX3_pairBase, Cond.instanceMethod yX3_pairBase, Cond.selects RX3 yX3_pairBase yX3_pairBase, Cond.code yX3_pairBase cX3_pairBase 5 (some .long), Cond.methodLink RX3 52 yX3_common, Cond.static yX3_common, Cond.code yX3_common cX3_common 10 (some .long), Cond.methodLink RX3 117 yX3_periodOf, Cond.static yX3_periodOf, Cond.code yX3_periodOf cX3_periodOf 13 (some .int), Cond.constantLong RX3 66 (600000000), Cond.constantLong RX3 68 (2)]
def wsX3_beatNumerator : List Cond := .code yX3_beatNumerator cX3_beatNumerator 4 (some .long) :: ((wsX3_beatNumerator_r1 ++ (wsX3_beatNumerator_r2 ++ wsX3_beatNumerator_r3)) ++ wsX30)
def wsX3_beatDenominator_r1 : List Cond := [Cond.methodLink RX3 120 yX3_beat, Cond.instanceMethod yX3_beat, Cond.selects RX3 yX3_beat yX3_beat, Cond.initialized RX3, Cond.code yX3_beat cX3_beat 10 (some .long), Cond.constantLong RX3 80 (-1), Cond.fieldLink RX3 94 "PlateBeatsModel" "all" "I", Cond.constantLong RX3 115 (-4), Cond.fieldLink RX3 19 "PlateBeatsModel" "square" "[J", Cond.methodLink RX3 70 yX3_isPair, Cond.instanceMethod yX3_isPair, Cond.selects RX3 yX3_isPair yX3_isPair, Cond.code yX3_isPair cX3_isPair 3 (some .boolean), Cond.methodLink RX3 31 yX3_isPlate, Cond.instanceMethod yX3_isPlate, Cond.selects RX3 yX3_isPlate yX3_isPlate, Cond.code yX3_isPlate cX3_isPlate 2 (some .boolean), Cond.fieldLink RX3 7 "PlateBeatsModel" "p" "[I", Cond.methodLink RX3 27 yX3_in, Cond.static yX3_in, Cond.code yX3_in cX3_in 3 (some .boolean), Cond.methodLink RX3 108 yX3_laySquares, Cond.instanceMethod yX3_laySquares, Cond.selects RX3 yX3_laySquares yX3_laySquares]
def wsX3_beatDenominator_r2 : List Cond := [Cond.code yX3_laySquares cX3_laySquares 6 none, Cond.methodLink RX3 97 yX3_layWith, Cond.instanceMethod yX3_layWith, Cond.selects RX3 yX3_layWith yX3_layWith, Cond.code yX3_layWith cX3_layWith 8 none, Cond.methodLink RX3 82 yX3_pairSquare, Cond.instanceMethod yX3_pairSquare, Cond.selects RX3 yX3_pairSquare yX3_pairSquare, Cond.code yX3_pairSquare cX3_pairSquare 15 (some .long), Cond.methodLink RX3 49 yX3_areaOf, Cond.instanceMethod yX3_areaOf, Cond.selects RX3 yX3_areaOf yX3_areaOf, Cond.code yX3_areaOf cX3_areaOf 2 (some .int), Cond.methodLink RX3 35 yX3_firstOf, Cond.instanceMethod yX3_firstOf, Cond.selects RX3 yX3_firstOf yX3_firstOf, Cond.code yX3_firstOf cX3_firstOf 2 (some .int), Cond.methodLink RX3 39 yX3_secondOf, Cond.instanceMethod yX3_secondOf, Cond.selects RX3 yX3_secondOf yX3_secondOf, Cond.code yX3_secondOf cX3_secondOf 2 (some .int), Cond.methodLink RX3 101 yX3_insert, Cond.instanceMethod yX3_insert, Cond.selects RX3 yX3_insert yX3_insert]
def wsX3_beatDenominator_r3 : List Cond := [Cond.code yX3_insert cX3_insert 4 none, Cond.methodLink RX3 112 yX3_placeOf, Cond.instanceMethod yX3_placeOf, Cond.selects RX3 yX3_placeOf yX3_placeOf, Cond.code yX3_placeOf cX3_placeOf 4 (some .int), Cond.methodLink RX3 105 yX3_behind, Cond.instanceMethod yX3_behind, Cond.selects RX3 yX3_behind yX3_behind, Cond.code yX3_behind cX3_behind 3 (some .int), Cond.methodLink RX3 86 yX3_pairBase, Cond.instanceMethod yX3_pairBase, Cond.selects RX3 yX3_pairBase yX3_pairBase, Cond.code yX3_pairBase cX3_pairBase 5 (some .long), Cond.methodLink RX3 52 yX3_common, Cond.static yX3_common, Cond.code yX3_common cX3_common 10 (some .long), Cond.methodLink RX3 117 yX3_periodOf, Cond.static yX3_periodOf, Cond.code yX3_periodOf cX3_periodOf 13 (some .int), Cond.constantLong RX3 66 (600000000), Cond.constantLong RX3 68 (2)]
def wsX3_beatDenominator : List Cond := .code yX3_beatDenominator cX3_beatDenominator 4 (some .long) :: ((wsX3_beatDenominator_r1 ++ (wsX3_beatDenominator_r2 ++ wsX3_beatDenominator_r3)) ++ wsX30)
def wsX3_beatFrequency_r1 : List Cond := [Cond.methodLink RX3 120 yX3_beat, Cond.instanceMethod yX3_beat, Cond.selects RX3 yX3_beat yX3_beat, Cond.initialized RX3, Cond.code yX3_beat cX3_beat 10 (some .long), Cond.constantLong RX3 80 (-1), Cond.fieldLink RX3 94 "PlateBeatsModel" "all" "I", Cond.constantLong RX3 115 (-4), Cond.fieldLink RX3 19 "PlateBeatsModel" "square" "[J", Cond.methodLink RX3 70 yX3_isPair, Cond.instanceMethod yX3_isPair, Cond.selects RX3 yX3_isPair yX3_isPair, Cond.code yX3_isPair cX3_isPair 3 (some .boolean), Cond.methodLink RX3 31 yX3_isPlate, Cond.instanceMethod yX3_isPlate, Cond.selects RX3 yX3_isPlate yX3_isPlate, Cond.code yX3_isPlate cX3_isPlate 2 (some .boolean), Cond.fieldLink RX3 7 "PlateBeatsModel" "p" "[I", Cond.methodLink RX3 27 yX3_in, Cond.static yX3_in, Cond.code yX3_in cX3_in 3 (some .boolean), Cond.methodLink RX3 108 yX3_laySquares, Cond.instanceMethod yX3_laySquares, Cond.selects RX3 yX3_laySquares yX3_laySquares]
def wsX3_beatFrequency_r2 : List Cond := [Cond.code yX3_laySquares cX3_laySquares 6 none, Cond.methodLink RX3 97 yX3_layWith, Cond.instanceMethod yX3_layWith, Cond.selects RX3 yX3_layWith yX3_layWith, Cond.code yX3_layWith cX3_layWith 8 none, Cond.methodLink RX3 82 yX3_pairSquare, Cond.instanceMethod yX3_pairSquare, Cond.selects RX3 yX3_pairSquare yX3_pairSquare, Cond.code yX3_pairSquare cX3_pairSquare 15 (some .long), Cond.methodLink RX3 49 yX3_areaOf, Cond.instanceMethod yX3_areaOf, Cond.selects RX3 yX3_areaOf yX3_areaOf, Cond.code yX3_areaOf cX3_areaOf 2 (some .int), Cond.methodLink RX3 35 yX3_firstOf, Cond.instanceMethod yX3_firstOf, Cond.selects RX3 yX3_firstOf yX3_firstOf, Cond.code yX3_firstOf cX3_firstOf 2 (some .int), Cond.methodLink RX3 39 yX3_secondOf, Cond.instanceMethod yX3_secondOf, Cond.selects RX3 yX3_secondOf yX3_secondOf, Cond.code yX3_secondOf cX3_secondOf 2 (some .int), Cond.methodLink RX3 101 yX3_insert, Cond.instanceMethod yX3_insert, Cond.selects RX3 yX3_insert yX3_insert]
def wsX3_beatFrequency_r3 : List Cond := [Cond.code yX3_insert cX3_insert 4 none, Cond.methodLink RX3 112 yX3_placeOf, Cond.instanceMethod yX3_placeOf, Cond.selects RX3 yX3_placeOf yX3_placeOf, Cond.code yX3_placeOf cX3_placeOf 4 (some .int), Cond.methodLink RX3 105 yX3_behind, Cond.instanceMethod yX3_behind, Cond.selects RX3 yX3_behind yX3_behind, Cond.code yX3_behind cX3_behind 3 (some .int), Cond.methodLink RX3 86 yX3_pairBase, Cond.instanceMethod yX3_pairBase, Cond.selects RX3 yX3_pairBase yX3_pairBase, Cond.code yX3_pairBase cX3_pairBase 5 (some .long), Cond.methodLink RX3 52 yX3_common, Cond.static yX3_common, Cond.code yX3_common cX3_common 10 (some .long), Cond.methodLink RX3 117 yX3_periodOf, Cond.static yX3_periodOf, Cond.code yX3_periodOf cX3_periodOf 13 (some .int), Cond.constantLong RX3 66 (600000000), Cond.constantLong RX3 68 (2)]
def wsX3_beatFrequency : List Cond := .code yX3_beatFrequency cX3_beatFrequency 4 (some .int) :: ((wsX3_beatFrequency_r1 ++ (wsX3_beatFrequency_r2 ++ wsX3_beatFrequency_r3)) ++ wsX30)
def wsX3_beatPeriod_r1 : List Cond := [Cond.methodLink RX3 120 yX3_beat, Cond.instanceMethod yX3_beat, Cond.selects RX3 yX3_beat yX3_beat, Cond.initialized RX3, Cond.code yX3_beat cX3_beat 10 (some .long), Cond.constantLong RX3 80 (-1), Cond.fieldLink RX3 94 "PlateBeatsModel" "all" "I", Cond.constantLong RX3 115 (-4), Cond.fieldLink RX3 19 "PlateBeatsModel" "square" "[J", Cond.methodLink RX3 70 yX3_isPair, Cond.instanceMethod yX3_isPair, Cond.selects RX3 yX3_isPair yX3_isPair, Cond.code yX3_isPair cX3_isPair 3 (some .boolean), Cond.methodLink RX3 31 yX3_isPlate, Cond.instanceMethod yX3_isPlate, Cond.selects RX3 yX3_isPlate yX3_isPlate, Cond.code yX3_isPlate cX3_isPlate 2 (some .boolean), Cond.fieldLink RX3 7 "PlateBeatsModel" "p" "[I", Cond.methodLink RX3 27 yX3_in, Cond.static yX3_in, Cond.code yX3_in cX3_in 3 (some .boolean), Cond.methodLink RX3 108 yX3_laySquares, Cond.instanceMethod yX3_laySquares, Cond.selects RX3 yX3_laySquares yX3_laySquares]
def wsX3_beatPeriod_r2 : List Cond := [Cond.code yX3_laySquares cX3_laySquares 6 none, Cond.methodLink RX3 97 yX3_layWith, Cond.instanceMethod yX3_layWith, Cond.selects RX3 yX3_layWith yX3_layWith, Cond.code yX3_layWith cX3_layWith 8 none, Cond.methodLink RX3 82 yX3_pairSquare, Cond.instanceMethod yX3_pairSquare, Cond.selects RX3 yX3_pairSquare yX3_pairSquare, Cond.code yX3_pairSquare cX3_pairSquare 15 (some .long), Cond.methodLink RX3 49 yX3_areaOf, Cond.instanceMethod yX3_areaOf, Cond.selects RX3 yX3_areaOf yX3_areaOf, Cond.code yX3_areaOf cX3_areaOf 2 (some .int), Cond.methodLink RX3 35 yX3_firstOf, Cond.instanceMethod yX3_firstOf, Cond.selects RX3 yX3_firstOf yX3_firstOf, Cond.code yX3_firstOf cX3_firstOf 2 (some .int), Cond.methodLink RX3 39 yX3_secondOf, Cond.instanceMethod yX3_secondOf, Cond.selects RX3 yX3_secondOf yX3_secondOf, Cond.code yX3_secondOf cX3_secondOf 2 (some .int), Cond.methodLink RX3 101 yX3_insert, Cond.instanceMethod yX3_insert, Cond.selects RX3 yX3_insert yX3_insert]
def wsX3_beatPeriod_r3 : List Cond := [Cond.code yX3_insert cX3_insert 4 none, Cond.methodLink RX3 112 yX3_placeOf, Cond.instanceMethod yX3_placeOf, Cond.selects RX3 yX3_placeOf yX3_placeOf, Cond.code yX3_placeOf cX3_placeOf 4 (some .int), Cond.methodLink RX3 105 yX3_behind, Cond.instanceMethod yX3_behind, Cond.selects RX3 yX3_behind yX3_behind, Cond.code yX3_behind cX3_behind 3 (some .int), Cond.methodLink RX3 86 yX3_pairBase, Cond.instanceMethod yX3_pairBase, Cond.selects RX3 yX3_pairBase yX3_pairBase, Cond.code yX3_pairBase cX3_pairBase 5 (some .long), Cond.methodLink RX3 52 yX3_common, Cond.static yX3_common, Cond.code yX3_common cX3_common 10 (some .long), Cond.methodLink RX3 117 yX3_periodOf, Cond.static yX3_periodOf, Cond.code yX3_periodOf cX3_periodOf 13 (some .int), Cond.constantLong RX3 66 (600000000), Cond.constantLong RX3 68 (2)]
def wsX3_beatPeriod : List Cond := .code yX3_beatPeriod cX3_beatPeriod 4 (some .int) :: ((wsX3_beatPeriod_r1 ++ (wsX3_beatPeriod_r2 ++ wsX3_beatPeriod_r3)) ++ wsX30)
def wsX3_ofKind_r1 : List Cond := [Cond.fieldLink RX3 124 "PlateBeatsModel" "widest" "J", Cond.fieldLink RX3 7 "PlateBeatsModel" "p" "[I", Cond.methodLink RX3 86 yX3_pairBase, Cond.instanceMethod yX3_pairBase, Cond.selects RX3 yX3_pairBase yX3_pairBase, Cond.initialized RX3, Cond.code yX3_pairBase cX3_pairBase 5 (some .long), Cond.methodLink RX3 49 yX3_areaOf, Cond.instanceMethod yX3_areaOf, Cond.selects RX3 yX3_areaOf yX3_areaOf, Cond.code yX3_areaOf cX3_areaOf 2 (some .int), Cond.methodLink RX3 35 yX3_firstOf, Cond.instanceMethod yX3_firstOf, Cond.selects RX3 yX3_firstOf yX3_firstOf, Cond.code yX3_firstOf cX3_firstOf 2 (some .int), Cond.methodLink RX3 39 yX3_secondOf, Cond.instanceMethod yX3_secondOf, Cond.selects RX3 yX3_secondOf yX3_secondOf, Cond.code yX3_secondOf cX3_secondOf 2 (some .int), Cond.methodLink RX3 82 yX3_pairSquare, Cond.instanceMethod yX3_pairSquare, Cond.selects RX3 yX3_pairSquare yX3_pairSquare, Cond.code yX3_pairSquare cX3_pairSquare 15 (some .long), Cond.methodLink RX3 90 yX3_kindOf]
def wsX3_ofKind_r2 : List Cond := [Cond.instanceMethod yX3_kindOf, Cond.selects RX3 yX3_kindOf yX3_kindOf, Cond.code yX3_kindOf cX3_kindOf 9 (some .int)]
def wsX3_ofKind : List Cond := .code yX3_ofKind cX3_ofKind 17 (some .int) :: ((wsX3_ofKind_r1 ++ wsX3_ofKind_r2) ++ wsX30)
def wsX3_locked_r1 : List Cond := [Cond.methodLink RX3 70 yX3_isPair, Cond.instanceMethod yX3_isPair, Cond.selects RX3 yX3_isPair yX3_isPair, Cond.initialized RX3, Cond.code yX3_isPair cX3_isPair 3 (some .boolean), Cond.methodLink RX3 31 yX3_isPlate, Cond.instanceMethod yX3_isPlate, Cond.selects RX3 yX3_isPlate yX3_isPlate, Cond.code yX3_isPlate cX3_isPlate 2 (some .boolean), Cond.fieldLink RX3 7 "PlateBeatsModel" "p" "[I", Cond.methodLink RX3 27 yX3_in, Cond.static yX3_in, Cond.code yX3_in cX3_in 3 (some .boolean), Cond.methodLink RX3 128 yX3_ofKind, Cond.instanceMethod yX3_ofKind, Cond.selects RX3 yX3_ofKind yX3_ofKind, Cond.code yX3_ofKind cX3_ofKind 17 (some .int), Cond.fieldLink RX3 124 "PlateBeatsModel" "widest" "J", Cond.methodLink RX3 86 yX3_pairBase, Cond.instanceMethod yX3_pairBase, Cond.selects RX3 yX3_pairBase yX3_pairBase, Cond.code yX3_pairBase cX3_pairBase 5 (some .long), Cond.methodLink RX3 49 yX3_areaOf, Cond.instanceMethod yX3_areaOf]
def wsX3_locked_r2 : List Cond := [Cond.selects RX3 yX3_areaOf yX3_areaOf, Cond.code yX3_areaOf cX3_areaOf 2 (some .int), Cond.methodLink RX3 35 yX3_firstOf, Cond.instanceMethod yX3_firstOf, Cond.selects RX3 yX3_firstOf yX3_firstOf, Cond.code yX3_firstOf cX3_firstOf 2 (some .int), Cond.methodLink RX3 39 yX3_secondOf, Cond.instanceMethod yX3_secondOf, Cond.selects RX3 yX3_secondOf yX3_secondOf, Cond.code yX3_secondOf cX3_secondOf 2 (some .int), Cond.methodLink RX3 82 yX3_pairSquare, Cond.instanceMethod yX3_pairSquare, Cond.selects RX3 yX3_pairSquare yX3_pairSquare, Cond.code yX3_pairSquare cX3_pairSquare 15 (some .long), Cond.methodLink RX3 90 yX3_kindOf, Cond.instanceMethod yX3_kindOf, Cond.selects RX3 yX3_kindOf yX3_kindOf, Cond.code yX3_kindOf cX3_kindOf 9 (some .int)]
def wsX3_locked : List Cond := .code yX3_locked cX3_locked 3 (some .int) :: ((wsX3_locked_r1 ++ wsX3_locked_r2) ++ wsX30)
def wsX3_bands_r1 : List Cond := [Cond.methodLink RX3 70 yX3_isPair, Cond.instanceMethod yX3_isPair, Cond.selects RX3 yX3_isPair yX3_isPair, Cond.initialized RX3, Cond.code yX3_isPair cX3_isPair 3 (some .boolean), Cond.methodLink RX3 31 yX3_isPlate, Cond.instanceMethod yX3_isPlate, Cond.selects RX3 yX3_isPlate yX3_isPlate, Cond.code yX3_isPlate cX3_isPlate 2 (some .boolean), Cond.fieldLink RX3 7 "PlateBeatsModel" "p" "[I", Cond.methodLink RX3 27 yX3_in, Cond.static yX3_in, Cond.code yX3_in cX3_in 3 (some .boolean), Cond.methodLink RX3 128 yX3_ofKind, Cond.instanceMethod yX3_ofKind, Cond.selects RX3 yX3_ofKind yX3_ofKind, Cond.code yX3_ofKind cX3_ofKind 17 (some .int), Cond.fieldLink RX3 124 "PlateBeatsModel" "widest" "J", Cond.methodLink RX3 86 yX3_pairBase, Cond.instanceMethod yX3_pairBase, Cond.selects RX3 yX3_pairBase yX3_pairBase, Cond.code yX3_pairBase cX3_pairBase 5 (some .long), Cond.methodLink RX3 49 yX3_areaOf, Cond.instanceMethod yX3_areaOf]
def wsX3_bands_r2 : List Cond := [Cond.selects RX3 yX3_areaOf yX3_areaOf, Cond.code yX3_areaOf cX3_areaOf 2 (some .int), Cond.methodLink RX3 35 yX3_firstOf, Cond.instanceMethod yX3_firstOf, Cond.selects RX3 yX3_firstOf yX3_firstOf, Cond.code yX3_firstOf cX3_firstOf 2 (some .int), Cond.methodLink RX3 39 yX3_secondOf, Cond.instanceMethod yX3_secondOf, Cond.selects RX3 yX3_secondOf yX3_secondOf, Cond.code yX3_secondOf cX3_secondOf 2 (some .int), Cond.methodLink RX3 82 yX3_pairSquare, Cond.instanceMethod yX3_pairSquare, Cond.selects RX3 yX3_pairSquare yX3_pairSquare, Cond.code yX3_pairSquare cX3_pairSquare 15 (some .long), Cond.methodLink RX3 90 yX3_kindOf, Cond.instanceMethod yX3_kindOf, Cond.selects RX3 yX3_kindOf yX3_kindOf, Cond.code yX3_kindOf cX3_kindOf 9 (some .int)]
def wsX3_bands : List Cond := .code yX3_bands cX3_bands 3 (some .int) :: ((wsX3_bands_r1 ++ wsX3_bands_r2) ++ wsX30)
def wsX3_bandsOfThree_r1 : List Cond := [Cond.fieldLink RX3 124 "PlateBeatsModel" "widest" "J", Cond.methodLink RX3 132 yX3_tripleBase, Cond.instanceMethod yX3_tripleBase, Cond.selects RX3 yX3_tripleBase yX3_tripleBase, Cond.initialized RX3, Cond.code yX3_tripleBase cX3_tripleBase 6 (some .long), Cond.methodLink RX3 49 yX3_areaOf, Cond.instanceMethod yX3_areaOf, Cond.selects RX3 yX3_areaOf yX3_areaOf, Cond.code yX3_areaOf cX3_areaOf 2 (some .int), Cond.methodLink RX3 35 yX3_firstOf, Cond.instanceMethod yX3_firstOf, Cond.selects RX3 yX3_firstOf yX3_firstOf, Cond.code yX3_firstOf cX3_firstOf 2 (some .int), Cond.fieldLink RX3 7 "PlateBeatsModel" "p" "[I", Cond.methodLink RX3 39 yX3_secondOf, Cond.instanceMethod yX3_secondOf, Cond.selects RX3 yX3_secondOf yX3_secondOf, Cond.code yX3_secondOf cX3_secondOf 2 (some .int), Cond.methodLink RX3 136 yX3_tripleSquare, Cond.instanceMethod yX3_tripleSquare, Cond.selects RX3 yX3_tripleSquare yX3_tripleSquare, Cond.code yX3_tripleSquare cX3_tripleSquare 15 (some .long), Cond.methodLink RX3 62 yX3_part]
def wsX3_bandsOfThree_r2 : List Cond := [Cond.instanceMethod yX3_part, Cond.selects RX3 yX3_part yX3_part, Cond.code yX3_part cX3_part 5 (some .int), Cond.methodLink RX3 90 yX3_kindOf, Cond.instanceMethod yX3_kindOf, Cond.selects RX3 yX3_kindOf yX3_kindOf, Cond.code yX3_kindOf cX3_kindOf 9 (some .int)]
def wsX3_bandsOfThree : List Cond := .code yX3_bandsOfThree cX3_bandsOfThree 11 (some .int) :: ((wsX3_bandsOfThree_r1 ++ wsX3_bandsOfThree_r2) ++ wsX30)
def wsX3_tripleBands_r1 : List Cond := [Cond.methodLink RX3 70 yX3_isPair, Cond.instanceMethod yX3_isPair, Cond.selects RX3 yX3_isPair yX3_isPair, Cond.initialized RX3, Cond.code yX3_isPair cX3_isPair 3 (some .boolean), Cond.methodLink RX3 31 yX3_isPlate, Cond.instanceMethod yX3_isPlate, Cond.selects RX3 yX3_isPlate yX3_isPlate, Cond.code yX3_isPlate cX3_isPlate 2 (some .boolean), Cond.fieldLink RX3 7 "PlateBeatsModel" "p" "[I", Cond.methodLink RX3 27 yX3_in, Cond.static yX3_in, Cond.code yX3_in cX3_in 3 (some .boolean), Cond.methodLink RX3 139 yX3_bandsOfThree, Cond.instanceMethod yX3_bandsOfThree, Cond.selects RX3 yX3_bandsOfThree yX3_bandsOfThree, Cond.code yX3_bandsOfThree cX3_bandsOfThree 11 (some .int), Cond.fieldLink RX3 124 "PlateBeatsModel" "widest" "J", Cond.methodLink RX3 132 yX3_tripleBase, Cond.instanceMethod yX3_tripleBase, Cond.selects RX3 yX3_tripleBase yX3_tripleBase, Cond.code yX3_tripleBase cX3_tripleBase 6 (some .long), Cond.methodLink RX3 49 yX3_areaOf, Cond.instanceMethod yX3_areaOf]
def wsX3_tripleBands_r2 : List Cond := [Cond.selects RX3 yX3_areaOf yX3_areaOf, Cond.code yX3_areaOf cX3_areaOf 2 (some .int), Cond.methodLink RX3 35 yX3_firstOf, Cond.instanceMethod yX3_firstOf, Cond.selects RX3 yX3_firstOf yX3_firstOf, Cond.code yX3_firstOf cX3_firstOf 2 (some .int), Cond.methodLink RX3 39 yX3_secondOf, Cond.instanceMethod yX3_secondOf, Cond.selects RX3 yX3_secondOf yX3_secondOf, Cond.code yX3_secondOf cX3_secondOf 2 (some .int), Cond.methodLink RX3 136 yX3_tripleSquare, Cond.instanceMethod yX3_tripleSquare, Cond.selects RX3 yX3_tripleSquare yX3_tripleSquare, Cond.code yX3_tripleSquare cX3_tripleSquare 15 (some .long), Cond.methodLink RX3 62 yX3_part, Cond.instanceMethod yX3_part, Cond.selects RX3 yX3_part yX3_part, Cond.code yX3_part cX3_part 5 (some .int), Cond.methodLink RX3 90 yX3_kindOf, Cond.instanceMethod yX3_kindOf, Cond.selects RX3 yX3_kindOf yX3_kindOf, Cond.code yX3_kindOf cX3_kindOf 9 (some .int)]
def wsX3_tripleBands : List Cond := .code yX3_tripleBands cX3_tripleBands 4 (some .int) :: ((wsX3_tripleBands_r1 ++ wsX3_tripleBands_r2) ++ wsX30)
def wsX3_note : List Cond := .code yX3_note cX3_note 4 none :: ([.fieldLink RX3 124 "PlateBeatsModel" "widest" "J", .fieldLink RX3 142 "PlateBeatsModel" "worst" "I", .fieldLink RX3 145 "PlateBeatsModel" "worstSet" "I", .methodLink RX3 117 yX3_periodOf, .static yX3_periodOf, .initialized RX3, .code yX3_periodOf cX3_periodOf 13 (some .int), .constantLong RX3 66 (600000000), .constantLong RX3 68 (2)] ++ wsX30)
def wsX3_findAll_r1 : List Cond := [Cond.fieldLink RX3 142 "PlateBeatsModel" "worst" "I", Cond.fieldLink RX3 145 "PlateBeatsModel" "worstSet" "I", Cond.fieldLink RX3 7 "PlateBeatsModel" "p" "[I", Cond.methodLink RX3 128 yX3_ofKind, Cond.instanceMethod yX3_ofKind, Cond.selects RX3 yX3_ofKind yX3_ofKind, Cond.initialized RX3, Cond.code yX3_ofKind cX3_ofKind 17 (some .int), Cond.fieldLink RX3 124 "PlateBeatsModel" "widest" "J", Cond.methodLink RX3 86 yX3_pairBase, Cond.instanceMethod yX3_pairBase, Cond.selects RX3 yX3_pairBase yX3_pairBase, Cond.code yX3_pairBase cX3_pairBase 5 (some .long), Cond.methodLink RX3 49 yX3_areaOf, Cond.instanceMethod yX3_areaOf, Cond.selects RX3 yX3_areaOf yX3_areaOf, Cond.code yX3_areaOf cX3_areaOf 2 (some .int), Cond.methodLink RX3 35 yX3_firstOf, Cond.instanceMethod yX3_firstOf, Cond.selects RX3 yX3_firstOf yX3_firstOf, Cond.code yX3_firstOf cX3_firstOf 2 (some .int), Cond.methodLink RX3 39 yX3_secondOf, Cond.instanceMethod yX3_secondOf, Cond.selects RX3 yX3_secondOf yX3_secondOf]
def wsX3_findAll_r2 : List Cond := [Cond.code yX3_secondOf cX3_secondOf 2 (some .int), Cond.methodLink RX3 82 yX3_pairSquare, Cond.instanceMethod yX3_pairSquare, Cond.selects RX3 yX3_pairSquare yX3_pairSquare, Cond.code yX3_pairSquare cX3_pairSquare 15 (some .long), Cond.methodLink RX3 90 yX3_kindOf, Cond.instanceMethod yX3_kindOf, Cond.selects RX3 yX3_kindOf yX3_kindOf, Cond.code yX3_kindOf cX3_kindOf 9 (some .int), Cond.methodLink RX3 148 yX3_note, Cond.instanceMethod yX3_note, Cond.selects RX3 yX3_note yX3_note, Cond.code yX3_note cX3_note 4 none, Cond.methodLink RX3 117 yX3_periodOf, Cond.static yX3_periodOf, Cond.code yX3_periodOf cX3_periodOf 13 (some .int), Cond.constantLong RX3 66 (600000000), Cond.constantLong RX3 68 (2), Cond.methodLink RX3 70 yX3_isPair, Cond.instanceMethod yX3_isPair, Cond.selects RX3 yX3_isPair yX3_isPair, Cond.code yX3_isPair cX3_isPair 3 (some .boolean), Cond.methodLink RX3 31 yX3_isPlate, Cond.instanceMethod yX3_isPlate]
def wsX3_findAll_r3 : List Cond := [Cond.selects RX3 yX3_isPlate yX3_isPlate, Cond.code yX3_isPlate cX3_isPlate 2 (some .boolean), Cond.methodLink RX3 27 yX3_in, Cond.static yX3_in, Cond.code yX3_in cX3_in 3 (some .boolean), Cond.methodLink RX3 139 yX3_bandsOfThree, Cond.instanceMethod yX3_bandsOfThree, Cond.selects RX3 yX3_bandsOfThree yX3_bandsOfThree, Cond.code yX3_bandsOfThree cX3_bandsOfThree 11 (some .int), Cond.methodLink RX3 132 yX3_tripleBase, Cond.instanceMethod yX3_tripleBase, Cond.selects RX3 yX3_tripleBase yX3_tripleBase, Cond.code yX3_tripleBase cX3_tripleBase 6 (some .long), Cond.methodLink RX3 136 yX3_tripleSquare, Cond.instanceMethod yX3_tripleSquare, Cond.selects RX3 yX3_tripleSquare yX3_tripleSquare, Cond.code yX3_tripleSquare cX3_tripleSquare 15 (some .long), Cond.methodLink RX3 62 yX3_part, Cond.instanceMethod yX3_part, Cond.selects RX3 yX3_part yX3_part, Cond.code yX3_part cX3_part 5 (some .int)]
def wsX3_findAll : List Cond := .code yX3_findAll cX3_findAll 6 (some .int) :: ((wsX3_findAll_r1 ++ (wsX3_findAll_r2 ++ wsX3_findAll_r3)) ++ wsX30)
def wsX3_allBands_r1 : List Cond := [Cond.methodLink RX3 152 yX3_findAll, Cond.instanceMethod yX3_findAll, Cond.selects RX3 yX3_findAll yX3_findAll, Cond.initialized RX3, Cond.code yX3_findAll cX3_findAll 6 (some .int), Cond.fieldLink RX3 142 "PlateBeatsModel" "worst" "I", Cond.fieldLink RX3 145 "PlateBeatsModel" "worstSet" "I", Cond.fieldLink RX3 7 "PlateBeatsModel" "p" "[I", Cond.methodLink RX3 128 yX3_ofKind, Cond.instanceMethod yX3_ofKind, Cond.selects RX3 yX3_ofKind yX3_ofKind, Cond.code yX3_ofKind cX3_ofKind 17 (some .int), Cond.fieldLink RX3 124 "PlateBeatsModel" "widest" "J", Cond.methodLink RX3 86 yX3_pairBase, Cond.instanceMethod yX3_pairBase, Cond.selects RX3 yX3_pairBase yX3_pairBase, Cond.code yX3_pairBase cX3_pairBase 5 (some .long), Cond.methodLink RX3 49 yX3_areaOf, Cond.instanceMethod yX3_areaOf, Cond.selects RX3 yX3_areaOf yX3_areaOf, Cond.code yX3_areaOf cX3_areaOf 2 (some .int), Cond.methodLink RX3 35 yX3_firstOf, Cond.instanceMethod yX3_firstOf, Cond.selects RX3 yX3_firstOf yX3_firstOf]
def wsX3_allBands_r2 : List Cond := [Cond.code yX3_firstOf cX3_firstOf 2 (some .int), Cond.methodLink RX3 39 yX3_secondOf, Cond.instanceMethod yX3_secondOf, Cond.selects RX3 yX3_secondOf yX3_secondOf, Cond.code yX3_secondOf cX3_secondOf 2 (some .int), Cond.methodLink RX3 82 yX3_pairSquare, Cond.instanceMethod yX3_pairSquare, Cond.selects RX3 yX3_pairSquare yX3_pairSquare, Cond.code yX3_pairSquare cX3_pairSquare 15 (some .long), Cond.methodLink RX3 90 yX3_kindOf, Cond.instanceMethod yX3_kindOf, Cond.selects RX3 yX3_kindOf yX3_kindOf, Cond.code yX3_kindOf cX3_kindOf 9 (some .int), Cond.methodLink RX3 148 yX3_note, Cond.instanceMethod yX3_note, Cond.selects RX3 yX3_note yX3_note, Cond.code yX3_note cX3_note 4 none, Cond.methodLink RX3 117 yX3_periodOf, Cond.static yX3_periodOf, Cond.code yX3_periodOf cX3_periodOf 13 (some .int), Cond.constantLong RX3 66 (600000000), Cond.constantLong RX3 68 (2), Cond.methodLink RX3 70 yX3_isPair, Cond.instanceMethod yX3_isPair]
def wsX3_allBands_r3 : List Cond := [Cond.selects RX3 yX3_isPair yX3_isPair, Cond.code yX3_isPair cX3_isPair 3 (some .boolean), Cond.methodLink RX3 31 yX3_isPlate, Cond.instanceMethod yX3_isPlate, Cond.selects RX3 yX3_isPlate yX3_isPlate, Cond.code yX3_isPlate cX3_isPlate 2 (some .boolean), Cond.methodLink RX3 27 yX3_in, Cond.static yX3_in, Cond.code yX3_in cX3_in 3 (some .boolean), Cond.methodLink RX3 139 yX3_bandsOfThree, Cond.instanceMethod yX3_bandsOfThree, Cond.selects RX3 yX3_bandsOfThree yX3_bandsOfThree, Cond.code yX3_bandsOfThree cX3_bandsOfThree 11 (some .int), Cond.methodLink RX3 132 yX3_tripleBase, Cond.instanceMethod yX3_tripleBase, Cond.selects RX3 yX3_tripleBase yX3_tripleBase, Cond.code yX3_tripleBase cX3_tripleBase 6 (some .long), Cond.methodLink RX3 136 yX3_tripleSquare, Cond.instanceMethod yX3_tripleSquare, Cond.selects RX3 yX3_tripleSquare yX3_tripleSquare, Cond.code yX3_tripleSquare cX3_tripleSquare 15 (some .long), Cond.methodLink RX3 62 yX3_part, Cond.instanceMethod yX3_part, Cond.selects RX3 yX3_part yX3_part]
def wsX3_allBands_r4 : List Cond := [Cond.code yX3_part cX3_part 5 (some .int)]
def wsX3_allBands : List Cond := .code yX3_allBands cX3_allBands 1 (some .int) :: ((wsX3_allBands_r1 ++ (wsX3_allBands_r2 ++ (wsX3_allBands_r3 ++ wsX3_allBands_r4))) ++ wsX30)
def wsX3_worstPlates_r1 : List Cond := [Cond.fieldLink RX3 145 "PlateBeatsModel" "worstSet" "I", Cond.methodLink RX3 152 yX3_findAll, Cond.instanceMethod yX3_findAll, Cond.selects RX3 yX3_findAll yX3_findAll, Cond.initialized RX3, Cond.code yX3_findAll cX3_findAll 6 (some .int), Cond.fieldLink RX3 142 "PlateBeatsModel" "worst" "I", Cond.fieldLink RX3 7 "PlateBeatsModel" "p" "[I", Cond.methodLink RX3 128 yX3_ofKind, Cond.instanceMethod yX3_ofKind, Cond.selects RX3 yX3_ofKind yX3_ofKind, Cond.code yX3_ofKind cX3_ofKind 17 (some .int), Cond.fieldLink RX3 124 "PlateBeatsModel" "widest" "J", Cond.methodLink RX3 86 yX3_pairBase, Cond.instanceMethod yX3_pairBase, Cond.selects RX3 yX3_pairBase yX3_pairBase, Cond.code yX3_pairBase cX3_pairBase 5 (some .long), Cond.methodLink RX3 49 yX3_areaOf, Cond.instanceMethod yX3_areaOf, Cond.selects RX3 yX3_areaOf yX3_areaOf, Cond.code yX3_areaOf cX3_areaOf 2 (some .int), Cond.methodLink RX3 35 yX3_firstOf, Cond.instanceMethod yX3_firstOf, Cond.selects RX3 yX3_firstOf yX3_firstOf]
def wsX3_worstPlates_r2 : List Cond := [Cond.code yX3_firstOf cX3_firstOf 2 (some .int), Cond.methodLink RX3 39 yX3_secondOf, Cond.instanceMethod yX3_secondOf, Cond.selects RX3 yX3_secondOf yX3_secondOf, Cond.code yX3_secondOf cX3_secondOf 2 (some .int), Cond.methodLink RX3 82 yX3_pairSquare, Cond.instanceMethod yX3_pairSquare, Cond.selects RX3 yX3_pairSquare yX3_pairSquare, Cond.code yX3_pairSquare cX3_pairSquare 15 (some .long), Cond.methodLink RX3 90 yX3_kindOf, Cond.instanceMethod yX3_kindOf, Cond.selects RX3 yX3_kindOf yX3_kindOf, Cond.code yX3_kindOf cX3_kindOf 9 (some .int), Cond.methodLink RX3 148 yX3_note, Cond.instanceMethod yX3_note, Cond.selects RX3 yX3_note yX3_note, Cond.code yX3_note cX3_note 4 none, Cond.methodLink RX3 117 yX3_periodOf, Cond.static yX3_periodOf, Cond.code yX3_periodOf cX3_periodOf 13 (some .int), Cond.constantLong RX3 66 (600000000), Cond.constantLong RX3 68 (2), Cond.methodLink RX3 70 yX3_isPair, Cond.instanceMethod yX3_isPair]
def wsX3_worstPlates_r3 : List Cond := [Cond.selects RX3 yX3_isPair yX3_isPair, Cond.code yX3_isPair cX3_isPair 3 (some .boolean), Cond.methodLink RX3 31 yX3_isPlate, Cond.instanceMethod yX3_isPlate, Cond.selects RX3 yX3_isPlate yX3_isPlate, Cond.code yX3_isPlate cX3_isPlate 2 (some .boolean), Cond.methodLink RX3 27 yX3_in, Cond.static yX3_in, Cond.code yX3_in cX3_in 3 (some .boolean), Cond.methodLink RX3 139 yX3_bandsOfThree, Cond.instanceMethod yX3_bandsOfThree, Cond.selects RX3 yX3_bandsOfThree yX3_bandsOfThree, Cond.code yX3_bandsOfThree cX3_bandsOfThree 11 (some .int), Cond.methodLink RX3 132 yX3_tripleBase, Cond.instanceMethod yX3_tripleBase, Cond.selects RX3 yX3_tripleBase yX3_tripleBase, Cond.code yX3_tripleBase cX3_tripleBase 6 (some .long), Cond.methodLink RX3 136 yX3_tripleSquare, Cond.instanceMethod yX3_tripleSquare, Cond.selects RX3 yX3_tripleSquare yX3_tripleSquare, Cond.code yX3_tripleSquare cX3_tripleSquare 15 (some .long), Cond.methodLink RX3 62 yX3_part, Cond.instanceMethod yX3_part, Cond.selects RX3 yX3_part yX3_part]
def wsX3_worstPlates_r4 : List Cond := [Cond.code yX3_part cX3_part 5 (some .int)]
def wsX3_worstPlates : List Cond := .code yX3_worstPlates cX3_worstPlates 2 (some .int) :: ((wsX3_worstPlates_r1 ++ (wsX3_worstPlates_r2 ++ (wsX3_worstPlates_r3 ++ wsX3_worstPlates_r4))) ++ wsX30)
def wsX3_worstPeriod_r1 : List Cond := [Cond.fieldLink RX3 142 "PlateBeatsModel" "worst" "I", Cond.methodLink RX3 152 yX3_findAll, Cond.instanceMethod yX3_findAll, Cond.selects RX3 yX3_findAll yX3_findAll, Cond.initialized RX3, Cond.code yX3_findAll cX3_findAll 6 (some .int), Cond.fieldLink RX3 145 "PlateBeatsModel" "worstSet" "I", Cond.fieldLink RX3 7 "PlateBeatsModel" "p" "[I", Cond.methodLink RX3 128 yX3_ofKind, Cond.instanceMethod yX3_ofKind, Cond.selects RX3 yX3_ofKind yX3_ofKind, Cond.code yX3_ofKind cX3_ofKind 17 (some .int), Cond.fieldLink RX3 124 "PlateBeatsModel" "widest" "J", Cond.methodLink RX3 86 yX3_pairBase, Cond.instanceMethod yX3_pairBase, Cond.selects RX3 yX3_pairBase yX3_pairBase, Cond.code yX3_pairBase cX3_pairBase 5 (some .long), Cond.methodLink RX3 49 yX3_areaOf, Cond.instanceMethod yX3_areaOf, Cond.selects RX3 yX3_areaOf yX3_areaOf, Cond.code yX3_areaOf cX3_areaOf 2 (some .int), Cond.methodLink RX3 35 yX3_firstOf, Cond.instanceMethod yX3_firstOf, Cond.selects RX3 yX3_firstOf yX3_firstOf]
def wsX3_worstPeriod_r2 : List Cond := [Cond.code yX3_firstOf cX3_firstOf 2 (some .int), Cond.methodLink RX3 39 yX3_secondOf, Cond.instanceMethod yX3_secondOf, Cond.selects RX3 yX3_secondOf yX3_secondOf, Cond.code yX3_secondOf cX3_secondOf 2 (some .int), Cond.methodLink RX3 82 yX3_pairSquare, Cond.instanceMethod yX3_pairSquare, Cond.selects RX3 yX3_pairSquare yX3_pairSquare, Cond.code yX3_pairSquare cX3_pairSquare 15 (some .long), Cond.methodLink RX3 90 yX3_kindOf, Cond.instanceMethod yX3_kindOf, Cond.selects RX3 yX3_kindOf yX3_kindOf, Cond.code yX3_kindOf cX3_kindOf 9 (some .int), Cond.methodLink RX3 148 yX3_note, Cond.instanceMethod yX3_note, Cond.selects RX3 yX3_note yX3_note, Cond.code yX3_note cX3_note 4 none, Cond.methodLink RX3 117 yX3_periodOf, Cond.static yX3_periodOf, Cond.code yX3_periodOf cX3_periodOf 13 (some .int), Cond.constantLong RX3 66 (600000000), Cond.constantLong RX3 68 (2), Cond.methodLink RX3 70 yX3_isPair, Cond.instanceMethod yX3_isPair]
def wsX3_worstPeriod_r3 : List Cond := [Cond.selects RX3 yX3_isPair yX3_isPair, Cond.code yX3_isPair cX3_isPair 3 (some .boolean), Cond.methodLink RX3 31 yX3_isPlate, Cond.instanceMethod yX3_isPlate, Cond.selects RX3 yX3_isPlate yX3_isPlate, Cond.code yX3_isPlate cX3_isPlate 2 (some .boolean), Cond.methodLink RX3 27 yX3_in, Cond.static yX3_in, Cond.code yX3_in cX3_in 3 (some .boolean), Cond.methodLink RX3 139 yX3_bandsOfThree, Cond.instanceMethod yX3_bandsOfThree, Cond.selects RX3 yX3_bandsOfThree yX3_bandsOfThree, Cond.code yX3_bandsOfThree cX3_bandsOfThree 11 (some .int), Cond.methodLink RX3 132 yX3_tripleBase, Cond.instanceMethod yX3_tripleBase, Cond.selects RX3 yX3_tripleBase yX3_tripleBase, Cond.code yX3_tripleBase cX3_tripleBase 6 (some .long), Cond.methodLink RX3 136 yX3_tripleSquare, Cond.instanceMethod yX3_tripleSquare, Cond.selects RX3 yX3_tripleSquare yX3_tripleSquare, Cond.code yX3_tripleSquare cX3_tripleSquare 15 (some .long), Cond.methodLink RX3 62 yX3_part, Cond.instanceMethod yX3_part, Cond.selects RX3 yX3_part yX3_part]
def wsX3_worstPeriod_r4 : List Cond := [Cond.code yX3_part cX3_part 5 (some .int)]
def wsX3_worstPeriod : List Cond := .code yX3_worstPeriod cX3_worstPeriod 2 (some .int) :: ((wsX3_worstPeriod_r1 ++ (wsX3_worstPeriod_r2 ++ (wsX3_worstPeriod_r3 ++ wsX3_worstPeriod_r4))) ++ wsX30)
def wsX3_worstPair_r1 : List Cond := [Cond.fieldLink RX3 7 "PlateBeatsModel" "p" "[I", Cond.methodLink RX3 128 yX3_ofKind, Cond.instanceMethod yX3_ofKind, Cond.selects RX3 yX3_ofKind yX3_ofKind, Cond.initialized RX3, Cond.code yX3_ofKind cX3_ofKind 17 (some .int), Cond.fieldLink RX3 124 "PlateBeatsModel" "widest" "J", Cond.methodLink RX3 86 yX3_pairBase, Cond.instanceMethod yX3_pairBase, Cond.selects RX3 yX3_pairBase yX3_pairBase, Cond.code yX3_pairBase cX3_pairBase 5 (some .long), Cond.methodLink RX3 49 yX3_areaOf, Cond.instanceMethod yX3_areaOf, Cond.selects RX3 yX3_areaOf yX3_areaOf, Cond.code yX3_areaOf cX3_areaOf 2 (some .int), Cond.methodLink RX3 35 yX3_firstOf, Cond.instanceMethod yX3_firstOf, Cond.selects RX3 yX3_firstOf yX3_firstOf, Cond.code yX3_firstOf cX3_firstOf 2 (some .int), Cond.methodLink RX3 39 yX3_secondOf, Cond.instanceMethod yX3_secondOf, Cond.selects RX3 yX3_secondOf yX3_secondOf, Cond.code yX3_secondOf cX3_secondOf 2 (some .int), Cond.methodLink RX3 82 yX3_pairSquare]
def wsX3_worstPair_r2 : List Cond := [Cond.instanceMethod yX3_pairSquare, Cond.selects RX3 yX3_pairSquare yX3_pairSquare, Cond.code yX3_pairSquare cX3_pairSquare 15 (some .long), Cond.methodLink RX3 90 yX3_kindOf, Cond.instanceMethod yX3_kindOf, Cond.selects RX3 yX3_kindOf yX3_kindOf, Cond.code yX3_kindOf cX3_kindOf 9 (some .int)]
def wsX3_worstPair : List Cond := .code yX3_worstPair cX3_worstPair 6 (some .int) :: ((wsX3_worstPair_r1 ++ wsX3_worstPair_r2) ++ wsX30)
def wsX3_size : List Cond := .code yX3_size cX3_size 1 (some .int) :: ([])
def wsX3_search_r1 : List Cond := [Cond.fieldLink RX3 156 "PlateBeatsModel" "fewest" "I", Cond.fieldLink RX3 7 "PlateBeatsModel" "p" "[I", Cond.methodLink RX3 35 yX3_firstOf, Cond.instanceMethod yX3_firstOf, Cond.selects RX3 yX3_firstOf yX3_firstOf, Cond.initialized RX3, Cond.code yX3_firstOf cX3_firstOf 2 (some .int), Cond.methodLink RX3 39 yX3_secondOf, Cond.instanceMethod yX3_secondOf, Cond.selects RX3 yX3_secondOf yX3_secondOf, Cond.code yX3_secondOf cX3_secondOf 2 (some .int), Cond.methodLink RX3 49 yX3_areaOf, Cond.instanceMethod yX3_areaOf, Cond.selects RX3 yX3_areaOf yX3_areaOf, Cond.code yX3_areaOf cX3_areaOf 2 (some .int), Cond.methodLink RX3 27 yX3_in, Cond.static yX3_in, Cond.code yX3_in cX3_in 3 (some .boolean), Cond.methodLink RX3 152 yX3_findAll, Cond.instanceMethod yX3_findAll, Cond.selects RX3 yX3_findAll yX3_findAll, Cond.code yX3_findAll cX3_findAll 6 (some .int), Cond.fieldLink RX3 142 "PlateBeatsModel" "worst" "I", Cond.fieldLink RX3 145 "PlateBeatsModel" "worstSet" "I"]
def wsX3_search_r2 : List Cond := [Cond.methodLink RX3 128 yX3_ofKind, Cond.instanceMethod yX3_ofKind, Cond.selects RX3 yX3_ofKind yX3_ofKind, Cond.code yX3_ofKind cX3_ofKind 17 (some .int), Cond.fieldLink RX3 124 "PlateBeatsModel" "widest" "J", Cond.methodLink RX3 86 yX3_pairBase, Cond.instanceMethod yX3_pairBase, Cond.selects RX3 yX3_pairBase yX3_pairBase, Cond.code yX3_pairBase cX3_pairBase 5 (some .long), Cond.methodLink RX3 82 yX3_pairSquare, Cond.instanceMethod yX3_pairSquare, Cond.selects RX3 yX3_pairSquare yX3_pairSquare, Cond.code yX3_pairSquare cX3_pairSquare 15 (some .long), Cond.methodLink RX3 90 yX3_kindOf, Cond.instanceMethod yX3_kindOf, Cond.selects RX3 yX3_kindOf yX3_kindOf, Cond.code yX3_kindOf cX3_kindOf 9 (some .int), Cond.methodLink RX3 148 yX3_note, Cond.instanceMethod yX3_note, Cond.selects RX3 yX3_note yX3_note, Cond.code yX3_note cX3_note 4 none, Cond.methodLink RX3 117 yX3_periodOf, Cond.static yX3_periodOf, Cond.code yX3_periodOf cX3_periodOf 13 (some .int)]
def wsX3_search_r3 : List Cond := [Cond.constantLong RX3 66 (600000000), Cond.constantLong RX3 68 (2), Cond.methodLink RX3 70 yX3_isPair, Cond.instanceMethod yX3_isPair, Cond.selects RX3 yX3_isPair yX3_isPair, Cond.code yX3_isPair cX3_isPair 3 (some .boolean), Cond.methodLink RX3 31 yX3_isPlate, Cond.instanceMethod yX3_isPlate, Cond.selects RX3 yX3_isPlate yX3_isPlate, Cond.code yX3_isPlate cX3_isPlate 2 (some .boolean), Cond.methodLink RX3 139 yX3_bandsOfThree, Cond.instanceMethod yX3_bandsOfThree, Cond.selects RX3 yX3_bandsOfThree yX3_bandsOfThree, Cond.code yX3_bandsOfThree cX3_bandsOfThree 11 (some .int), Cond.methodLink RX3 132 yX3_tripleBase, Cond.instanceMethod yX3_tripleBase, Cond.selects RX3 yX3_tripleBase yX3_tripleBase, Cond.code yX3_tripleBase cX3_tripleBase 6 (some .long), Cond.methodLink RX3 136 yX3_tripleSquare, Cond.instanceMethod yX3_tripleSquare, Cond.selects RX3 yX3_tripleSquare yX3_tripleSquare, Cond.code yX3_tripleSquare cX3_tripleSquare 15 (some .long), Cond.methodLink RX3 62 yX3_part, Cond.instanceMethod yX3_part]
def wsX3_search_r4 : List Cond := [Cond.selects RX3 yX3_part yX3_part, Cond.code yX3_part cX3_part 5 (some .int), Cond.methodLink RX3 159 yX3_size, Cond.static yX3_size, Cond.code yX3_size cX3_size 1 (some .int)]
def wsX3_search : List Cond := .code yX3_search cX3_search 14 (some .int) :: ((wsX3_search_r1 ++ (wsX3_search_r2 ++ (wsX3_search_r3 ++ wsX3_search_r4))) ++ wsX30)
def wsX3_isRange : List Cond := .code yX3_isRange cX3_isRange 4 (some .boolean) :: ([.methodLink RX3 31 yX3_isPlate, .instanceMethod yX3_isPlate, .selects RX3 yX3_isPlate yX3_isPlate, .initialized RX3, .code yX3_isPlate cX3_isPlate 2 (some .boolean), .fieldLink RX3 7 "PlateBeatsModel" "p" "[I", .methodLink RX3 27 yX3_in, .static yX3_in, .code yX3_in cX3_in 3 (some .boolean)] ++ wsX30)
def wsX3_bestScreen_r1 : List Cond := [Cond.methodLink RX3 162 yX3_isRange, Cond.instanceMethod yX3_isRange, Cond.selects RX3 yX3_isRange yX3_isRange, Cond.initialized RX3, Cond.code yX3_isRange cX3_isRange 4 (some .boolean), Cond.methodLink RX3 31 yX3_isPlate, Cond.instanceMethod yX3_isPlate, Cond.selects RX3 yX3_isPlate yX3_isPlate, Cond.code yX3_isPlate cX3_isPlate 2 (some .boolean), Cond.fieldLink RX3 7 "PlateBeatsModel" "p" "[I", Cond.methodLink RX3 27 yX3_in, Cond.static yX3_in, Cond.code yX3_in cX3_in 3 (some .boolean), Cond.methodLink RX3 165 yX3_search, Cond.instanceMethod yX3_search, Cond.selects RX3 yX3_search yX3_search, Cond.code yX3_search cX3_search 14 (some .int), Cond.fieldLink RX3 156 "PlateBeatsModel" "fewest" "I", Cond.methodLink RX3 35 yX3_firstOf, Cond.instanceMethod yX3_firstOf, Cond.selects RX3 yX3_firstOf yX3_firstOf, Cond.code yX3_firstOf cX3_firstOf 2 (some .int), Cond.methodLink RX3 39 yX3_secondOf, Cond.instanceMethod yX3_secondOf]
def wsX3_bestScreen_r2 : List Cond := [Cond.selects RX3 yX3_secondOf yX3_secondOf, Cond.code yX3_secondOf cX3_secondOf 2 (some .int), Cond.methodLink RX3 49 yX3_areaOf, Cond.instanceMethod yX3_areaOf, Cond.selects RX3 yX3_areaOf yX3_areaOf, Cond.code yX3_areaOf cX3_areaOf 2 (some .int), Cond.methodLink RX3 152 yX3_findAll, Cond.instanceMethod yX3_findAll, Cond.selects RX3 yX3_findAll yX3_findAll, Cond.code yX3_findAll cX3_findAll 6 (some .int), Cond.fieldLink RX3 142 "PlateBeatsModel" "worst" "I", Cond.fieldLink RX3 145 "PlateBeatsModel" "worstSet" "I", Cond.methodLink RX3 128 yX3_ofKind, Cond.instanceMethod yX3_ofKind, Cond.selects RX3 yX3_ofKind yX3_ofKind, Cond.code yX3_ofKind cX3_ofKind 17 (some .int), Cond.fieldLink RX3 124 "PlateBeatsModel" "widest" "J", Cond.methodLink RX3 86 yX3_pairBase, Cond.instanceMethod yX3_pairBase, Cond.selects RX3 yX3_pairBase yX3_pairBase, Cond.code yX3_pairBase cX3_pairBase 5 (some .long), Cond.methodLink RX3 82 yX3_pairSquare, Cond.instanceMethod yX3_pairSquare, Cond.selects RX3 yX3_pairSquare yX3_pairSquare]
def wsX3_bestScreen_r3 : List Cond := [Cond.code yX3_pairSquare cX3_pairSquare 15 (some .long), Cond.methodLink RX3 90 yX3_kindOf, Cond.instanceMethod yX3_kindOf, Cond.selects RX3 yX3_kindOf yX3_kindOf, Cond.code yX3_kindOf cX3_kindOf 9 (some .int), Cond.methodLink RX3 148 yX3_note, Cond.instanceMethod yX3_note, Cond.selects RX3 yX3_note yX3_note, Cond.code yX3_note cX3_note 4 none, Cond.methodLink RX3 117 yX3_periodOf, Cond.static yX3_periodOf, Cond.code yX3_periodOf cX3_periodOf 13 (some .int), Cond.constantLong RX3 66 (600000000), Cond.constantLong RX3 68 (2), Cond.methodLink RX3 70 yX3_isPair, Cond.instanceMethod yX3_isPair, Cond.selects RX3 yX3_isPair yX3_isPair, Cond.code yX3_isPair cX3_isPair 3 (some .boolean), Cond.methodLink RX3 139 yX3_bandsOfThree, Cond.instanceMethod yX3_bandsOfThree, Cond.selects RX3 yX3_bandsOfThree yX3_bandsOfThree, Cond.code yX3_bandsOfThree cX3_bandsOfThree 11 (some .int), Cond.methodLink RX3 132 yX3_tripleBase, Cond.instanceMethod yX3_tripleBase]
def wsX3_bestScreen_r4 : List Cond := [Cond.selects RX3 yX3_tripleBase yX3_tripleBase, Cond.code yX3_tripleBase cX3_tripleBase 6 (some .long), Cond.methodLink RX3 136 yX3_tripleSquare, Cond.instanceMethod yX3_tripleSquare, Cond.selects RX3 yX3_tripleSquare yX3_tripleSquare, Cond.code yX3_tripleSquare cX3_tripleSquare 15 (some .long), Cond.methodLink RX3 62 yX3_part, Cond.instanceMethod yX3_part, Cond.selects RX3 yX3_part yX3_part, Cond.code yX3_part cX3_part 5 (some .int), Cond.methodLink RX3 159 yX3_size, Cond.static yX3_size, Cond.code yX3_size cX3_size 1 (some .int)]
def wsX3_bestScreen : List Cond := .code yX3_bestScreen cX3_bestScreen 4 (some .int) :: ((wsX3_bestScreen_r1 ++ (wsX3_bestScreen_r2 ++ (wsX3_bestScreen_r3 ++ wsX3_bestScreen_r4))) ++ wsX30)
def wsX3_bandsWithBest_r1 : List Cond := [Cond.fieldLink RX3 156 "PlateBeatsModel" "fewest" "I", Cond.methodLink RX3 162 yX3_isRange, Cond.instanceMethod yX3_isRange, Cond.selects RX3 yX3_isRange yX3_isRange, Cond.initialized RX3, Cond.code yX3_isRange cX3_isRange 4 (some .boolean), Cond.methodLink RX3 31 yX3_isPlate, Cond.instanceMethod yX3_isPlate, Cond.selects RX3 yX3_isPlate yX3_isPlate, Cond.code yX3_isPlate cX3_isPlate 2 (some .boolean), Cond.fieldLink RX3 7 "PlateBeatsModel" "p" "[I", Cond.methodLink RX3 27 yX3_in, Cond.static yX3_in, Cond.code yX3_in cX3_in 3 (some .boolean), Cond.methodLink RX3 165 yX3_search, Cond.instanceMethod yX3_search, Cond.selects RX3 yX3_search yX3_search, Cond.code yX3_search cX3_search 14 (some .int), Cond.methodLink RX3 35 yX3_firstOf, Cond.instanceMethod yX3_firstOf, Cond.selects RX3 yX3_firstOf yX3_firstOf, Cond.code yX3_firstOf cX3_firstOf 2 (some .int), Cond.methodLink RX3 39 yX3_secondOf, Cond.instanceMethod yX3_secondOf]
def wsX3_bandsWithBest_r2 : List Cond := [Cond.selects RX3 yX3_secondOf yX3_secondOf, Cond.code yX3_secondOf cX3_secondOf 2 (some .int), Cond.methodLink RX3 49 yX3_areaOf, Cond.instanceMethod yX3_areaOf, Cond.selects RX3 yX3_areaOf yX3_areaOf, Cond.code yX3_areaOf cX3_areaOf 2 (some .int), Cond.methodLink RX3 152 yX3_findAll, Cond.instanceMethod yX3_findAll, Cond.selects RX3 yX3_findAll yX3_findAll, Cond.code yX3_findAll cX3_findAll 6 (some .int), Cond.fieldLink RX3 142 "PlateBeatsModel" "worst" "I", Cond.fieldLink RX3 145 "PlateBeatsModel" "worstSet" "I", Cond.methodLink RX3 128 yX3_ofKind, Cond.instanceMethod yX3_ofKind, Cond.selects RX3 yX3_ofKind yX3_ofKind, Cond.code yX3_ofKind cX3_ofKind 17 (some .int), Cond.fieldLink RX3 124 "PlateBeatsModel" "widest" "J", Cond.methodLink RX3 86 yX3_pairBase, Cond.instanceMethod yX3_pairBase, Cond.selects RX3 yX3_pairBase yX3_pairBase, Cond.code yX3_pairBase cX3_pairBase 5 (some .long), Cond.methodLink RX3 82 yX3_pairSquare, Cond.instanceMethod yX3_pairSquare, Cond.selects RX3 yX3_pairSquare yX3_pairSquare]
def wsX3_bandsWithBest_r3 : List Cond := [Cond.code yX3_pairSquare cX3_pairSquare 15 (some .long), Cond.methodLink RX3 90 yX3_kindOf, Cond.instanceMethod yX3_kindOf, Cond.selects RX3 yX3_kindOf yX3_kindOf, Cond.code yX3_kindOf cX3_kindOf 9 (some .int), Cond.methodLink RX3 148 yX3_note, Cond.instanceMethod yX3_note, Cond.selects RX3 yX3_note yX3_note, Cond.code yX3_note cX3_note 4 none, Cond.methodLink RX3 117 yX3_periodOf, Cond.static yX3_periodOf, Cond.code yX3_periodOf cX3_periodOf 13 (some .int), Cond.constantLong RX3 66 (600000000), Cond.constantLong RX3 68 (2), Cond.methodLink RX3 70 yX3_isPair, Cond.instanceMethod yX3_isPair, Cond.selects RX3 yX3_isPair yX3_isPair, Cond.code yX3_isPair cX3_isPair 3 (some .boolean), Cond.methodLink RX3 139 yX3_bandsOfThree, Cond.instanceMethod yX3_bandsOfThree, Cond.selects RX3 yX3_bandsOfThree yX3_bandsOfThree, Cond.code yX3_bandsOfThree cX3_bandsOfThree 11 (some .int), Cond.methodLink RX3 132 yX3_tripleBase, Cond.instanceMethod yX3_tripleBase]
def wsX3_bandsWithBest_r4 : List Cond := [Cond.selects RX3 yX3_tripleBase yX3_tripleBase, Cond.code yX3_tripleBase cX3_tripleBase 6 (some .long), Cond.methodLink RX3 136 yX3_tripleSquare, Cond.instanceMethod yX3_tripleSquare, Cond.selects RX3 yX3_tripleSquare yX3_tripleSquare, Cond.code yX3_tripleSquare cX3_tripleSquare 15 (some .long), Cond.methodLink RX3 62 yX3_part, Cond.instanceMethod yX3_part, Cond.selects RX3 yX3_part yX3_part, Cond.code yX3_part cX3_part 5 (some .int), Cond.methodLink RX3 159 yX3_size, Cond.static yX3_size, Cond.code yX3_size cX3_size 1 (some .int)]
def wsX3_bandsWithBest : List Cond := .code yX3_bandsWithBest cX3_bandsWithBest 5 (some .int) :: ((wsX3_bandsWithBest_r1 ++ (wsX3_bandsWithBest_r2 ++ (wsX3_bandsWithBest_r3 ++ wsX3_bandsWithBest_r4))) ++ wsX30)
def wsX3_save : List Cond := .code yX3_save cX3_save 3 (some .int) :: ([.fieldLink RX3 16 "PlateBeatsModel" "slots" "[I", .fieldLink RX3 7 "PlateBeatsModel" "p" "[I", .methodLink RX3 27 yX3_in, .static yX3_in, .initialized RX3, .code yX3_in cX3_in 3 (some .boolean)] ++ wsX30)
def wsX3_restore : List Cond := .code yX3_restore cX3_restore 3 (some .int) :: ([.fieldLink RX3 16 "PlateBeatsModel" "slots" "[I", .fieldLink RX3 7 "PlateBeatsModel" "p" "[I", .methodLink RX3 27 yX3_in, .static yX3_in, .initialized RX3, .code yX3_in cX3_in 3 (some .boolean), .methodLink RX3 46 yX3_records, .instanceMethod yX3_records, .selects RX3 yX3_records yX3_records, .code yX3_records cX3_records 2 none, .fieldLink RX3 23 "PlateBeatsModel" "states" "I", .fieldLink RX3 13 "PlateBeatsModel" "saved" "[I"] ++ wsX30)
def wsX3_historySize : List Cond := .code yX3_historySize cX3_historySize 1 (some .int) :: ([.fieldLink RX3 23 "PlateBeatsModel" "states" "I"] ++ wsX30)
def wsX3_undo : List Cond := .code yX3_undo cX3_undo 2 (some .int) :: ([.fieldLink RX3 23 "PlateBeatsModel" "states" "I", .fieldLink RX3 7 "PlateBeatsModel" "p" "[I", .fieldLink RX3 13 "PlateBeatsModel" "saved" "[I"] ++ wsX30)
def wsJ9_abs_0f7a4 : List Cond := .code yJ9_abs_0f7a4 cJ9_abs_0f7a4 1 (some .int) :: ([])
def wsL_law_r1 : List Cond := [Cond.classLink RL 7 RX2, Cond.instantiable RX2 7, Cond.initialized RX2, Cond.classLink RL 10 RX3, Cond.instantiable RX3 10, Cond.initialized RX3, Cond.methodLink RL 9 yX2_init, Cond.instanceMethod yX2_init, Cond.code yX2_init cX2_init 2 none, Cond.methodLink RX2 1 objectInit, Cond.instanceMethod objectInit, Cond.code objectInit ⟨#[0xb1]⟩ 1 none, Cond.classLink RX2 7 RX1, Cond.instantiable RX1 6, Cond.initialized RX1, Cond.fieldLink RX2 10 "PlateBeats" "present" "LPlateBeats$State;", Cond.fieldLink RX2 16 "PlateBeats" "trial" "LPlateBeats$State;", Cond.fieldLink RX2 19 "PlateBeats" "history" "[LPlateBeats$State;", Cond.fieldLink RX2 23 "PlateBeats" "slots" "[LPlateBeats$State;", Cond.arrayClass .boolean, Cond.fieldLink RX2 26 "PlateBeats" "slotFilled" "[Z", Cond.classLink RX2 30 RX0, Cond.instantiable RX0 5, Cond.initialized RX0]
def wsL_law_r2 : List Cond := [Cond.fieldLink RX2 33 "PlateBeats" "group" "LPlateBeats$Group;", Cond.instanceMethod yX1_init, Cond.code yX1_init cX1_init 1 none, Cond.methodLink RX1 3 objectInit, Cond.arrayClass .int, Cond.fieldLink RX1 9 "PlateBeats$State" "p" "[I", Cond.fieldLink RX1 15 "PlateBeats$State" "q" "[I", Cond.fieldLink RX1 18 "PlateBeats$State" "count" "I", Cond.fieldLink RX1 22 "PlateBeats$State" "order" "I", Cond.fieldLink RX1 25 "PlateBeats$State" "fineLimit" "I", Cond.fieldLink RX1 28 "PlateBeats$State" "longLimit" "I", Cond.instanceMethod yX0_init, Cond.code yX0_init cX0_init 1 none, Cond.methodLink RX0 3 objectInit, Cond.fieldLink RX0 9 "PlateBeats$Group" "norms" "[I", Cond.fieldLink RX0 15 "PlateBeats$Group" "areas" "J", Cond.fieldLink RX0 19 "PlateBeats$Group" "leastFine" "J", Cond.fieldLink RX0 22 "PlateBeats$Group" "greatestLong" "J", Cond.methodLink RL 12 yX3_init, Cond.instanceMethod yX3_init, Cond.code yX3_init cX3_init 1 none, Cond.methodLink RX3 1 objectInit, Cond.fieldLink RX3 7 "PlateBeatsModel" "p" "[I", Cond.fieldLink RX3 13 "PlateBeatsModel" "saved" "[I"]
def wsL_law_r3 : List Cond := [Cond.fieldLink RX3 16 "PlateBeatsModel" "slots" "[I", Cond.arrayClass .long, Cond.fieldLink RX3 19 "PlateBeatsModel" "square" "[J", Cond.methodLink RL 13 yX2_addPlate, Cond.instanceMethod yX2_addPlate, Cond.selects RX2 yX2_addPlate yX2_addPlate, Cond.code yX2_addPlate cX2_addPlate 3 (some .int), Cond.methodLink RX2 37 yX2_isScreen, Cond.static yX2_isScreen, Cond.code yX2_isScreen cX2_isScreen 2 (some .boolean), Cond.methodLink RX2 45 yX2_record, Cond.instanceMethod yX2_record, Cond.selects RX2 yX2_record yX2_record, Cond.code yX2_record cX2_record 1 none, Cond.fieldLink RX2 202 "PlateBeats" "historyCount" "I", Cond.methodLink RX2 205 yX2_dropOldest, Cond.instanceMethod yX2_dropOldest, Cond.selects RX2 yX2_dropOldest yX2_dropOldest, Cond.code yX2_dropOldest cX2_dropOldest 3 none, Cond.methodLink RX2 190 yX2_copy, Cond.static yX2_copy, Cond.code yX2_copy cX2_copy 3 none, Cond.instanceMethod yX1_append, Cond.selects RX1 yX1_append yX1_append]
def wsL_law_r4 : List Cond := [Cond.code yX1_append cX1_append 3 none, Cond.methodLink RX1 42 yX1_put, Cond.instanceMethod yX1_put, Cond.selects RX1 yX1_put yX1_put, Cond.code yX1_put cX1_put 4 none, Cond.methodLink RX1 31 yX1_has, Cond.instanceMethod yX1_has, Cond.selects RX1 yX1_has yX1_has, Cond.code yX1_has cX1_has 2 (some .boolean), Cond.methodLink RL 17 yX3_addPlate, Cond.instanceMethod yX3_addPlate, Cond.selects RX3 yX3_addPlate yX3_addPlate, Cond.code yX3_addPlate cX3_addPlate 4 (some .int), Cond.methodLink RX3 42 yX3_isVector, Cond.static yX3_isVector, Cond.code yX3_isVector cX3_isVector 2 (some .boolean), Cond.methodLink RX3 27 yX3_in, Cond.static yX3_in, Cond.code yX3_in cX3_in 3 (some .boolean), Cond.methodLink RX3 46 yX3_records, Cond.instanceMethod yX3_records, Cond.selects RX3 yX3_records yX3_records, Cond.code yX3_records cX3_records 2 none, Cond.fieldLink RX3 23 "PlateBeatsModel" "states" "I"]
def wsL_law_r5 : List Cond := [Cond.methodLink RL 18 yX2_setScreen, Cond.instanceMethod yX2_setScreen, Cond.selects RX2 yX2_setScreen yX2_setScreen, Cond.code yX2_setScreen cX2_setScreen 5 (some .int), Cond.instanceMethod yX1_areaOf, Cond.selects RX1 yX1_areaOf yX1_areaOf, Cond.code yX1_areaOf cX1_areaOf 2 (some .int), Cond.methodLink RX1 35 yX1_pOf, Cond.instanceMethod yX1_pOf, Cond.selects RX1 yX1_pOf yX1_pOf, Cond.code yX1_pOf cX1_pOf 2 (some .int), Cond.methodLink RX1 39 yX1_qOf, Cond.instanceMethod yX1_qOf, Cond.selects RX1 yX1_qOf yX1_qOf, Cond.code yX1_qOf cX1_qOf 2 (some .int), Cond.methodLink RL 22 yX3_setScreen, Cond.instanceMethod yX3_setScreen, Cond.selects RX3 yX3_setScreen yX3_setScreen, Cond.code yX3_setScreen cX3_setScreen 5 (some .int), Cond.methodLink RX3 31 yX3_isPlate, Cond.instanceMethod yX3_isPlate, Cond.selects RX3 yX3_isPlate yX3_isPlate, Cond.code yX3_isPlate cX3_isPlate 2 (some .boolean), Cond.methodLink RX3 49 yX3_areaOf]
def wsL_law_r6 : List Cond := [Cond.instanceMethod yX3_areaOf, Cond.selects RX3 yX3_areaOf yX3_areaOf, Cond.code yX3_areaOf cX3_areaOf 2 (some .int), Cond.methodLink RX3 35 yX3_firstOf, Cond.instanceMethod yX3_firstOf, Cond.selects RX3 yX3_firstOf yX3_firstOf, Cond.code yX3_firstOf cX3_firstOf 2 (some .int), Cond.methodLink RX3 39 yX3_secondOf, Cond.instanceMethod yX3_secondOf, Cond.selects RX3 yX3_secondOf yX3_secondOf, Cond.code yX3_secondOf cX3_secondOf 2 (some .int), Cond.methodLink RL 23 yX2_removePlate, Cond.instanceMethod yX2_removePlate, Cond.selects RX2 yX2_removePlate yX2_removePlate, Cond.code yX2_removePlate cX2_removePlate 2 (some .int), Cond.instanceMethod yX1_drop, Cond.selects RX1 yX1_drop yX1_drop, Cond.code yX1_drop cX1_drop 3 none, Cond.methodLink RL 27 yX3_removePlate, Cond.instanceMethod yX3_removePlate, Cond.selects RX3 yX3_removePlate yX3_removePlate, Cond.code yX3_removePlate cX3_removePlate 3 (some .int), Cond.methodLink RL 28 yX2_plateCount, Cond.instanceMethod yX2_plateCount]
def wsL_law_r7 : List Cond := [Cond.selects RX2 yX2_plateCount yX2_plateCount, Cond.code yX2_plateCount cX2_plateCount 1 (some .int), Cond.methodLink RL 32 yX3_plateCount, Cond.instanceMethod yX3_plateCount, Cond.selects RX3 yX3_plateCount yX3_plateCount, Cond.code yX3_plateCount cX3_plateCount 1 (some .int), Cond.methodLink RL 33 yX2_cellP, Cond.instanceMethod yX2_cellP, Cond.selects RX2 yX2_cellP yX2_cellP, Cond.code yX2_cellP cX2_cellP 2 (some .int), Cond.methodLink RL 36 yX3_cellP, Cond.instanceMethod yX3_cellP, Cond.selects RX3 yX3_cellP yX3_cellP, Cond.code yX3_cellP cX3_cellP 2 (some .int), Cond.methodLink RL 37 yX2_cellQ, Cond.instanceMethod yX2_cellQ, Cond.selects RX2 yX2_cellQ yX2_cellQ, Cond.code yX2_cellQ cX2_cellQ 2 (some .int), Cond.methodLink RL 40 yX3_cellQ, Cond.instanceMethod yX3_cellQ, Cond.selects RX3 yX3_cellQ yX3_cellQ, Cond.code yX3_cellQ cX3_cellQ 2 (some .int), Cond.methodLink RL 41 yX2_cellArea, Cond.instanceMethod yX2_cellArea]
def wsL_law_r8 : List Cond := [Cond.selects RX2 yX2_cellArea yX2_cellArea, Cond.code yX2_cellArea cX2_cellArea 2 (some .int), Cond.methodLink RL 44 yX3_cellArea, Cond.instanceMethod yX3_cellArea, Cond.selects RX3 yX3_cellArea yX3_cellArea, Cond.code yX3_cellArea cX3_cellArea 2 (some .int), Cond.methodLink RL 45 yX2_tile, Cond.instanceMethod yX2_tile, Cond.selects RX2 yX2_tile yX2_tile, Cond.code yX2_tile cX2_tile 2 (some .int), Cond.methodLink RX2 74 yX2_tileOf, Cond.instanceMethod yX2_tileOf, Cond.selects RX2 yX2_tileOf yX2_tileOf, Cond.code yX2_tileOf cX2_tileOf 2 (some .long), Cond.methodLink RX2 78 yX2_gcd, Cond.static yX2_gcd, Cond.code yX2_gcd cX2_gcd 11 (some .long), Cond.methodLink RX2 82 yX2_divided, Cond.static yX2_divided, Cond.code yX2_divided cX2_divided 4 (some .long), Cond.methodLink RL 48 yX3_tile, Cond.instanceMethod yX3_tile, Cond.selects RX3 yX3_tile yX3_tile, Cond.code yX3_tile cX3_tile 2 (some .int)]
def wsL_law_r9 : List Cond := [Cond.methodLink RX3 56 yX3_tileOf, Cond.instanceMethod yX3_tileOf, Cond.selects RX3 yX3_tileOf yX3_tileOf, Cond.code yX3_tileOf cX3_tileOf 2 (some .int), Cond.methodLink RX3 52 yX3_common, Cond.static yX3_common, Cond.code yX3_common cX3_common 10 (some .long), Cond.methodLink RL 49 yX2_commonTile, Cond.instanceMethod yX2_commonTile, Cond.selects RX2 yX2_commonTile yX2_commonTile, Cond.code yX2_commonTile cX2_commonTile 6 (some .long), Cond.methodLink RL 53 yX3_commonTile, Cond.instanceMethod yX3_commonTile, Cond.selects RX3 yX3_commonTile yX3_commonTile, Cond.code yX3_commonTile cX3_commonTile 4 (some .long), Cond.methodLink RL 54 yX2_byAngle, Cond.instanceMethod yX2_byAngle, Cond.selects RX2 yX2_byAngle yX2_byAngle, Cond.code yX2_byAngle cX2_byAngle 3 (some .int), Cond.methodLink RX2 85 yX2_platesBefore, Cond.instanceMethod yX2_platesBefore, Cond.selects RX2 yX2_platesBefore yX2_platesBefore, Cond.code yX2_platesBefore cX2_platesBefore 6 (some .int), Cond.methodLink RL 57 yX3_byAngle]
def wsL_law_r10 : List Cond := [Cond.instanceMethod yX3_byAngle, Cond.selects RX3 yX3_byAngle yX3_byAngle, Cond.code yX3_byAngle cX3_byAngle 5 (some .int), Cond.methodLink RX3 59 yX3_isAhead, Cond.instanceMethod yX3_isAhead, Cond.selects RX3 yX3_isAhead yX3_isAhead, Cond.code yX3_isAhead cX3_isAhead 5 (some .boolean), Cond.methodLink RL 58 yX2_setOrder, Cond.instanceMethod yX2_setOrder, Cond.selects RX2 yX2_setOrder yX2_setOrder, Cond.code yX2_setOrder cX2_setOrder 3 (some .int), Cond.methodLink RL 61 yX3_setOrder, Cond.instanceMethod yX3_setOrder, Cond.selects RX3 yX3_setOrder yX3_setOrder, Cond.code yX3_setOrder cX3_setOrder 3 (some .int), Cond.methodLink RL 62 yX2_setLimits, Cond.instanceMethod yX2_setLimits, Cond.selects RX2 yX2_setLimits yX2_setLimits, Cond.code yX2_setLimits cX2_setLimits 4 (some .int), Cond.methodLink RL 65 yX3_setLimits, Cond.instanceMethod yX3_setLimits, Cond.selects RX3 yX3_setLimits yX3_setLimits, Cond.code yX3_setLimits cX3_setLimits 4 (some .int), Cond.methodLink RL 66 yX2_longLimit]
def wsL_law_r11 : List Cond := [Cond.instanceMethod yX2_longLimit, Cond.selects RX2 yX2_longLimit yX2_longLimit, Cond.code yX2_longLimit cX2_longLimit 1 (some .int), Cond.methodLink RL 69 yX3_longLimit, Cond.instanceMethod yX3_longLimit, Cond.selects RX3 yX3_longLimit yX3_longLimit, Cond.code yX3_longLimit cX3_longLimit 1 (some .int), Cond.methodLink RL 70 yX2_squareNumerator, Cond.instanceMethod yX2_squareNumerator, Cond.selects RX2 yX2_squareNumerator yX2_squareNumerator, Cond.code yX2_squareNumerator cX2_squareNumerator 7 (some .long), Cond.constantLong RX2 101 (-1), Cond.methodLink RX2 97 yX2_isCombination, Cond.instanceMethod yX2_isCombination, Cond.selects RX2 yX2_isCombination yX2_isCombination, Cond.code yX2_isCombination cX2_isCombination 7 (some .boolean), Cond.instanceMethod yX1_hasPair, Cond.selects RX1 yX1_hasPair yX1_hasPair, Cond.code yX1_hasPair cX1_hasPair 3 (some .boolean), Cond.instanceMethod yX1_isFactorPair, Cond.selects RX1 yX1_isFactorPair yX1_isFactorPair, Cond.code yX1_isFactorPair cX1_isFactorPair 3 (some .boolean), Cond.instanceMethod yX0_startPair, Cond.selects RX0 yX0_startPair yX0_startPair]
def wsL_law_r12 : List Cond := [Cond.code yX0_startPair cX0_startPair 4 none, Cond.methodLink RX0 31 yX0_start, Cond.instanceMethod yX0_start, Cond.selects RX0 yX0_start yX0_start, Cond.code yX0_start cX0_start 8 none, Cond.fieldLink RX0 35 "PlateBeats$Group" "size" "I", Cond.instanceMethod yX1_pairNorm, Cond.selects RX1 yX1_pairNorm yX1_pairNorm, Cond.code yX1_pairNorm cX1_pairNorm 9 (some .int), Cond.static yX2_realPart, Cond.code yX2_realPart cX2_realPart 4 (some .int), Cond.static yX2_imaginaryPart, Cond.code yX2_imaginaryPart cX2_imaginaryPart 4 (some .int), Cond.instanceMethod yX0_numerator, Cond.selects RX0 yX0_numerator yX0_numerator, Cond.code yX0_numerator cX0_numerator 2 (some .long), Cond.methodLink RL 74 yX3_squareNumerator, Cond.instanceMethod yX3_squareNumerator, Cond.selects RX3 yX3_squareNumerator yX3_squareNumerator, Cond.code yX3_squareNumerator cX3_squareNumerator 9 (some .long), Cond.constantLong RX3 80 (-1), Cond.methodLink RX3 76 yX3_isCombination, Cond.instanceMethod yX3_isCombination, Cond.selects RX3 yX3_isCombination yX3_isCombination]
def wsL_law_r13 : List Cond := [Cond.code yX3_isCombination cX3_isCombination 7 (some .boolean), Cond.methodLink RX3 70 yX3_isPair, Cond.instanceMethod yX3_isPair, Cond.selects RX3 yX3_isPair yX3_isPair, Cond.code yX3_isPair cX3_isPair 3 (some .boolean), Cond.methodLink RX3 73 yX3_isPart, Cond.instanceMethod yX3_isPart, Cond.selects RX3 yX3_isPart yX3_isPart, Cond.code yX3_isPart cX3_isPart 3 (some .boolean), Cond.methodLink RX3 82 yX3_pairSquare, Cond.instanceMethod yX3_pairSquare, Cond.selects RX3 yX3_pairSquare yX3_pairSquare, Cond.code yX3_pairSquare cX3_pairSquare 15 (some .long), Cond.methodLink RX3 86 yX3_pairBase, Cond.instanceMethod yX3_pairBase, Cond.selects RX3 yX3_pairBase yX3_pairBase, Cond.code yX3_pairBase cX3_pairBase 5 (some .long), Cond.methodLink RL 75 yX2_squareDenominator, Cond.instanceMethod yX2_squareDenominator, Cond.selects RX2 yX2_squareDenominator yX2_squareDenominator, Cond.code yX2_squareDenominator cX2_squareDenominator 7 (some .long), Cond.instanceMethod yX0_denominator, Cond.selects RX0 yX0_denominator yX0_denominator, Cond.code yX0_denominator cX0_denominator 2 (some .long)]
def wsL_law_r14 : List Cond := [Cond.methodLink RL 78 yX3_squareDenominator, Cond.instanceMethod yX3_squareDenominator, Cond.selects RX3 yX3_squareDenominator yX3_squareDenominator, Cond.code yX3_squareDenominator cX3_squareDenominator 9 (some .long), Cond.methodLink RL 79 yX2_kind, Cond.instanceMethod yX2_kind, Cond.selects RX2 yX2_kind yX2_kind, Cond.code yX2_kind cX2_kind 7 (some .int), Cond.instanceMethod yX0_kindOf, Cond.selects RX0 yX0_kindOf yX0_kindOf, Cond.code yX0_kindOf cX0_kindOf 2 (some .int), Cond.methodLink RL 83 yX3_kind, Cond.instanceMethod yX3_kind, Cond.selects RX3 yX3_kind yX3_kind, Cond.code yX3_kind cX3_kind 7 (some .int), Cond.methodLink RX3 90 yX3_kindOf, Cond.instanceMethod yX3_kindOf, Cond.selects RX3 yX3_kindOf yX3_kindOf, Cond.code yX3_kindOf cX3_kindOf 9 (some .int), Cond.methodLink RL 84 yX2_beatCount, Cond.instanceMethod yX2_beatCount, Cond.selects RX2 yX2_beatCount yX2_beatCount, Cond.code yX2_beatCount cX2_beatCount 3 (some .int), Cond.instanceMethod yX0_fillPair]
def wsL_law_r15 : List Cond := [Cond.selects RX0 yX0_fillPair yX0_fillPair, Cond.code yX0_fillPair cX0_fillPair 6 none, Cond.methodLink RX0 49 yX0_startPair, Cond.methodLink RX0 56 yX0_addAllFor, Cond.instanceMethod yX0_addAllFor, Cond.selects RX0 yX0_addAllFor yX0_addAllFor, Cond.code yX0_addAllFor cX0_addAllFor 14 none, Cond.methodLink RX0 73 yX0_add, Cond.instanceMethod yX0_add, Cond.selects RX0 yX0_add yX0_add, Cond.code yX0_add cX0_add 2 none, Cond.instanceMethod yX0_sort, Cond.selects RX0 yX0_sort yX0_sort, Cond.code yX0_sort cX0_sort 4 none, Cond.instanceMethod yX0_differentNorms, Cond.selects RX0 yX0_differentNorms yX0_differentNorms, Cond.code yX0_differentNorms cX0_differentNorms 3 (some .int), Cond.methodLink RL 87 yX3_beatCount, Cond.instanceMethod yX3_beatCount, Cond.selects RX3 yX3_beatCount yX3_beatCount, Cond.code yX3_beatCount cX3_beatCount 5 (some .int), Cond.fieldLink RX3 94 "PlateBeatsModel" "all" "I", Cond.methodLink RX3 108 yX3_laySquares, Cond.instanceMethod yX3_laySquares]
def wsL_law_r16 : List Cond := [Cond.selects RX3 yX3_laySquares yX3_laySquares, Cond.code yX3_laySquares cX3_laySquares 6 none, Cond.methodLink RX3 97 yX3_layWith, Cond.instanceMethod yX3_layWith, Cond.selects RX3 yX3_layWith yX3_layWith, Cond.code yX3_layWith cX3_layWith 8 none, Cond.methodLink RX3 101 yX3_insert, Cond.instanceMethod yX3_insert, Cond.selects RX3 yX3_insert yX3_insert, Cond.code yX3_insert cX3_insert 4 none, Cond.methodLink RX3 105 yX3_behind, Cond.instanceMethod yX3_behind, Cond.selects RX3 yX3_behind yX3_behind, Cond.code yX3_behind cX3_behind 3 (some .int), Cond.methodLink RL 88 yX2_beatNumerator, Cond.instanceMethod yX2_beatNumerator, Cond.selects RX2 yX2_beatNumerator yX2_beatNumerator, Cond.code yX2_beatNumerator cX2_beatNumerator 5 (some .long), Cond.methodLink RX2 133 yX2_normOfRank, Cond.instanceMethod yX2_normOfRank, Cond.selects RX2 yX2_normOfRank yX2_normOfRank, Cond.code yX2_normOfRank cX2_normOfRank 4 (some .int), Cond.instanceMethod yX0_normAt, Cond.selects RX0 yX0_normAt yX0_normAt]
def wsL_law_r17 : List Cond := [Cond.code yX0_normAt cX0_normAt 4 (some .int), Cond.methodLink RL 92 yX3_beatNumerator, Cond.instanceMethod yX3_beatNumerator, Cond.selects RX3 yX3_beatNumerator yX3_beatNumerator, Cond.code yX3_beatNumerator cX3_beatNumerator 4 (some .long), Cond.methodLink RX3 120 yX3_beat, Cond.instanceMethod yX3_beat, Cond.selects RX3 yX3_beat yX3_beat, Cond.code yX3_beat cX3_beat 10 (some .long), Cond.constantLong RX3 115 (-4), Cond.methodLink RX3 112 yX3_placeOf, Cond.instanceMethod yX3_placeOf, Cond.selects RX3 yX3_placeOf yX3_placeOf, Cond.code yX3_placeOf cX3_placeOf 4 (some .int), Cond.methodLink RX3 117 yX3_periodOf, Cond.static yX3_periodOf, Cond.code yX3_periodOf cX3_periodOf 13 (some .int), Cond.constantLong RX3 66 (600000000), Cond.constantLong RX3 68 (2), Cond.methodLink RL 93 yX2_beatDenominator, Cond.instanceMethod yX2_beatDenominator, Cond.selects RX2 yX2_beatDenominator yX2_beatDenominator, Cond.code yX2_beatDenominator cX2_beatDenominator 5 (some .long), Cond.methodLink RL 96 yX3_beatDenominator]
def wsL_law_r18 : List Cond := [Cond.instanceMethod yX3_beatDenominator, Cond.selects RX3 yX3_beatDenominator yX3_beatDenominator, Cond.code yX3_beatDenominator cX3_beatDenominator 4 (some .long), Cond.methodLink RL 97 yX2_beatFrequency, Cond.instanceMethod yX2_beatFrequency, Cond.selects RX2 yX2_beatFrequency yX2_beatFrequency, Cond.code yX2_beatFrequency cX2_beatFrequency 5 (some .int), Cond.instanceMethod yX0_combinationsWith, Cond.selects RX0 yX0_combinationsWith yX0_combinationsWith, Cond.code yX0_combinationsWith cX0_combinationsWith 4 (some .int), Cond.methodLink RL 100 yX3_beatFrequency, Cond.instanceMethod yX3_beatFrequency, Cond.selects RX3 yX3_beatFrequency yX3_beatFrequency, Cond.code yX3_beatFrequency cX3_beatFrequency 4 (some .int), Cond.methodLink RL 101 yX2_beatPeriod, Cond.instanceMethod yX2_beatPeriod, Cond.selects RX2 yX2_beatPeriod yX2_beatPeriod, Cond.code yX2_beatPeriod cX2_beatPeriod 5 (some .int), Cond.instanceMethod yX0_period, Cond.selects RX0 yX0_period yX0_period, Cond.code yX0_period cX0_period 2 (some .int), Cond.static yX2_root, Cond.code yX2_root cX2_root 6 (some .int), Cond.methodLink RL 104 yX3_beatPeriod]
def wsL_law_r19 : List Cond := [Cond.instanceMethod yX3_beatPeriod, Cond.selects RX3 yX3_beatPeriod yX3_beatPeriod, Cond.code yX3_beatPeriod cX3_beatPeriod 4 (some .int), Cond.methodLink RL 105 yX2_locked, Cond.instanceMethod yX2_locked, Cond.selects RX2 yX2_locked yX2_locked, Cond.code yX2_locked cX2_locked 3 (some .int), Cond.methodLink RL 108 yX3_locked, Cond.instanceMethod yX3_locked, Cond.selects RX3 yX3_locked yX3_locked, Cond.code yX3_locked cX3_locked 3 (some .int), Cond.methodLink RX3 128 yX3_ofKind, Cond.instanceMethod yX3_ofKind, Cond.selects RX3 yX3_ofKind yX3_ofKind, Cond.code yX3_ofKind cX3_ofKind 17 (some .int), Cond.fieldLink RX3 124 "PlateBeatsModel" "widest" "J", Cond.methodLink RL 109 yX2_bands, Cond.instanceMethod yX2_bands, Cond.selects RX2 yX2_bands yX2_bands, Cond.code yX2_bands cX2_bands 3 (some .int), Cond.methodLink RX2 143 yX2_pairBands, Cond.instanceMethod yX2_pairBands, Cond.selects RX2 yX2_pairBands yX2_pairBands, Cond.code yX2_pairBands cX2_pairBands 3 (some .int)]
def wsL_law_r20 : List Cond := [Cond.instanceMethod yX0_bandCount, Cond.selects RX0 yX0_bandCount yX0_bandCount, Cond.code yX0_bandCount cX0_bandCount 3 (some .int), Cond.methodLink RX0 95 yX0_kindOf, Cond.methodLink RL 112 yX3_bands, Cond.instanceMethod yX3_bands, Cond.selects RX3 yX3_bands yX3_bands, Cond.code yX3_bands cX3_bands 3 (some .int), Cond.methodLink RL 113 yX2_tripleBands, Cond.instanceMethod yX2_tripleBands, Cond.selects RX2 yX2_tripleBands yX2_tripleBands, Cond.code yX2_tripleBands cX2_tripleBands 4 (some .int), Cond.instanceMethod yX0_fillTriple, Cond.selects RX0 yX0_fillTriple yX0_fillTriple, Cond.code yX0_fillTriple cX0_fillTriple 16 none, Cond.methodLink RX0 77 yX0_productReal, Cond.static yX0_productReal, Cond.code yX0_productReal cX0_productReal 3 (some .int), Cond.methodLink RX0 81 yX0_productImaginary, Cond.static yX0_productImaginary, Cond.code yX0_productImaginary cX0_productImaginary 3 (some .int), Cond.methodLink RL 116 yX3_tripleBands, Cond.instanceMethod yX3_tripleBands, Cond.selects RX3 yX3_tripleBands yX3_tripleBands]
def wsL_law_r21 : List Cond := [Cond.code yX3_tripleBands cX3_tripleBands 4 (some .int), Cond.methodLink RX3 139 yX3_bandsOfThree, Cond.instanceMethod yX3_bandsOfThree, Cond.selects RX3 yX3_bandsOfThree yX3_bandsOfThree, Cond.code yX3_bandsOfThree cX3_bandsOfThree 11 (some .int), Cond.methodLink RX3 132 yX3_tripleBase, Cond.instanceMethod yX3_tripleBase, Cond.selects RX3 yX3_tripleBase yX3_tripleBase, Cond.code yX3_tripleBase cX3_tripleBase 6 (some .long), Cond.methodLink RX3 136 yX3_tripleSquare, Cond.instanceMethod yX3_tripleSquare, Cond.selects RX3 yX3_tripleSquare yX3_tripleSquare, Cond.code yX3_tripleSquare cX3_tripleSquare 15 (some .long), Cond.methodLink RX3 62 yX3_part, Cond.instanceMethod yX3_part, Cond.selects RX3 yX3_part yX3_part, Cond.code yX3_part cX3_part 5 (some .int), Cond.methodLink RL 117 yX2_allBands, Cond.instanceMethod yX2_allBands, Cond.selects RX2 yX2_allBands yX2_allBands, Cond.code yX2_allBands cX2_allBands 1 (some .int), Cond.methodLink RX2 160 yX2_bandsOfGroups, Cond.instanceMethod yX2_bandsOfGroups, Cond.selects RX2 yX2_bandsOfGroups yX2_bandsOfGroups]
def wsL_law_r22 : List Cond := [Cond.code yX2_bandsOfGroups cX2_bandsOfGroups 6 (some .int), Cond.fieldLink RX2 164 "PlateBeats" "GROUPS" "[I", Cond.instanceMethod yX1_hasAll, Cond.selects RX1 yX1_hasAll yX1_hasAll, Cond.code yX1_hasAll cX1_hasAll 2 (some .boolean), Cond.instanceMethod yX0_fillPlates, Cond.selects RX0 yX0_fillPlates yX0_fillPlates, Cond.code yX0_fillPlates cX0_fillPlates 6 none, Cond.methodLink RX0 84 yX0_firstPlate, Cond.static yX0_firstPlate, Cond.code yX0_firstPlate cX0_firstPlate 3 (some .int), Cond.methodLink RX0 88 yX0_fillTriple, Cond.methodLink RX0 92 yX0_fillPair, Cond.methodLink RL 120 yX3_allBands, Cond.instanceMethod yX3_allBands, Cond.selects RX3 yX3_allBands yX3_allBands, Cond.code yX3_allBands cX3_allBands 1 (some .int), Cond.methodLink RX3 152 yX3_findAll, Cond.instanceMethod yX3_findAll, Cond.selects RX3 yX3_findAll yX3_findAll, Cond.code yX3_findAll cX3_findAll 6 (some .int), Cond.fieldLink RX3 142 "PlateBeatsModel" "worst" "I", Cond.fieldLink RX3 145 "PlateBeatsModel" "worstSet" "I", Cond.methodLink RX3 148 yX3_note]
def wsL_law_r23 : List Cond := [Cond.instanceMethod yX3_note, Cond.selects RX3 yX3_note yX3_note, Cond.code yX3_note cX3_note 4 none, Cond.methodLink RL 121 yX2_worstPlates, Cond.instanceMethod yX2_worstPlates, Cond.selects RX2 yX2_worstPlates yX2_worstPlates, Cond.code yX2_worstPlates cX2_worstPlates 5 (some .int), Cond.methodLink RX2 168 yX2_worstPeriodOf, Cond.instanceMethod yX2_worstPeriodOf, Cond.selects RX2 yX2_worstPeriodOf yX2_worstPeriodOf, Cond.code yX2_worstPeriodOf cX2_worstPeriodOf 2 (some .int), Cond.instanceMethod yX0_worstPeriodFound, Cond.selects RX0 yX0_worstPeriodFound yX0_worstPeriodFound, Cond.code yX0_worstPeriodFound cX0_worstPeriodFound 3 (some .int), Cond.methodLink RX0 98 yX0_period, Cond.methodLink RL 124 yX3_worstPlates, Cond.instanceMethod yX3_worstPlates, Cond.selects RX3 yX3_worstPlates yX3_worstPlates, Cond.code yX3_worstPlates cX3_worstPlates 2 (some .int), Cond.methodLink RL 125 yX2_worstPeriod, Cond.instanceMethod yX2_worstPeriod, Cond.selects RX2 yX2_worstPeriod yX2_worstPeriod, Cond.code yX2_worstPeriod cX2_worstPeriod 2 (some .int), Cond.methodLink RX2 171 yX2_worstPlates]
def wsL_law_r24 : List Cond := [Cond.methodLink RL 128 yX3_worstPeriod, Cond.instanceMethod yX3_worstPeriod, Cond.selects RX3 yX3_worstPeriod yX3_worstPeriod, Cond.code yX3_worstPeriod cX3_worstPeriod 2 (some .int), Cond.methodLink RL 129 yX2_worstPair, Cond.instanceMethod yX2_worstPair, Cond.selects RX2 yX2_worstPair yX2_worstPair, Cond.code yX2_worstPair cX2_worstPair 6 (some .int), Cond.methodLink RL 132 yX3_worstPair, Cond.instanceMethod yX3_worstPair, Cond.selects RX3 yX3_worstPair yX3_worstPair, Cond.code yX3_worstPair cX3_worstPair 6 (some .int), Cond.methodLink RL 133 yX2_bestScreen, Cond.instanceMethod yX2_bestScreen, Cond.selects RX2 yX2_bestScreen yX2_bestScreen, Cond.code yX2_bestScreen cX2_bestScreen 4 (some .int), Cond.methodLink RX2 184 yX2_search, Cond.instanceMethod yX2_search, Cond.selects RX2 yX2_search yX2_search, Cond.code yX2_search cX2_search 12 (some .int), Cond.methodLink RX2 194 Lib.Math.abs.name, Cond.static Lib.Math.abs.name, Cond.initialized "java/lang/Math", Cond.code Lib.Math.abs.name Lib.Math.abs.code 1 (some .int)]
def wsL_law_r25 : List Cond := [Cond.methodLink RL 136 yX3_bestScreen, Cond.instanceMethod yX3_bestScreen, Cond.selects RX3 yX3_bestScreen yX3_bestScreen, Cond.code yX3_bestScreen cX3_bestScreen 4 (some .int), Cond.methodLink RX3 162 yX3_isRange, Cond.instanceMethod yX3_isRange, Cond.selects RX3 yX3_isRange yX3_isRange, Cond.code yX3_isRange cX3_isRange 4 (some .boolean), Cond.methodLink RX3 165 yX3_search, Cond.instanceMethod yX3_search, Cond.selects RX3 yX3_search yX3_search, Cond.code yX3_search cX3_search 14 (some .int), Cond.fieldLink RX3 156 "PlateBeatsModel" "fewest" "I", Cond.methodLink RX3 159 yX3_size, Cond.static yX3_size, Cond.code yX3_size cX3_size 1 (some .int), Cond.methodLink RL 137 yX2_bandsWithBest, Cond.instanceMethod yX2_bandsWithBest, Cond.selects RX2 yX2_bandsWithBest yX2_bandsWithBest, Cond.code yX2_bandsWithBest cX2_bandsWithBest 5 (some .int), Cond.methodLink RX2 187 yX2_bestScreen, Cond.methodLink RL 140 yX3_bandsWithBest, Cond.instanceMethod yX3_bandsWithBest, Cond.selects RX3 yX3_bandsWithBest yX3_bandsWithBest]
def wsL_law_r26 : List Cond := [Cond.code yX3_bandsWithBest cX3_bandsWithBest 5 (some .int), Cond.methodLink RL 141 yX2_save, Cond.instanceMethod yX2_save, Cond.selects RX2 yX2_save yX2_save, Cond.code yX2_save cX2_save 2 (some .int), Cond.methodLink RX2 199 yX2_isSlot, Cond.static yX2_isSlot, Cond.code yX2_isSlot cX2_isSlot 1 (some .boolean), Cond.methodLink RL 144 yX3_save, Cond.instanceMethod yX3_save, Cond.selects RX3 yX3_save yX3_save, Cond.code yX3_save cX3_save 3 (some .int), Cond.methodLink RL 145 yX2_restore, Cond.instanceMethod yX2_restore, Cond.selects RX2 yX2_restore yX2_restore, Cond.code yX2_restore cX2_restore 2 (some .int), Cond.methodLink RL 148 yX3_restore, Cond.instanceMethod yX3_restore, Cond.selects RX3 yX3_restore yX3_restore, Cond.code yX3_restore cX3_restore 3 (some .int), Cond.methodLink RL 149 yX2_historySize, Cond.instanceMethod yX2_historySize, Cond.selects RX2 yX2_historySize yX2_historySize, Cond.code yX2_historySize cX2_historySize 1 (some .int)]
def wsL_law_r27 : List Cond := [Cond.methodLink RL 152 yX3_historySize, Cond.instanceMethod yX3_historySize, Cond.selects RX3 yX3_historySize yX3_historySize, Cond.code yX3_historySize cX3_historySize 1 (some .int), Cond.methodLink RL 153 yX2_undo, Cond.instanceMethod yX2_undo, Cond.selects RX2 yX2_undo yX2_undo, Cond.code yX2_undo cX2_undo 1 (some .int), Cond.methodLink RL 156 yX3_undo, Cond.instanceMethod yX3_undo, Cond.selects RX3 yX3_undo yX3_undo, Cond.code yX3_undo cX3_undo 2 (some .int)]
def wsL_law : List Cond := (wsL_law_r1 ++ (wsL_law_r2 ++ (wsL_law_r3 ++ (wsL_law_r4 ++ (wsL_law_r5 ++ (wsL_law_r6 ++ (wsL_law_r7 ++ (wsL_law_r8 ++ (wsL_law_r9 ++ (wsL_law_r10 ++ (wsL_law_r11 ++ (wsL_law_r12 ++ (wsL_law_r13 ++ (wsL_law_r14 ++ (wsL_law_r15 ++ (wsL_law_r16 ++ (wsL_law_r17 ++ (wsL_law_r18 ++ (wsL_law_r19 ++ (wsL_law_r20 ++ (wsL_law_r21 ++ (wsL_law_r22 ++ (wsL_law_r23 ++ (wsL_law_r24 ++ (wsL_law_r25 ++ (wsL_law_r26 ++ wsL_law_r27)))))))))))))))))))))))))) ++ wsX20 ++ wsX30 ++ wsX10 ++ wsX00 ++ ([] : List Cond)
theorem inlX0 : ∀ w ∈ wsX00, w ∈ wsL_law := fun _ h => List.mem_append_left _ (List.mem_append_right _ h)
theorem inlX1 : ∀ w ∈ wsX10, w ∈ wsL_law := fun _ h => List.mem_append_left _ (List.mem_append_left _ (List.mem_append_right _ h))
theorem inlX2 : ∀ w ∈ wsX20, w ∈ wsL_law := fun _ h => List.mem_append_left _ (List.mem_append_left _ (List.mem_append_left _ (List.mem_append_left _ (List.mem_append_right _ h))))
theorem inlX3 : ∀ w ∈ wsX30, w ∈ wsL_law := fun _ h => List.mem_append_left _ (List.mem_append_left _ (List.mem_append_left _ (List.mem_append_right _ h)))
theorem inJ9 : ∀ w ∈ wsJ90, w ∈ lw_tbl := by decide +kernel
set_option maxRecDepth 20000 in
theorem ggX0_startPair_X1_areaOf : GoodIn wsX0_startPair wsX1_areaOf := goodIn_r _ [4, 5, 6, 7, 2, 8, 9, 10, 11, 12, 13, 14, 15, 16, 17, 18, 19, 32, 33, 34, 35, 36, 37] (by decide +kernel) (by decide +kernel)
set_option maxRecDepth 20000 in
theorem gX0_startPair_X1_areaOf_n25 : GoodIn wsX0_startPair (wsX1_areaOf) := ggX0_startPair_X1_areaOf
set_option maxRecDepth 20000 in
theorem ggX0_startPair_X0_start : GoodIn wsX0_startPair wsX0_start := goodIn_r _ [24, 25, 26, 27, 28, 29, 30, 31, 38, 39, 40, 41, 42, 32, 33, 34, 35, 36, 37] (by decide +kernel) (by decide +kernel)
set_option maxRecDepth 20000 in
theorem gX0_startPair_X0_start : GoodIn wsX0_startPair (wsV RX0 31 RX0 yX0_start wsX0_start) := goodIn_app (goodIn_of _ (by decide +kernel)) ggX0_startPair_X0_start
set_option maxRecDepth 20000 in
theorem ggX0_start_X2_divided : GoodIn wsX0_start wsX2_divided := goodIn_r _ [7] (by decide +kernel) (by decide +kernel)
set_option maxRecDepth 20000 in
theorem gX0_start_X2_divided_n45 : GoodIn wsX0_start (wsX2_divided) := ggX0_start_X2_divided
set_option maxRecDepth 20000 in
theorem ggX0_fillPair_X0_startPair : GoodIn wsX0_fillPair wsX0_startPair := goodIn_r _ [5, 6, 7, 8, 9, 10, 11, 12, 13, 14, 15, 16, 17, 18, 19, 20, 21, 22, 23, 24, 25, 26, 27, 4, 28, 29, 30, 31, 32, 33, 34, 35, 49, 50, 51, 52, 53, 54, 55, 56, 57, 58, 59] (by decide +kernel) (by decide +kernel)
set_option maxRecDepth 20000 in
theorem gX0_fillPair_X0_startPair : GoodIn wsX0_fillPair (wsV RX0 49 RX0 yX0_startPair wsX0_startPair) := goodIn_app (goodIn_of _ (by decide +kernel)) ggX0_fillPair_X0_startPair
set_option maxRecDepth 20000 in
theorem ggX0_fillPair_X0_addAllFor : GoodIn wsX0_fillPair wsX0_addAllFor := goodIn_r _ [39, 11, 7, 12, 13, 14, 15, 16, 17, 18, 19, 21, 22, 23, 24, 40, 34, 41, 42, 43, 44, 45, 46, 4, 47, 29, 48, 49, 50, 51, 52, 53, 54, 55, 56, 57, 58, 59] (by decide +kernel) (by decide +kernel)
set_option maxRecDepth 20000 in
theorem gX0_fillPair_X0_addAllFor : GoodIn wsX0_fillPair (wsV RX0 56 RX0 yX0_addAllFor wsX0_addAllFor) := goodIn_app (goodIn_of _ (by decide +kernel)) ggX0_fillPair_X0_addAllFor
set_option maxRecDepth 20000 in
theorem ggX0_addAllFor_X1_pOf : GoodIn wsX0_addAllFor wsX1_pOf := goodIn_r _ [4, 5, 6, 7, 8, 2, 9, 10, 27, 28, 29, 30, 31, 32] (by decide +kernel) (by decide +kernel)
set_option maxRecDepth 20000 in
theorem gX0_addAllFor_X1_pOf_n60 : GoodIn wsX0_addAllFor (wsX1_pOf) := ggX0_addAllFor_X1_pOf
set_option maxRecDepth 20000 in
theorem ggX0_addAllFor_X1_qOf : GoodIn wsX0_addAllFor wsX1_qOf := goodIn_r _ [13, 14, 6, 7, 8, 2, 9, 10, 27, 28, 29, 30, 31, 32] (by decide +kernel) (by decide +kernel)
set_option maxRecDepth 20000 in
theorem gX0_addAllFor_X1_qOf_n63 : GoodIn wsX0_addAllFor (wsX1_qOf) := ggX0_addAllFor_X1_qOf
set_option maxRecDepth 20000 in
theorem ggX0_addAllFor_X2_realPart : GoodIn wsX0_addAllFor wsX2_realPart := goodIn_r _ [17] (by decide +kernel) (by decide +kernel)
set_option maxRecDepth 20000 in
theorem gX0_addAllFor_X2_realPart_n66 : GoodIn wsX0_addAllFor (wsX2_realPart) := ggX0_addAllFor_X2_realPart
set_option maxRecDepth 20000 in
theorem ggX0_addAllFor_X2_imaginaryPart : GoodIn wsX0_addAllFor wsX2_imaginaryPart := goodIn_r _ [19] (by decide +kernel) (by decide +kernel)
set_option maxRecDepth 20000 in
theorem gX0_addAllFor_X2_imaginaryPart_n70 : GoodIn wsX0_addAllFor (wsX2_imaginaryPart) := ggX0_addAllFor_X2_imaginaryPart
set_option maxRecDepth 20000 in
theorem ggX0_addAllFor_X0_add : GoodIn wsX0_addAllFor wsX0_add := goodIn_r _ [24, 25, 26, 33, 34, 35, 36, 37] (by decide +kernel) (by decide +kernel)
set_option maxRecDepth 20000 in
theorem gX0_addAllFor_X0_add : GoodIn wsX0_addAllFor (wsV RX0 73 RX0 yX0_add wsX0_add) := goodIn_app (goodIn_of _ (by decide +kernel)) ggX0_addAllFor_X0_add
set_option maxRecDepth 20000 in
theorem ggX0_fillTriple_X1_areaOf : GoodIn wsX0_fillTriple wsX1_areaOf := goodIn_r _ [4, 5, 6, 7, 2, 8, 9, 10, 11, 12, 13, 14, 15, 16, 17, 18, 19, 43, 44, 45, 46, 47, 48] (by decide +kernel) (by decide +kernel)
set_option maxRecDepth 20000 in
theorem gX0_fillTriple_X1_areaOf_n25 : GoodIn wsX0_fillTriple (wsX1_areaOf) := ggX0_fillTriple_X1_areaOf
set_option maxRecDepth 20000 in
theorem ggX0_fillTriple_X0_start : GoodIn wsX0_fillTriple wsX0_start := goodIn_r _ [24, 25, 26, 27, 28, 29, 30, 31, 49, 50, 51, 52, 53, 43, 44, 45, 46, 47, 48] (by decide +kernel) (by decide +kernel)
set_option maxRecDepth 20000 in
theorem gX0_fillTriple_X0_start : GoodIn wsX0_fillTriple (wsV RX0 31 RX0 yX0_start wsX0_start) := goodIn_app (goodIn_of _ (by decide +kernel)) ggX0_fillTriple_X0_start
set_option maxRecDepth 20000 in
theorem ggX0_fillTriple_X0_productReal : GoodIn wsX0_fillTriple wsX0_productReal := goodIn_r _ [34, 6, 2, 7, 8, 9, 10, 11, 12, 13, 14, 16, 17, 18, 19, 43, 44, 45, 46, 47, 48] (by decide +kernel) (by decide +kernel)
set_option maxRecDepth 20000 in
theorem gX0_fillTriple_X0_productReal : GoodIn wsX0_fillTriple (va_wsS RX0 77 yX0_productReal wsX0_productReal) := goodIn_app (goodIn_of _ (by decide +kernel)) ggX0_fillTriple_X0_productReal
set_option maxRecDepth 20000 in
theorem ggX0_fillTriple_X0_productImaginary : GoodIn wsX0_fillTriple wsX0_productImaginary := goodIn_r _ [37, 6, 2, 7, 8, 9, 10, 11, 12, 13, 14, 16, 17, 18, 19, 43, 44, 45, 46, 47, 48] (by decide +kernel) (by decide +kernel)
set_option maxRecDepth 20000 in
theorem gX0_fillTriple_X0_productImaginary : GoodIn wsX0_fillTriple (va_wsS RX0 81 yX0_productImaginary wsX0_productImaginary) := goodIn_app (goodIn_of _ (by decide +kernel)) ggX0_fillTriple_X0_productImaginary
set_option maxRecDepth 20000 in
theorem ggX0_fillTriple_X0_add : GoodIn wsX0_fillTriple wsX0_add := goodIn_r _ [41, 25, 42, 49, 50, 51, 52, 53] (by decide +kernel) (by decide +kernel)
set_option maxRecDepth 20000 in
theorem gX0_fillTriple_X0_add : GoodIn wsX0_fillTriple (wsV RX0 73 RX0 yX0_add wsX0_add) := goodIn_app (goodIn_of _ (by decide +kernel)) ggX0_fillTriple_X0_add
set_option maxRecDepth 20000 in
theorem ggX0_productReal_X1_pOf : GoodIn wsX0_productReal wsX1_pOf := goodIn_r _ [4, 5, 6, 7, 8, 2, 9, 10, 15, 16, 17, 18, 19, 20] (by decide +kernel) (by decide +kernel)
set_option maxRecDepth 20000 in
theorem gX0_productReal_X1_pOf_n60 : GoodIn wsX0_productReal (wsX1_pOf) := ggX0_productReal_X1_pOf
set_option maxRecDepth 20000 in
theorem ggX0_productReal_X1_qOf : GoodIn wsX0_productReal wsX1_qOf := goodIn_r _ [13, 14, 6, 7, 8, 2, 9, 10, 15, 16, 17, 18, 19, 20] (by decide +kernel) (by decide +kernel)
set_option maxRecDepth 20000 in
theorem gX0_productReal_X1_qOf_n63 : GoodIn wsX0_productReal (wsX1_qOf) := ggX0_productReal_X1_qOf
set_option maxRecDepth 20000 in
theorem ggX0_productImaginary_X1_pOf : GoodIn wsX0_productImaginary wsX1_pOf := goodIn_r _ [4, 5, 6, 7, 8, 2, 9, 10, 15, 16, 17, 18, 19, 20] (by decide +kernel) (by decide +kernel)
set_option maxRecDepth 20000 in
theorem gX0_productImaginary_X1_pOf_n60 : GoodIn wsX0_productImaginary (wsX1_pOf) := ggX0_productImaginary_X1_pOf
set_option maxRecDepth 20000 in
theorem ggX0_productImaginary_X1_qOf : GoodIn wsX0_productImaginary wsX1_qOf := goodIn_r _ [13, 14, 6, 7, 8, 2, 9, 10, 15, 16, 17, 18, 19, 20] (by decide +kernel) (by decide +kernel)
set_option maxRecDepth 20000 in
theorem gX0_productImaginary_X1_qOf_n63 : GoodIn wsX0_productImaginary (wsX1_qOf) := ggX0_productImaginary_X1_qOf
set_option maxRecDepth 20000 in
theorem ggX0_fillPlates_X0_firstPlate : GoodIn wsX0_fillPlates wsX0_firstPlate := goodIn_r _ [4] (by decide +kernel) (by decide +kernel)
set_option maxRecDepth 20000 in
theorem gX0_fillPlates_X0_firstPlate : GoodIn wsX0_fillPlates (va_wsS RX0 84 yX0_firstPlate wsX0_firstPlate) := goodIn_app (goodIn_of _ (by decide +kernel)) ggX0_fillPlates_X0_firstPlate
set_option maxRecDepth 20000 in
theorem ggX0_fillPlates_X0_fillTriple : GoodIn wsX0_fillPlates wsX0_fillTriple := goodIn_r _ [8, 9, 10, 11, 12, 13, 14, 15, 16, 17, 18, 19, 20, 21, 22, 23, 24, 25, 26, 27, 28, 29, 30, 3, 31, 32, 33, 34, 35, 36, 37, 38, 39, 40, 41, 42, 43, 44, 45, 46, 47, 48, 49, 66, 67, 68, 69, 70, 71, 72, 73, 74, 75, 76] (by decide +kernel) (by decide +kernel)
set_option maxRecDepth 20000 in
theorem gX0_fillPlates_X0_fillTriple : GoodIn wsX0_fillPlates (wsV RX0 88 RX0 yX0_fillTriple wsX0_fillTriple) := goodIn_app (goodIn_of _ (by decide +kernel)) ggX0_fillPlates_X0_fillTriple
set_option maxRecDepth 20000 in
theorem ggX0_fillPlates_X0_fillPair : GoodIn wsX0_fillPlates wsX0_fillPair := goodIn_r _ [53, 54, 55, 56, 3, 57, 9, 10, 11, 12, 13, 14, 15, 16, 17, 18, 19, 20, 21, 22, 23, 24, 25, 26, 27, 28, 29, 30, 31, 32, 33, 34, 35, 36, 37, 38, 58, 59, 60, 61, 62, 63, 64, 65, 45, 46, 47, 48, 49, 66, 67, 68, 69, 70, 71, 72, 73, 74, 75, 76] (by decide +kernel) (by decide +kernel)
set_option maxRecDepth 20000 in
theorem gX0_fillPlates_X0_fillPair : GoodIn wsX0_fillPlates (wsV RX0 92 RX0 yX0_fillPair wsX0_fillPair) := goodIn_app (goodIn_of _ (by decide +kernel)) ggX0_fillPlates_X0_fillPair
set_option maxRecDepth 20000 in
theorem ggX0_bandCount_X0_kindOf : GoodIn wsX0_bandCount wsX0_kindOf := goodIn_r _ [7, 8, 9, 10, 11, 12, 13, 14] (by decide +kernel) (by decide +kernel)
set_option maxRecDepth 20000 in
theorem gX0_bandCount_X0_kindOf : GoodIn wsX0_bandCount (wsV RX0 95 RX0 yX0_kindOf wsX0_kindOf) := goodIn_app (goodIn_of _ (by decide +kernel)) ggX0_bandCount_X0_kindOf
set_option maxRecDepth 20000 in
theorem ggX0_worstPeriodFound_X0_kindOf : GoodIn wsX0_worstPeriodFound wsX0_kindOf := goodIn_r _ [7, 8, 9, 20, 21, 22, 23, 24] (by decide +kernel) (by decide +kernel)
set_option maxRecDepth 20000 in
theorem gX0_worstPeriodFound_X0_kindOf : GoodIn wsX0_worstPeriodFound (wsV RX0 95 RX0 yX0_kindOf wsX0_kindOf) := goodIn_app (goodIn_of _ (by decide +kernel)) ggX0_worstPeriodFound_X0_kindOf
set_option maxRecDepth 20000 in
theorem ggX0_worstPeriodFound_X0_period : GoodIn wsX0_worstPeriodFound wsX0_period := goodIn_r _ [13, 14, 15, 16, 17, 18, 19, 20, 21, 22, 23, 24] (by decide +kernel) (by decide +kernel)
set_option maxRecDepth 20000 in
theorem gX0_worstPeriodFound_X0_period : GoodIn wsX0_worstPeriodFound (wsV RX0 98 RX0 yX0_period wsX0_period) := goodIn_app (goodIn_of _ (by decide +kernel)) ggX0_worstPeriodFound_X0_period
set_option maxRecDepth 20000 in
theorem ggX0_numerator_X2_gcd : GoodIn wsX0_numerator wsX2_gcd := goodIn_r _ [4] (by decide +kernel) (by decide +kernel)
set_option maxRecDepth 20000 in
theorem gX0_numerator_X2_gcd_n101 : GoodIn wsX0_numerator (wsX2_gcd) := ggX0_numerator_X2_gcd
set_option maxRecDepth 20000 in
theorem ggX0_numerator_X2_divided : GoodIn wsX0_numerator wsX2_divided := goodIn_r _ [6] (by decide +kernel) (by decide +kernel)
set_option maxRecDepth 20000 in
theorem gX0_numerator_X2_divided_n45 : GoodIn wsX0_numerator (wsX2_divided) := ggX0_numerator_X2_divided
set_option maxRecDepth 20000 in
theorem ggX0_denominator_X2_gcd : GoodIn wsX0_denominator wsX2_gcd := goodIn_r _ [4] (by decide +kernel) (by decide +kernel)
set_option maxRecDepth 20000 in
theorem gX0_denominator_X2_gcd_n101 : GoodIn wsX0_denominator (wsX2_gcd) := ggX0_denominator_X2_gcd
set_option maxRecDepth 20000 in
theorem ggX0_denominator_X2_divided : GoodIn wsX0_denominator wsX2_divided := goodIn_r _ [6] (by decide +kernel) (by decide +kernel)
set_option maxRecDepth 20000 in
theorem gX0_denominator_X2_divided_n45 : GoodIn wsX0_denominator (wsX2_divided) := ggX0_denominator_X2_divided
set_option maxRecDepth 20000 in
theorem ggX0_period_X2_divided : GoodIn wsX0_period wsX2_divided := goodIn_r _ [4] (by decide +kernel) (by decide +kernel)
set_option maxRecDepth 20000 in
theorem gX0_period_X2_divided_n45 : GoodIn wsX0_period (wsX2_divided) := ggX0_period_X2_divided
set_option maxRecDepth 20000 in
theorem ggX0_period_X2_root : GoodIn wsX0_period wsX2_root := goodIn_r _ [6] (by decide +kernel) (by decide +kernel)
set_option maxRecDepth 20000 in
theorem gX0_period_X2_root_n104 : GoodIn wsX0_period (wsX2_root) := ggX0_period_X2_root
set_option maxRecDepth 20000 in
theorem ggX1_hasPair_X1_has : GoodIn wsX1_hasPair wsX1_has := goodIn_r _ [5, 6, 7, 8, 9, 10, 11, 12] (by decide +kernel) (by decide +kernel)
set_option maxRecDepth 20000 in
theorem gX1_hasPair_X1_has : GoodIn wsX1_hasPair (wsV RX1 31 RX1 yX1_has wsX1_has) := goodIn_app (goodIn_of _ (by decide +kernel)) ggX1_hasPair_X1_has
set_option maxRecDepth 20000 in
theorem ggX1_pOf_X1_has : GoodIn wsX1_pOf wsX1_has := goodIn_r _ [6, 7, 8, 9, 10, 11, 12, 13] (by decide +kernel) (by decide +kernel)
set_option maxRecDepth 20000 in
theorem gX1_pOf_X1_has : GoodIn wsX1_pOf (wsV RX1 31 RX1 yX1_has wsX1_has) := goodIn_app (goodIn_of _ (by decide +kernel)) ggX1_pOf_X1_has
set_option maxRecDepth 20000 in
theorem ggX1_qOf_X1_has : GoodIn wsX1_qOf wsX1_has := goodIn_r _ [6, 7, 8, 9, 10, 11, 12, 13] (by decide +kernel) (by decide +kernel)
set_option maxRecDepth 20000 in
theorem gX1_qOf_X1_has : GoodIn wsX1_qOf (wsV RX1 31 RX1 yX1_has wsX1_has) := goodIn_app (goodIn_of _ (by decide +kernel)) ggX1_qOf_X1_has
set_option maxRecDepth 20000 in
theorem ggX1_areaOf_X1_pOf : GoodIn wsX1_areaOf wsX1_pOf := goodIn_r _ [5, 6, 7, 8, 9, 4, 10, 11, 17, 18, 19, 20, 21, 22] (by decide +kernel) (by decide +kernel)
set_option maxRecDepth 20000 in
theorem gX1_areaOf_X1_pOf : GoodIn wsX1_areaOf (wsV RX1 35 RX1 yX1_pOf wsX1_pOf) := goodIn_app (goodIn_of _ (by decide +kernel)) ggX1_areaOf_X1_pOf
set_option maxRecDepth 20000 in
theorem ggX1_areaOf_X1_qOf : GoodIn wsX1_areaOf wsX1_qOf := goodIn_r _ [15, 16, 7, 8, 9, 4, 10, 11, 17, 18, 19, 20, 21, 22] (by decide +kernel) (by decide +kernel)
set_option maxRecDepth 20000 in
theorem gX1_areaOf_X1_qOf : GoodIn wsX1_areaOf (wsV RX1 39 RX1 yX1_qOf wsX1_qOf) := goodIn_app (goodIn_of _ (by decide +kernel)) ggX1_areaOf_X1_qOf
set_option maxRecDepth 20000 in
theorem ggX1_put_X1_has : GoodIn wsX1_put wsX1_has := goodIn_r _ [7, 8, 9, 10, 11, 12, 13, 14] (by decide +kernel) (by decide +kernel)
set_option maxRecDepth 20000 in
theorem gX1_put_X1_has : GoodIn wsX1_put (wsV RX1 31 RX1 yX1_has wsX1_has) := goodIn_app (goodIn_of _ (by decide +kernel)) ggX1_put_X1_has
set_option maxRecDepth 20000 in
theorem ggX1_append_X1_put : GoodIn wsX1_append wsX1_put := goodIn_r _ [6, 7, 8, 9, 10, 11, 5, 12, 1, 13, 14, 15, 16, 17, 18] (by decide +kernel) (by decide +kernel)
set_option maxRecDepth 20000 in
theorem gX1_append_X1_put : GoodIn wsX1_append (wsV RX1 42 RX1 yX1_put wsX1_put) := goodIn_app (goodIn_of _ (by decide +kernel)) ggX1_append_X1_put
set_option maxRecDepth 20000 in
theorem ggX1_drop_X1_has : GoodIn wsX1_drop wsX1_has := goodIn_r _ [6, 1, 21, 22, 23, 24, 25, 26] (by decide +kernel) (by decide +kernel)
set_option maxRecDepth 20000 in
theorem gX1_drop_X1_has : GoodIn wsX1_drop (wsV RX1 31 RX1 yX1_has wsX1_has) := goodIn_app (goodIn_of _ (by decide +kernel)) ggX1_drop_X1_has
set_option maxRecDepth 20000 in
theorem ggX1_drop_X1_pOf : GoodIn wsX1_drop wsX1_pOf := goodIn_r _ [10, 11, 2, 3, 4, 5, 6, 1, 21, 22, 23, 24, 25, 26] (by decide +kernel) (by decide +kernel)
set_option maxRecDepth 20000 in
theorem gX1_drop_X1_pOf : GoodIn wsX1_drop (wsV RX1 35 RX1 yX1_pOf wsX1_pOf) := goodIn_app (goodIn_of _ (by decide +kernel)) ggX1_drop_X1_pOf
set_option maxRecDepth 20000 in
theorem ggX1_drop_X1_qOf : GoodIn wsX1_drop wsX1_qOf := goodIn_r _ [15, 16, 2, 3, 4, 5, 6, 1, 21, 22, 23, 24, 25, 26] (by decide +kernel) (by decide +kernel)
set_option maxRecDepth 20000 in
theorem gX1_drop_X1_qOf : GoodIn wsX1_drop (wsV RX1 39 RX1 yX1_qOf wsX1_qOf) := goodIn_app (goodIn_of _ (by decide +kernel)) ggX1_drop_X1_qOf
set_option maxRecDepth 20000 in
theorem ggX1_drop_X1_put : GoodIn wsX1_drop wsX1_put := goodIn_r _ [20, 11, 16, 2, 3, 4, 5, 6, 1, 21, 22, 23, 24, 25, 26] (by decide +kernel) (by decide +kernel)
set_option maxRecDepth 20000 in
theorem gX1_drop_X1_put : GoodIn wsX1_drop (wsV RX1 42 RX1 yX1_put wsX1_put) := goodIn_app (goodIn_of _ (by decide +kernel)) ggX1_drop_X1_put
set_option maxRecDepth 20000 in
theorem ggX1_pairNorm_X1_pOf : GoodIn wsX1_pairNorm wsX1_pOf := goodIn_r _ [5, 6, 7, 8, 9, 4, 10, 11, 22, 23, 24, 25, 26, 27] (by decide +kernel) (by decide +kernel)
set_option maxRecDepth 20000 in
theorem gX1_pairNorm_X1_pOf : GoodIn wsX1_pairNorm (wsV RX1 35 RX1 yX1_pOf wsX1_pOf) := goodIn_app (goodIn_of _ (by decide +kernel)) ggX1_pairNorm_X1_pOf
set_option maxRecDepth 20000 in
theorem ggX1_pairNorm_X1_qOf : GoodIn wsX1_pairNorm wsX1_qOf := goodIn_r _ [15, 16, 7, 8, 9, 4, 10, 11, 22, 23, 24, 25, 26, 27] (by decide +kernel) (by decide +kernel)
set_option maxRecDepth 20000 in
theorem gX1_pairNorm_X1_qOf : GoodIn wsX1_pairNorm (wsV RX1 39 RX1 yX1_qOf wsX1_qOf) := goodIn_app (goodIn_of _ (by decide +kernel)) ggX1_pairNorm_X1_qOf
set_option maxRecDepth 20000 in
theorem ggX1_pairNorm_X2_realPart : GoodIn wsX1_pairNorm wsX2_realPart := goodIn_r _ [19] (by decide +kernel) (by decide +kernel)
set_option maxRecDepth 20000 in
theorem gX1_pairNorm_X2_realPart_n46 : GoodIn wsX1_pairNorm (wsX2_realPart) := ggX1_pairNorm_X2_realPart
set_option maxRecDepth 20000 in
theorem ggX1_pairNorm_X2_imaginaryPart : GoodIn wsX1_pairNorm wsX2_imaginaryPart := goodIn_r _ [21] (by decide +kernel) (by decide +kernel)
set_option maxRecDepth 20000 in
theorem gX1_pairNorm_X2_imaginaryPart_n50 : GoodIn wsX1_pairNorm (wsX2_imaginaryPart) := ggX1_pairNorm_X2_imaginaryPart
set_option maxRecDepth 20000 in
theorem ggX2_init_X1_init : GoodIn wsX2_init wsX1_init := goodIn_r _ [18, 19, 2, 3, 20, 21, 22, 23, 24, 25, 26, 34, 35, 36, 37, 38, 39] (by decide +kernel) (by decide +kernel)
set_option maxRecDepth 20000 in
theorem gX2_init_X1_init_n9 : GoodIn wsX2_init (wsX1_init) := ggX2_init_X1_init
set_option maxRecDepth 20000 in
theorem ggX2_init_X0_init : GoodIn wsX2_init wsX0_init := goodIn_r _ [28, 29, 2, 3, 20, 30, 31, 32, 33, 47, 48, 49, 50, 51] (by decide +kernel) (by decide +kernel)
set_option maxRecDepth 20000 in
theorem gX2_init_X0_init_n32 : GoodIn wsX2_init (wsX0_init) := ggX2_init_X0_init
set_option maxRecDepth 20000 in
theorem ggX2_addPlate_X2_isScreen : GoodIn wsX2_addPlate wsX2_isScreen := goodIn_r _ [5] (by decide +kernel) (by decide +kernel)
set_option maxRecDepth 20000 in
theorem gX2_addPlate_X2_isScreen : GoodIn wsX2_addPlate (va_wsS RX2 37 yX2_isScreen wsX2_isScreen) := goodIn_app (goodIn_of _ (by decide +kernel)) ggX2_addPlate_X2_isScreen
set_option maxRecDepth 20000 in
theorem ggX2_addPlate_X2_record : GoodIn wsX2_addPlate wsX2_record := goodIn_r _ [9, 10, 1, 11, 12, 13, 14, 4, 15, 16, 17, 18, 34, 35, 36, 37, 38, 39, 40, 41, 42, 43, 44, 45, 46] (by decide +kernel) (by decide +kernel)
set_option maxRecDepth 20000 in
theorem gX2_addPlate_X2_record : GoodIn wsX2_addPlate (wsV RX2 45 RX2 yX2_record wsX2_record) := goodIn_app (goodIn_of _ (by decide +kernel)) ggX2_addPlate_X2_record
set_option maxRecDepth 20000 in
theorem ggX2_addPlate_X1_append : GoodIn wsX2_addPlate wsX1_append := goodIn_r _ [22, 23, 24, 25, 26, 20, 27, 28, 29, 30, 31, 32, 33, 41, 42, 43, 44, 45, 46] (by decide +kernel) (by decide +kernel)
set_option maxRecDepth 20000 in
theorem gX2_addPlate_X1_append_n48 : GoodIn wsX2_addPlate (wsX1_append) := ggX2_addPlate_X1_append
set_option maxRecDepth 20000 in
theorem ggX2_setScreen_X1_has : GoodIn wsX2_setScreen wsX1_has := goodIn_r _ [5, 6, 48, 49, 50, 51, 52, 53] (by decide +kernel) (by decide +kernel)
set_option maxRecDepth 20000 in
theorem gX2_setScreen_X1_has_n52 : GoodIn wsX2_setScreen (wsX1_has) := ggX2_setScreen_X1_has
set_option maxRecDepth 20000 in
theorem ggX2_setScreen_X2_isScreen : GoodIn wsX2_setScreen wsX2_isScreen := goodIn_r _ [10] (by decide +kernel) (by decide +kernel)
set_option maxRecDepth 20000 in
theorem gX2_setScreen_X2_isScreen : GoodIn wsX2_setScreen (va_wsS RX2 37 yX2_isScreen wsX2_isScreen) := goodIn_app (goodIn_of _ (by decide +kernel)) ggX2_setScreen_X2_isScreen
set_option maxRecDepth 20000 in
theorem ggX2_setScreen_X2_record : GoodIn wsX2_setScreen wsX2_record := goodIn_r _ [14, 15, 1, 16, 17, 18, 19, 9, 20, 21, 22, 23, 41, 42, 43, 44, 45, 46, 47, 48, 49, 50, 51, 52, 53] (by decide +kernel) (by decide +kernel)
set_option maxRecDepth 20000 in
theorem gX2_setScreen_X2_record : GoodIn wsX2_setScreen (wsV RX2 45 RX2 yX2_record wsX2_record) := goodIn_app (goodIn_of _ (by decide +kernel)) ggX2_setScreen_X2_record
set_option maxRecDepth 20000 in
theorem ggX2_setScreen_X1_areaOf : GoodIn wsX2_setScreen wsX1_areaOf := goodIn_r _ [26, 27, 28, 29, 3, 30, 31, 32, 2, 4, 5, 6, 33, 34, 35, 36, 37, 48, 49, 50, 51, 52, 53] (by decide +kernel) (by decide +kernel)
set_option maxRecDepth 20000 in
theorem gX2_setScreen_X1_areaOf_n56 : GoodIn wsX2_setScreen (wsX1_areaOf) := ggX2_setScreen_X1_areaOf
set_option maxRecDepth 20000 in
theorem ggX2_setScreen_X1_put : GoodIn wsX2_setScreen wsX1_put := goodIn_r _ [40, 31, 37, 32, 2, 4, 3, 5, 6, 48, 49, 50, 51, 52, 53] (by decide +kernel) (by decide +kernel)
set_option maxRecDepth 20000 in
theorem gX2_setScreen_X1_put_n60 : GoodIn wsX2_setScreen (wsX1_put) := ggX2_setScreen_X1_put
set_option maxRecDepth 20000 in
theorem ggX2_removePlate_X1_has : GoodIn wsX2_removePlate wsX1_has := goodIn_r _ [5, 6, 46, 47, 48, 49, 50, 51] (by decide +kernel) (by decide +kernel)
set_option maxRecDepth 20000 in
theorem gX2_removePlate_X1_has_n52 : GoodIn wsX2_removePlate (wsX1_has) := ggX2_removePlate_X1_has
set_option maxRecDepth 20000 in
theorem ggX2_removePlate_X2_record : GoodIn wsX2_removePlate wsX2_record := goodIn_r _ [11, 12, 1, 13, 14, 15, 16, 10, 17, 18, 19, 20, 39, 40, 41, 42, 43, 44, 45, 46, 47, 48, 49, 50, 51] (by decide +kernel) (by decide +kernel)
set_option maxRecDepth 20000 in
theorem gX2_removePlate_X2_record : GoodIn wsX2_removePlate (wsV RX2 45 RX2 yX2_record wsX2_record) := goodIn_app (goodIn_of _ (by decide +kernel)) ggX2_removePlate_X2_record
set_option maxRecDepth 20000 in
theorem ggX2_removePlate_X1_drop : GoodIn wsX2_removePlate wsX1_drop := goodIn_r _ [23, 6, 24, 2, 4, 3, 5, 25, 26, 27, 28, 29, 30, 31, 32, 33, 34, 35, 36, 37, 38, 46, 47, 48, 49, 50, 51] (by decide +kernel) (by decide +kernel)
set_option maxRecDepth 20000 in
theorem gX2_removePlate_X1_drop_n64 : GoodIn wsX2_removePlate (wsX1_drop) := ggX2_removePlate_X1_drop
set_option maxRecDepth 20000 in
theorem ggX2_cellP_X1_has : GoodIn wsX2_cellP wsX1_has := goodIn_r _ [5, 6, 19, 20, 21, 22, 23, 24] (by decide +kernel) (by decide +kernel)
set_option maxRecDepth 20000 in
theorem gX2_cellP_X1_has_n52 : GoodIn wsX2_cellP (wsX1_has) := ggX2_cellP_X1_has
set_option maxRecDepth 20000 in
theorem ggX2_cellP_X1_pOf : GoodIn wsX2_cellP wsX1_pOf := goodIn_r _ [9, 10, 11, 2, 4, 3, 5, 6, 19, 20, 21, 22, 23, 24] (by decide +kernel) (by decide +kernel)
set_option maxRecDepth 20000 in
theorem gX2_cellP_X1_pOf_n68 : GoodIn wsX2_cellP (wsX1_pOf) := ggX2_cellP_X1_pOf
set_option maxRecDepth 20000 in
theorem ggX2_cellQ_X1_has : GoodIn wsX2_cellQ wsX1_has := goodIn_r _ [5, 6, 19, 20, 21, 22, 23, 24] (by decide +kernel) (by decide +kernel)
set_option maxRecDepth 20000 in
theorem gX2_cellQ_X1_has_n52 : GoodIn wsX2_cellQ (wsX1_has) := ggX2_cellQ_X1_has
set_option maxRecDepth 20000 in
theorem ggX2_cellQ_X1_qOf : GoodIn wsX2_cellQ wsX1_qOf := goodIn_r _ [9, 10, 11, 2, 4, 3, 5, 6, 19, 20, 21, 22, 23, 24] (by decide +kernel) (by decide +kernel)
set_option maxRecDepth 20000 in
theorem gX2_cellQ_X1_qOf_n71 : GoodIn wsX2_cellQ (wsX1_qOf) := ggX2_cellQ_X1_qOf
set_option maxRecDepth 20000 in
theorem ggX2_cellArea_X1_has : GoodIn wsX2_cellArea wsX1_has := goodIn_r _ [5, 6, 28, 29, 30, 31, 32, 33] (by decide +kernel) (by decide +kernel)
set_option maxRecDepth 20000 in
theorem gX2_cellArea_X1_has_n52 : GoodIn wsX2_cellArea (wsX1_has) := ggX2_cellArea_X1_has
set_option maxRecDepth 20000 in
theorem ggX2_cellArea_X1_areaOf : GoodIn wsX2_cellArea wsX1_areaOf := goodIn_r _ [9, 10, 11, 12, 3, 13, 14, 15, 2, 4, 5, 6, 16, 17, 18, 19, 20, 28, 29, 30, 31, 32, 33] (by decide +kernel) (by decide +kernel)
set_option maxRecDepth 20000 in
theorem gX2_cellArea_X1_areaOf_n56 : GoodIn wsX2_cellArea (wsX1_areaOf) := ggX2_cellArea_X1_areaOf
set_option maxRecDepth 20000 in
theorem ggX2_tile_X1_has : GoodIn wsX2_tile wsX1_has := goodIn_r _ [5, 6, 39, 40, 41, 42, 43, 44] (by decide +kernel) (by decide +kernel)
set_option maxRecDepth 20000 in
theorem gX2_tile_X1_has_n52 : GoodIn wsX2_tile (wsX1_has) := ggX2_tile_X1_has
set_option maxRecDepth 20000 in
theorem ggX2_tile_X2_tileOf : GoodIn wsX2_tile wsX2_tileOf := goodIn_r _ [11, 1, 12, 3, 13, 14, 15, 16, 17, 18, 19, 20, 2, 4, 5, 6, 21, 22, 23, 24, 25, 26, 27, 10, 28, 29, 30, 31, 32, 33, 34, 35, 36, 37, 38, 39, 40, 41, 42, 43, 44] (by decide +kernel) (by decide +kernel)
set_option maxRecDepth 20000 in
theorem gX2_tile_X2_tileOf : GoodIn wsX2_tile (wsV RX2 74 RX2 yX2_tileOf wsX2_tileOf) := goodIn_app (goodIn_of _ (by decide +kernel)) ggX2_tile_X2_tileOf
set_option maxRecDepth 20000 in
theorem ggX2_commonTile_X2_tileOf : GoodIn wsX2_commonTile wsX2_tileOf := goodIn_r _ [6, 1, 7, 8, 9, 10, 11, 12, 13, 14, 15, 16, 17, 18, 19, 20, 21, 22, 23, 24, 25, 26, 27, 5, 28, 29, 30, 31, 32, 33, 34, 35, 36, 37, 38, 39, 40, 41, 42, 43, 44] (by decide +kernel) (by decide +kernel)
set_option maxRecDepth 20000 in
theorem gX2_commonTile_X2_tileOf : GoodIn wsX2_commonTile (wsV RX2 74 RX2 yX2_tileOf wsX2_tileOf) := goodIn_app (goodIn_of _ (by decide +kernel)) ggX2_commonTile_X2_tileOf
set_option maxRecDepth 20000 in
theorem ggX2_commonTile_X2_gcd : GoodIn wsX2_commonTile wsX2_gcd := goodIn_r _ [28] (by decide +kernel) (by decide +kernel)
set_option maxRecDepth 20000 in
theorem gX2_commonTile_X2_gcd : GoodIn wsX2_commonTile (va_wsS RX2 78 yX2_gcd wsX2_gcd) := goodIn_app (goodIn_of _ (by decide +kernel)) ggX2_commonTile_X2_gcd
set_option maxRecDepth 20000 in
theorem ggX2_commonTile_X2_divided : GoodIn wsX2_commonTile wsX2_divided := goodIn_r _ [31] (by decide +kernel) (by decide +kernel)
set_option maxRecDepth 20000 in
theorem gX2_commonTile_X2_divided : GoodIn wsX2_commonTile (va_wsS RX2 82 yX2_divided wsX2_divided) := goodIn_app (goodIn_of _ (by decide +kernel)) ggX2_commonTile_X2_divided
set_option maxRecDepth 20000 in
theorem ggX2_byAngle_X2_platesBefore : GoodIn wsX2_byAngle wsX2_platesBefore := goodIn_r _ [6, 1, 7, 8, 9, 10, 11, 12, 13, 14, 15, 16, 17, 18, 19, 20, 21, 22, 23, 24, 25, 26, 27, 28, 29, 30, 31, 32, 33] (by decide +kernel) (by decide +kernel)
set_option maxRecDepth 20000 in
theorem gX2_byAngle_X2_platesBefore : GoodIn wsX2_byAngle (wsV RX2 85 RX2 yX2_platesBefore wsX2_platesBefore) := goodIn_app (goodIn_of _ (by decide +kernel)) ggX2_byAngle_X2_platesBefore
set_option maxRecDepth 20000 in
theorem ggX2_tileOf_X1_areaOf : GoodIn wsX2_tileOf wsX1_areaOf := goodIn_r _ [5, 6, 7, 8, 3, 9, 10, 11, 12, 13, 14, 15, 16, 17, 18, 19, 20, 35, 36, 37, 38, 39, 40] (by decide +kernel) (by decide +kernel)
set_option maxRecDepth 20000 in
theorem gX2_tileOf_X1_areaOf_n56 : GoodIn wsX2_tileOf (wsX1_areaOf) := ggX2_tileOf_X1_areaOf
set_option maxRecDepth 20000 in
theorem ggX2_tileOf_X1_pOf : GoodIn wsX2_tileOf wsX1_pOf := goodIn_r _ [9, 10, 11, 12, 13, 3, 14, 15, 35, 36, 37, 38, 39, 40] (by decide +kernel) (by decide +kernel)
set_option maxRecDepth 20000 in
theorem gX2_tileOf_X1_pOf_n68 : GoodIn wsX2_tileOf (wsX1_pOf) := ggX2_tileOf_X1_pOf
set_option maxRecDepth 20000 in
theorem ggX2_tileOf_X1_qOf : GoodIn wsX2_tileOf wsX1_qOf := goodIn_r _ [19, 20, 11, 12, 13, 3, 14, 15, 35, 36, 37, 38, 39, 40] (by decide +kernel) (by decide +kernel)
set_option maxRecDepth 20000 in
theorem gX2_tileOf_X1_qOf_n71 : GoodIn wsX2_tileOf (wsX1_qOf) := ggX2_tileOf_X1_qOf
set_option maxRecDepth 20000 in
theorem ggX2_tileOf_X2_gcd : GoodIn wsX2_tileOf wsX2_gcd := goodIn_r _ [24] (by decide +kernel) (by decide +kernel)
set_option maxRecDepth 20000 in
theorem gX2_tileOf_X2_gcd : GoodIn wsX2_tileOf (va_wsS RX2 78 yX2_gcd wsX2_gcd) := goodIn_app (goodIn_of _ (by decide +kernel)) ggX2_tileOf_X2_gcd
set_option maxRecDepth 20000 in
theorem ggX2_tileOf_X2_divided : GoodIn wsX2_tileOf wsX2_divided := goodIn_r _ [27] (by decide +kernel) (by decide +kernel)
set_option maxRecDepth 20000 in
theorem gX2_tileOf_X2_divided : GoodIn wsX2_tileOf (va_wsS RX2 82 yX2_divided wsX2_divided) := goodIn_app (goodIn_of _ (by decide +kernel)) ggX2_tileOf_X2_divided
set_option maxRecDepth 20000 in
theorem ggX2_platesBefore_X1_qOf : GoodIn wsX2_platesBefore wsX1_qOf := goodIn_r _ [5, 6, 7, 8, 9, 3, 10, 11, 23, 24, 25, 26, 27, 28] (by decide +kernel) (by decide +kernel)
set_option maxRecDepth 20000 in
theorem gX2_platesBefore_X1_qOf_n71 : GoodIn wsX2_platesBefore (wsX1_qOf) := ggX2_platesBefore_X1_qOf
set_option maxRecDepth 20000 in
theorem ggX2_platesBefore_X1_pOf : GoodIn wsX2_platesBefore wsX1_pOf := goodIn_r _ [14, 15, 7, 8, 9, 3, 10, 11, 23, 24, 25, 26, 27, 28] (by decide +kernel) (by decide +kernel)
set_option maxRecDepth 20000 in
theorem gX2_platesBefore_X1_pOf_n68 : GoodIn wsX2_platesBefore (wsX1_pOf) := ggX2_platesBefore_X1_pOf
set_option maxRecDepth 20000 in
theorem ggX2_setOrder_X2_record : GoodIn wsX2_setOrder wsX2_record := goodIn_r _ [6, 7, 1, 8, 9, 10, 11, 5, 12, 13, 14, 15, 16, 17, 18, 19, 20, 21, 22, 23, 24, 25, 26, 27, 28] (by decide +kernel) (by decide +kernel)
set_option maxRecDepth 20000 in
theorem gX2_setOrder_X2_record : GoodIn wsX2_setOrder (wsV RX2 45 RX2 yX2_record wsX2_record) := goodIn_app (goodIn_of _ (by decide +kernel)) ggX2_setOrder_X2_record
set_option maxRecDepth 20000 in
theorem ggX2_setLimits_X2_record : GoodIn wsX2_setLimits wsX2_record := goodIn_r _ [6, 7, 1, 8, 9, 10, 11, 5, 12, 13, 14, 15, 16, 17, 18, 19, 20, 21, 22, 23, 24, 25, 26, 27, 28] (by decide +kernel) (by decide +kernel)
set_option maxRecDepth 20000 in
theorem gX2_setLimits_X2_record : GoodIn wsX2_setLimits (wsV RX2 45 RX2 yX2_record wsX2_record) := goodIn_app (goodIn_of _ (by decide +kernel)) ggX2_setLimits_X2_record
set_option maxRecDepth 20000 in
theorem ggX2_squareNumerator_X2_isCombination : GoodIn wsX2_squareNumerator wsX2_isCombination := goodIn_r _ [8, 3, 9, 10, 11, 12, 13, 14, 15, 16, 17, 18, 19, 20, 21, 61, 62, 63, 64, 65, 66, 67, 68, 69, 70, 71, 72, 73] (by decide +kernel) (by decide +kernel)
set_option maxRecDepth 20000 in
theorem gX2_squareNumerator_X2_isCombination : GoodIn wsX2_squareNumerator (wsV RX2 97 RX2 yX2_isCombination wsX2_isCombination) := goodIn_app (goodIn_of _ (by decide +kernel)) ggX2_squareNumerator_X2_isCombination
set_option maxRecDepth 20000 in
theorem ggX2_squareNumerator_X0_startPair : GoodIn wsX2_squareNumerator wsX0_startPair := goodIn_r _ [25, 26, 10, 27, 28, 29, 30, 31, 32, 33, 13, 14, 15, 16, 17, 34, 35, 36, 37, 38, 39, 40, 41, 23, 42, 43, 44, 45, 46, 47, 7, 48, 68, 69, 70, 71, 72, 73, 74, 75, 76, 77, 78] (by decide +kernel) (by decide +kernel)
set_option maxRecDepth 20000 in
theorem gX2_squareNumerator_X0_startPair_n103 : GoodIn wsX2_squareNumerator (wsX0_startPair) := ggX2_squareNumerator_X0_startPair
set_option maxRecDepth 20000 in
theorem ggX2_squareNumerator_X1_pairNorm : GoodIn wsX2_squareNumerator wsX1_pairNorm := goodIn_r _ [51, 29, 30, 31, 10, 32, 33, 13, 14, 15, 16, 17, 34, 35, 36, 37, 38, 52, 7, 53, 54, 55, 68, 69, 70, 71, 72, 73] (by decide +kernel) (by decide +kernel)
set_option maxRecDepth 20000 in
theorem gX2_squareNumerator_X1_pairNorm_n107 : GoodIn wsX2_squareNumerator (wsX1_pairNorm) := ggX2_squareNumerator_X1_pairNorm
set_option maxRecDepth 20000 in
theorem ggX2_squareNumerator_X0_numerator : GoodIn wsX2_squareNumerator wsX0_numerator := goodIn_r _ [58, 44, 59, 7, 60, 47, 48, 74, 75, 76, 77, 78] (by decide +kernel) (by decide +kernel)
set_option maxRecDepth 20000 in
theorem gX2_squareNumerator_X0_numerator_n111 : GoodIn wsX2_squareNumerator (wsX0_numerator) := ggX2_squareNumerator_X0_numerator
set_option maxRecDepth 20000 in
theorem ggX2_squareDenominator_X2_isCombination : GoodIn wsX2_squareDenominator wsX2_isCombination := goodIn_r _ [8, 3, 9, 10, 11, 12, 13, 14, 15, 16, 17, 18, 19, 20, 21, 61, 62, 63, 64, 65, 66, 67, 68, 69, 70, 71, 72, 73] (by decide +kernel) (by decide +kernel)
set_option maxRecDepth 20000 in
theorem gX2_squareDenominator_X2_isCombination : GoodIn wsX2_squareDenominator (wsV RX2 97 RX2 yX2_isCombination wsX2_isCombination) := goodIn_app (goodIn_of _ (by decide +kernel)) ggX2_squareDenominator_X2_isCombination
set_option maxRecDepth 20000 in
theorem ggX2_squareDenominator_X0_startPair : GoodIn wsX2_squareDenominator wsX0_startPair := goodIn_r _ [25, 26, 10, 27, 28, 29, 30, 31, 32, 33, 13, 14, 15, 16, 17, 34, 35, 36, 37, 38, 39, 40, 41, 23, 42, 43, 44, 45, 46, 47, 7, 48, 68, 69, 70, 71, 72, 73, 74, 75, 76, 77, 78] (by decide +kernel) (by decide +kernel)
set_option maxRecDepth 20000 in
theorem gX2_squareDenominator_X0_startPair_n103 : GoodIn wsX2_squareDenominator (wsX0_startPair) := ggX2_squareDenominator_X0_startPair
set_option maxRecDepth 20000 in
theorem ggX2_squareDenominator_X1_pairNorm : GoodIn wsX2_squareDenominator wsX1_pairNorm := goodIn_r _ [51, 29, 30, 31, 10, 32, 33, 13, 14, 15, 16, 17, 34, 35, 36, 37, 38, 52, 7, 53, 54, 55, 68, 69, 70, 71, 72, 73] (by decide +kernel) (by decide +kernel)
set_option maxRecDepth 20000 in
theorem gX2_squareDenominator_X1_pairNorm_n107 : GoodIn wsX2_squareDenominator (wsX1_pairNorm) := ggX2_squareDenominator_X1_pairNorm
set_option maxRecDepth 20000 in
theorem ggX2_squareDenominator_X0_denominator : GoodIn wsX2_squareDenominator wsX0_denominator := goodIn_r _ [58, 44, 59, 7, 60, 47, 48, 74, 75, 76, 77, 78] (by decide +kernel) (by decide +kernel)
set_option maxRecDepth 20000 in
theorem gX2_squareDenominator_X0_denominator_n114 : GoodIn wsX2_squareDenominator (wsX0_denominator) := ggX2_squareDenominator_X0_denominator
set_option maxRecDepth 20000 in
theorem ggX2_kind_X2_isCombination : GoodIn wsX2_kind wsX2_isCombination := goodIn_r _ [7, 2, 8, 9, 10, 11, 12, 13, 14, 15, 16, 17, 18, 19, 20, 58, 59, 60, 61, 62, 63, 64, 65, 66, 67, 68, 69, 70] (by decide +kernel) (by decide +kernel)
set_option maxRecDepth 20000 in
theorem gX2_kind_X2_isCombination : GoodIn wsX2_kind (wsV RX2 97 RX2 yX2_isCombination wsX2_isCombination) := goodIn_app (goodIn_of _ (by decide +kernel)) ggX2_kind_X2_isCombination
set_option maxRecDepth 20000 in
theorem ggX2_kind_X0_startPair : GoodIn wsX2_kind wsX0_startPair := goodIn_r _ [24, 25, 9, 26, 27, 28, 29, 30, 31, 32, 12, 13, 14, 15, 16, 33, 34, 35, 36, 37, 38, 39, 40, 22, 41, 42, 43, 44, 45, 46, 6, 47, 65, 66, 67, 68, 69, 70, 71, 72, 73, 74, 75] (by decide +kernel) (by decide +kernel)
set_option maxRecDepth 20000 in
theorem gX2_kind_X0_startPair_n103 : GoodIn wsX2_kind (wsX0_startPair) := ggX2_kind_X0_startPair
set_option maxRecDepth 20000 in
theorem ggX2_kind_X1_pairNorm : GoodIn wsX2_kind wsX1_pairNorm := goodIn_r _ [50, 28, 29, 30, 9, 31, 32, 12, 13, 14, 15, 16, 33, 34, 35, 36, 37, 51, 6, 52, 53, 54, 65, 66, 67, 68, 69, 70] (by decide +kernel) (by decide +kernel)
set_option maxRecDepth 20000 in
theorem gX2_kind_X1_pairNorm_n107 : GoodIn wsX2_kind (wsX1_pairNorm) := ggX2_kind_X1_pairNorm
set_option maxRecDepth 20000 in
theorem ggX2_kind_X0_kindOf : GoodIn wsX2_kind wsX0_kindOf := goodIn_r _ [57, 44, 45, 71, 72, 73, 74, 75] (by decide +kernel) (by decide +kernel)
set_option maxRecDepth 20000 in
theorem gX2_kind_X0_kindOf_n117 : GoodIn wsX2_kind (wsX0_kindOf) := ggX2_kind_X0_kindOf
set_option maxRecDepth 20000 in
theorem ggX2_beatCount_X1_hasPair : GoodIn wsX2_beatCount wsX1_hasPair := goodIn_r _ [6, 7, 8, 9, 4, 10, 11, 70, 71, 72, 73, 74, 75] (by decide +kernel) (by decide +kernel)
set_option maxRecDepth 20000 in
theorem gX2_beatCount_X1_hasPair_n120 : GoodIn wsX2_beatCount (wsX1_hasPair) := ggX2_beatCount_X1_hasPair
set_option maxRecDepth 20000 in
theorem ggX2_beatCount_X0_fillPair : GoodIn wsX2_beatCount wsX0_fillPair := goodIn_r _ [15, 16, 17, 18, 13, 19, 20, 4, 21, 22, 23, 24, 25, 26, 27, 7, 8, 9, 10, 11, 28, 29, 30, 31, 32, 33, 34, 35, 36, 37, 38, 39, 40, 41, 42, 43, 44, 45, 46, 47, 48, 49, 50, 51, 52, 53, 54, 55, 56, 70, 71, 72, 73, 74, 75, 76, 77, 78, 79, 80] (by decide +kernel) (by decide +kernel)
set_option maxRecDepth 20000 in
theorem gX2_beatCount_X0_fillPair_n123 : GoodIn wsX2_beatCount (wsX0_fillPair) := ggX2_beatCount_X0_fillPair
set_option maxRecDepth 20000 in
theorem ggX2_beatCount_X0_sort : GoodIn wsX2_beatCount wsX0_sort := goodIn_r _ [59, 37, 56, 76, 77, 78, 79, 80] (by decide +kernel) (by decide +kernel)
set_option maxRecDepth 20000 in
theorem gX2_beatCount_X0_sort_n126 : GoodIn wsX2_beatCount (wsX0_sort) := ggX2_beatCount_X0_sort
set_option maxRecDepth 20000 in
theorem ggX2_beatCount_X0_differentNorms : GoodIn wsX2_beatCount wsX0_differentNorms := goodIn_r _ [62, 37, 56, 76, 77, 78, 79, 80] (by decide +kernel) (by decide +kernel)
set_option maxRecDepth 20000 in
theorem gX2_beatCount_X0_differentNorms_n129 : GoodIn wsX2_beatCount (wsX0_differentNorms) := ggX2_beatCount_X0_differentNorms
set_option maxRecDepth 20000 in
theorem ggX2_beatNumerator_X2_normOfRank : GoodIn wsX2_beatNumerator wsX2_normOfRank := goodIn_r _ [6, 7, 1, 8, 9, 10, 11, 12, 13, 14, 15, 16, 17, 18, 19, 20, 21, 22, 23, 24, 25, 26, 27, 28, 29, 30, 31, 32, 33, 34, 35, 36, 37, 38, 39, 40, 41, 42, 43, 44, 45, 46, 5, 47, 48, 49, 50, 51, 52, 53, 54, 55, 56, 57, 58, 59, 60, 61, 62, 63, 64, 65, 66, 72, 73, 74, 75, 76, 77, 78, 79, 80, 81, 82, 83, 84, 85, 86, 87, 88, 89] (by decide +kernel) (by decide +kernel)
set_option maxRecDepth 20000 in
theorem gX2_beatNumerator_X2_normOfRank : GoodIn wsX2_beatNumerator (wsV RX2 133 RX2 yX2_normOfRank wsX2_normOfRank) := goodIn_app (goodIn_of _ (by decide +kernel)) ggX2_beatNumerator_X2_normOfRank
set_option maxRecDepth 20000 in
theorem ggX2_beatNumerator_X0_numerator : GoodIn wsX2_beatNumerator wsX0_numerator := goodIn_r _ [69, 43, 70, 5, 71, 46, 47, 85, 86, 87, 88, 89] (by decide +kernel) (by decide +kernel)
set_option maxRecDepth 20000 in
theorem gX2_beatNumerator_X0_numerator_n111 : GoodIn wsX2_beatNumerator (wsX0_numerator) := ggX2_beatNumerator_X0_numerator
set_option maxRecDepth 20000 in
theorem ggX2_beatDenominator_X2_normOfRank : GoodIn wsX2_beatDenominator wsX2_normOfRank := goodIn_r _ [6, 7, 1, 8, 9, 10, 11, 12, 13, 14, 15, 16, 17, 18, 19, 20, 21, 22, 23, 24, 25, 26, 27, 28, 29, 30, 31, 32, 33, 34, 35, 36, 37, 38, 39, 40, 41, 42, 43, 44, 45, 46, 5, 47, 48, 49, 50, 51, 52, 53, 54, 55, 56, 57, 58, 59, 60, 61, 62, 63, 64, 65, 66, 72, 73, 74, 75, 76, 77, 78, 79, 80, 81, 82, 83, 84, 85, 86, 87, 88, 89] (by decide +kernel) (by decide +kernel)
set_option maxRecDepth 20000 in
theorem gX2_beatDenominator_X2_normOfRank : GoodIn wsX2_beatDenominator (wsV RX2 133 RX2 yX2_normOfRank wsX2_normOfRank) := goodIn_app (goodIn_of _ (by decide +kernel)) ggX2_beatDenominator_X2_normOfRank
set_option maxRecDepth 20000 in
theorem ggX2_beatDenominator_X0_denominator : GoodIn wsX2_beatDenominator wsX0_denominator := goodIn_r _ [69, 43, 70, 5, 71, 46, 47, 85, 86, 87, 88, 89] (by decide +kernel) (by decide +kernel)
set_option maxRecDepth 20000 in
theorem gX2_beatDenominator_X0_denominator_n114 : GoodIn wsX2_beatDenominator (wsX0_denominator) := ggX2_beatDenominator_X0_denominator
set_option maxRecDepth 20000 in
theorem ggX2_beatFrequency_X2_normOfRank : GoodIn wsX2_beatFrequency wsX2_normOfRank := goodIn_r _ [6, 7, 1, 8, 9, 10, 11, 12, 13, 14, 15, 16, 17, 18, 19, 20, 21, 22, 23, 24, 25, 26, 27, 28, 29, 30, 31, 32, 33, 34, 35, 36, 37, 38, 39, 40, 41, 42, 43, 44, 45, 46, 5, 47, 48, 49, 50, 51, 52, 53, 54, 55, 56, 57, 58, 59, 60, 61, 62, 63, 64, 65, 66, 70, 71, 72, 73, 74, 75, 76, 77, 78, 79, 80, 81, 82, 83, 84, 85, 86, 87] (by decide +kernel) (by decide +kernel)
set_option maxRecDepth 20000 in
theorem gX2_beatFrequency_X2_normOfRank : GoodIn wsX2_beatFrequency (wsV RX2 133 RX2 yX2_normOfRank wsX2_normOfRank) := goodIn_app (goodIn_of _ (by decide +kernel)) ggX2_beatFrequency_X2_normOfRank
set_option maxRecDepth 20000 in
theorem ggX2_beatFrequency_X0_combinationsWith : GoodIn wsX2_beatFrequency wsX0_combinationsWith := goodIn_r _ [69, 42, 60, 83, 84, 85, 86, 87] (by decide +kernel) (by decide +kernel)
set_option maxRecDepth 20000 in
theorem gX2_beatFrequency_X0_combinationsWith_n137 : GoodIn wsX2_beatFrequency (wsX0_combinationsWith) := ggX2_beatFrequency_X0_combinationsWith
set_option maxRecDepth 20000 in
theorem ggX2_beatPeriod_X2_normOfRank : GoodIn wsX2_beatPeriod wsX2_normOfRank := goodIn_r _ [6, 7, 1, 8, 9, 10, 11, 12, 13, 14, 15, 16, 17, 18, 19, 20, 21, 22, 23, 24, 25, 26, 27, 28, 29, 30, 31, 32, 33, 34, 35, 36, 37, 38, 39, 40, 41, 42, 43, 44, 45, 46, 5, 47, 48, 49, 50, 51, 52, 53, 54, 55, 56, 57, 58, 59, 60, 61, 62, 63, 64, 65, 66, 72, 73, 74, 75, 76, 77, 78, 79, 80, 81, 82, 83, 84, 85, 86, 87, 88, 89] (by decide +kernel) (by decide +kernel)
set_option maxRecDepth 20000 in
theorem gX2_beatPeriod_X2_normOfRank : GoodIn wsX2_beatPeriod (wsV RX2 133 RX2 yX2_normOfRank wsX2_normOfRank) := goodIn_app (goodIn_of _ (by decide +kernel)) ggX2_beatPeriod_X2_normOfRank
set_option maxRecDepth 20000 in
theorem ggX2_beatPeriod_X0_period : GoodIn wsX2_beatPeriod wsX0_period := goodIn_r _ [69, 43, 46, 5, 47, 70, 71, 85, 86, 87, 88, 89] (by decide +kernel) (by decide +kernel)
set_option maxRecDepth 20000 in
theorem gX2_beatPeriod_X0_period_n140 : GoodIn wsX2_beatPeriod (wsX0_period) := ggX2_beatPeriod_X0_period
set_option maxRecDepth 20000 in
theorem ggX2_locked_X1_hasPair : GoodIn wsX2_locked wsX1_hasPair := goodIn_r _ [6, 7, 8, 9, 4, 10, 11, 67, 68, 69, 70, 71, 72] (by decide +kernel) (by decide +kernel)
set_option maxRecDepth 20000 in
theorem gX2_locked_X1_hasPair_n120 : GoodIn wsX2_locked (wsX1_hasPair) := ggX2_locked_X1_hasPair
set_option maxRecDepth 20000 in
theorem ggX2_locked_X0_fillPair : GoodIn wsX2_locked wsX0_fillPair := goodIn_r _ [15, 16, 17, 18, 13, 19, 20, 4, 21, 22, 23, 24, 25, 26, 27, 7, 8, 9, 10, 11, 28, 29, 30, 31, 32, 33, 34, 35, 36, 37, 38, 39, 40, 41, 42, 43, 44, 45, 46, 47, 48, 49, 50, 51, 52, 53, 54, 55, 56, 67, 68, 69, 70, 71, 72, 73, 74, 75, 76, 77] (by decide +kernel) (by decide +kernel)
set_option maxRecDepth 20000 in
theorem gX2_locked_X0_fillPair_n123 : GoodIn wsX2_locked (wsX0_fillPair) := ggX2_locked_X0_fillPair
set_option maxRecDepth 20000 in
theorem ggX2_locked_X0_combinationsWith : GoodIn wsX2_locked wsX0_combinationsWith := goodIn_r _ [59, 37, 56, 73, 74, 75, 76, 77] (by decide +kernel) (by decide +kernel)
set_option maxRecDepth 20000 in
theorem gX2_locked_X0_combinationsWith_n137 : GoodIn wsX2_locked (wsX0_combinationsWith) := ggX2_locked_X0_combinationsWith
set_option maxRecDepth 20000 in
theorem ggX2_bands_X1_hasPair : GoodIn wsX2_bands wsX1_hasPair := goodIn_r _ [5, 6, 7, 8, 3, 9, 10, 75, 76, 77, 78, 79, 80] (by decide +kernel) (by decide +kernel)
set_option maxRecDepth 20000 in
theorem gX2_bands_X1_hasPair_n120 : GoodIn wsX2_bands (wsX1_hasPair) := ggX2_bands_X1_hasPair
set_option maxRecDepth 20000 in
theorem ggX2_bands_X2_pairBands : GoodIn wsX2_bands wsX2_pairBands := goodIn_r _ [15, 16, 1, 17, 18, 19, 20, 21, 22, 23, 24, 25, 3, 26, 27, 28, 29, 30, 31, 32, 6, 7, 8, 9, 10, 33, 34, 35, 36, 37, 38, 39, 40, 41, 42, 43, 44, 45, 46, 14, 47, 48, 49, 50, 51, 52, 53, 54, 55, 56, 57, 58, 59, 60, 61, 62, 63, 64, 65, 66, 67, 68, 69, 70, 71, 72, 73, 74, 75, 76, 77, 78, 79, 80, 81, 82, 83, 84, 85] (by decide +kernel) (by decide +kernel)
set_option maxRecDepth 20000 in
theorem gX2_bands_X2_pairBands : GoodIn wsX2_bands (wsV RX2 143 RX2 yX2_pairBands wsX2_pairBands) := goodIn_app (goodIn_of _ (by decide +kernel)) ggX2_bands_X2_pairBands
set_option maxRecDepth 20000 in
theorem ggX2_isCombination_X1_hasPair : GoodIn wsX2_isCombination wsX1_hasPair := goodIn_r _ [5, 6, 7, 8, 3, 9, 10, 22, 23, 24, 25, 26, 27] (by decide +kernel) (by decide +kernel)
set_option maxRecDepth 20000 in
theorem gX2_isCombination_X1_hasPair_n120 : GoodIn wsX2_isCombination (wsX1_hasPair) := ggX2_isCombination_X1_hasPair
set_option maxRecDepth 20000 in
theorem ggX2_isCombination_X1_isFactorPair : GoodIn wsX2_isCombination wsX1_isFactorPair := goodIn_r _ [13, 14, 22, 23, 24, 25, 26, 27] (by decide +kernel) (by decide +kernel)
set_option maxRecDepth 20000 in
theorem gX2_isCombination_X1_isFactorPair_n147 : GoodIn wsX2_isCombination (wsX1_isFactorPair) := ggX2_isCombination_X1_isFactorPair
set_option maxRecDepth 20000 in
theorem ggX2_normOfRank_X1_hasPair : GoodIn wsX2_normOfRank wsX1_hasPair := goodIn_r _ [6, 7, 8, 9, 4, 10, 11, 70, 71, 72, 73, 74, 75] (by decide +kernel) (by decide +kernel)
set_option maxRecDepth 20000 in
theorem gX2_normOfRank_X1_hasPair_n120 : GoodIn wsX2_normOfRank (wsX1_hasPair) := ggX2_normOfRank_X1_hasPair
set_option maxRecDepth 20000 in
theorem ggX2_normOfRank_X0_fillPair : GoodIn wsX2_normOfRank wsX0_fillPair := goodIn_r _ [15, 16, 17, 18, 13, 19, 20, 4, 21, 22, 23, 24, 25, 26, 27, 7, 8, 9, 10, 11, 28, 29, 30, 31, 32, 33, 34, 35, 36, 37, 38, 39, 40, 41, 42, 43, 44, 45, 46, 47, 48, 49, 50, 51, 52, 53, 54, 55, 56, 70, 71, 72, 73, 74, 75, 76, 77, 78, 79, 80] (by decide +kernel) (by decide +kernel)
set_option maxRecDepth 20000 in
theorem gX2_normOfRank_X0_fillPair_n123 : GoodIn wsX2_normOfRank (wsX0_fillPair) := ggX2_normOfRank_X0_fillPair
set_option maxRecDepth 20000 in
theorem ggX2_normOfRank_X0_sort : GoodIn wsX2_normOfRank wsX0_sort := goodIn_r _ [59, 37, 56, 76, 77, 78, 79, 80] (by decide +kernel) (by decide +kernel)
set_option maxRecDepth 20000 in
theorem gX2_normOfRank_X0_sort_n126 : GoodIn wsX2_normOfRank (wsX0_sort) := ggX2_normOfRank_X0_sort
set_option maxRecDepth 20000 in
theorem ggX2_normOfRank_X0_normAt : GoodIn wsX2_normOfRank wsX0_normAt := goodIn_r _ [62, 37, 56, 76, 77, 78, 79, 80] (by decide +kernel) (by decide +kernel)
set_option maxRecDepth 20000 in
theorem gX2_normOfRank_X0_normAt_n150 : GoodIn wsX2_normOfRank (wsX0_normAt) := ggX2_normOfRank_X0_normAt
set_option maxRecDepth 20000 in
theorem ggX2_pairBands_X0_fillPair : GoodIn wsX2_pairBands wsX0_fillPair := goodIn_r _ [6, 7, 8, 9, 4, 10, 11, 12, 13, 14, 15, 16, 17, 18, 19, 20, 21, 22, 23, 24, 25, 26, 27, 28, 29, 30, 31, 32, 33, 34, 35, 36, 37, 38, 39, 40, 41, 42, 43, 44, 45, 46, 47, 48, 49, 50, 51, 52, 53, 68, 69, 70, 71, 72, 73, 74, 75, 76, 77, 78] (by decide +kernel) (by decide +kernel)
set_option maxRecDepth 20000 in
theorem gX2_pairBands_X0_fillPair_n123 : GoodIn wsX2_pairBands (wsX0_fillPair) := ggX2_pairBands_X0_fillPair
set_option maxRecDepth 20000 in
theorem ggX2_pairBands_X0_bandCount : GoodIn wsX2_pairBands wsX0_bandCount := goodIn_r _ [56, 34, 53, 57, 58, 59, 4, 60, 36, 37, 74, 75, 76, 77, 78] (by decide +kernel) (by decide +kernel)
set_option maxRecDepth 20000 in
theorem gX2_pairBands_X0_bandCount_n153 : GoodIn wsX2_pairBands (wsX0_bandCount) := ggX2_pairBands_X0_bandCount
set_option maxRecDepth 20000 in
theorem ggX2_tripleBands_X1_hasPair : GoodIn wsX2_tripleBands wsX1_hasPair := goodIn_r _ [6, 7, 8, 9, 4, 10, 11, 65, 66, 67, 68, 69, 70] (by decide +kernel) (by decide +kernel)
set_option maxRecDepth 20000 in
theorem gX2_tripleBands_X1_hasPair_n120 : GoodIn wsX2_tripleBands (wsX1_hasPair) := ggX2_tripleBands_X1_hasPair
set_option maxRecDepth 20000 in
theorem ggX2_tripleBands_X0_fillTriple : GoodIn wsX2_tripleBands wsX0_fillTriple := goodIn_r _ [15, 16, 4, 17, 18, 19, 20, 21, 22, 23, 7, 8, 9, 10, 11, 24, 25, 26, 27, 28, 29, 30, 31, 13, 32, 33, 34, 35, 36, 37, 38, 39, 40, 41, 42, 43, 44, 45, 46, 47, 48, 49, 50, 65, 66, 67, 68, 69, 70, 71, 72, 73, 74, 75] (by decide +kernel) (by decide +kernel)
set_option maxRecDepth 20000 in
theorem gX2_tripleBands_X0_fillTriple_n156 : GoodIn wsX2_tripleBands (wsX0_fillTriple) := ggX2_tripleBands_X0_fillTriple
set_option maxRecDepth 20000 in
theorem ggX2_tripleBands_X0_bandCount : GoodIn wsX2_tripleBands wsX0_bandCount := goodIn_r _ [53, 33, 50, 54, 55, 56, 13, 57, 35, 36, 71, 72, 73, 74, 75] (by decide +kernel) (by decide +kernel)
set_option maxRecDepth 20000 in
theorem gX2_tripleBands_X0_bandCount_n153 : GoodIn wsX2_tripleBands (wsX0_bandCount) := ggX2_tripleBands_X0_bandCount
set_option maxRecDepth 20000 in
theorem ggX2_allBands_X2_bandsOfGroups : GoodIn wsX2_allBands wsX2_bandsOfGroups := goodIn_r _ [6, 7, 8, 9, 10, 11, 12, 13, 14, 15, 16, 17, 18, 19, 20, 21, 22, 23, 24, 25, 26, 27, 28, 29, 30, 31, 32, 33, 34, 35, 36, 37, 38, 39, 40, 41, 42, 43, 44, 45, 46, 47, 48, 49, 50, 5, 51, 52, 53, 54, 55, 56, 57, 58, 59, 60, 61, 62, 63, 64, 65, 66, 67, 68, 69, 70, 71, 72, 73, 74, 75, 76, 77, 78, 79, 80, 81, 82, 83, 84, 85, 86, 87, 88, 89, 90, 91, 92, 93, 94, 95, 96, 97, 98, 99, 100, 101, 102, 103] (by decide +kernel) (by decide +kernel)
set_option maxRecDepth 20000 in
theorem gX2_allBands_X2_bandsOfGroups : GoodIn wsX2_allBands (wsV RX2 160 RX2 yX2_bandsOfGroups wsX2_bandsOfGroups) := goodIn_app (goodIn_of _ (by decide +kernel)) ggX2_allBands_X2_bandsOfGroups
set_option maxRecDepth 20000 in
theorem ggX2_worstPlates_X2_worstPeriodOf : GoodIn wsX2_worstPlates wsX2_worstPeriodOf := goodIn_r _ [6, 7, 8, 9, 10, 11, 12, 13, 14, 15, 16, 17, 18, 19, 20, 21, 22, 23, 24, 25, 26, 27, 28, 29, 30, 31, 32, 33, 34, 35, 36, 37, 38, 39, 40, 41, 42, 43, 44, 45, 46, 47, 48, 49, 50, 5, 51, 52, 53, 54, 55, 56, 57, 58, 59, 60, 61, 62, 63, 64, 65, 66, 67, 68, 69, 70, 71, 72, 73, 74, 75, 76, 77, 78, 79, 80, 81, 82, 83, 84, 85, 86, 87, 88, 89, 90, 91, 92, 93, 94, 95, 96, 97, 98, 99, 100, 101, 102, 103, 104, 105, 106, 107, 108, 109] (by decide +kernel) (by decide +kernel)
set_option maxRecDepth 20000 in
theorem gX2_worstPlates_X2_worstPeriodOf : GoodIn wsX2_worstPlates (wsV RX2 168 RX2 yX2_worstPeriodOf wsX2_worstPeriodOf) := goodIn_app (goodIn_of _ (by decide +kernel)) ggX2_worstPlates_X2_worstPeriodOf
set_option maxRecDepth 20000 in
theorem ggX2_worstPeriod_X2_worstPlates : GoodIn wsX2_worstPeriod wsX2_worstPlates := goodIn_r _ [5, 6, 7, 8, 9, 4, 10, 11, 12, 13, 14, 15, 16, 17, 18, 19, 20, 21, 22, 23, 24, 25, 26, 27, 28, 29, 30, 31, 32, 33, 34, 35, 36, 37, 38, 39, 40, 41, 42, 43, 44, 45, 46, 47, 48, 49, 50, 51, 52, 53, 54, 55, 56, 57, 58, 59, 60, 61, 62, 63, 64, 65, 66, 67, 68, 69, 70, 71, 72, 73, 74, 75, 76, 77, 78, 79, 80, 81, 82, 83, 84, 85, 86, 87, 88, 89, 90, 91, 92, 93, 94, 95, 96, 97, 98, 99, 100, 101, 102, 103, 104, 105, 106, 107, 108, 109, 110, 111, 112, 113] (by decide +kernel) (by decide +kernel)
set_option maxRecDepth 20000 in
theorem gX2_worstPeriod_X2_worstPlates : GoodIn wsX2_worstPeriod (wsV RX2 171 RX2 yX2_worstPlates wsX2_worstPlates) := goodIn_app (goodIn_of _ (by decide +kernel)) ggX2_worstPeriod_X2_worstPlates
set_option maxRecDepth 20000 in
theorem ggX2_worstPeriod_X2_worstPeriodOf : GoodIn wsX2_worstPeriod wsX2_worstPeriodOf := goodIn_r _ [10, 11, 12, 13, 14, 15, 16, 17, 18, 19, 20, 21, 22, 23, 24, 25, 26, 27, 28, 29, 30, 31, 32, 33, 34, 35, 36, 37, 38, 39, 40, 41, 42, 43, 44, 45, 46, 47, 48, 49, 50, 51, 52, 53, 54, 4, 55, 56, 57, 58, 59, 60, 61, 62, 63, 64, 65, 66, 67, 68, 69, 70, 71, 72, 73, 74, 75, 76, 77, 78, 79, 80, 81, 82, 83, 84, 85, 86, 87, 88, 89, 90, 91, 92, 93, 94, 95, 96, 97, 98, 99, 100, 101, 102, 103, 104, 105, 106, 107, 108, 109, 110, 111, 112, 113] (by decide +kernel) (by decide +kernel)
set_option maxRecDepth 20000 in
theorem gX2_worstPeriod_X2_worstPeriodOf : GoodIn wsX2_worstPeriod (wsV RX2 168 RX2 yX2_worstPeriodOf wsX2_worstPeriodOf) := goodIn_app (goodIn_of _ (by decide +kernel)) ggX2_worstPeriod_X2_worstPeriodOf
set_option maxRecDepth 20000 in
theorem ggX2_worstPair_X2_pairBands : GoodIn wsX2_worstPair wsX2_pairBands := goodIn_r _ [6, 7, 1, 8, 9, 10, 11, 12, 13, 14, 15, 16, 17, 18, 19, 20, 21, 22, 23, 24, 25, 26, 27, 28, 29, 30, 31, 32, 33, 34, 35, 36, 37, 38, 39, 40, 41, 42, 43, 5, 44, 45, 46, 47, 48, 49, 50, 51, 52, 53, 54, 55, 56, 57, 58, 59, 60, 61, 62, 63, 64, 65, 66, 67, 68, 69, 70, 71, 72, 73, 74, 75, 76, 77, 78, 79, 80, 81, 82] (by decide +kernel) (by decide +kernel)
set_option maxRecDepth 20000 in
theorem gX2_worstPair_X2_pairBands : GoodIn wsX2_worstPair (wsV RX2 143 RX2 yX2_pairBands wsX2_pairBands) := goodIn_app (goodIn_of _ (by decide +kernel)) ggX2_worstPair_X2_pairBands
set_option maxRecDepth 20000 in
theorem ggX2_worstPeriodOf_X1_hasAll : GoodIn wsX2_worstPeriodOf wsX1_hasAll := goodIn_r _ [6, 7, 94, 95, 96, 97, 98, 99] (by decide +kernel) (by decide +kernel)
set_option maxRecDepth 20000 in
theorem gX2_worstPeriodOf_X1_hasAll_n174 : GoodIn wsX2_worstPeriodOf (wsX1_hasAll) := ggX2_worstPeriodOf_X1_hasAll
set_option maxRecDepth 20000 in
theorem ggX2_worstPeriodOf_X0_fillPlates : GoodIn wsX2_worstPeriodOf wsX0_fillPlates := goodIn_r _ [11, 12, 13, 9, 14, 15, 16, 17, 18, 19, 4, 20, 21, 22, 23, 24, 25, 26, 27, 28, 29, 30, 7, 31, 32, 33, 34, 35, 36, 37, 38, 39, 40, 41, 42, 43, 44, 45, 46, 47, 48, 49, 50, 51, 52, 53, 54, 55, 56, 57, 58, 59, 60, 61, 62, 63, 64, 65, 66, 67, 68, 69, 70, 71, 72, 73, 94, 95, 96, 97, 98, 99, 100, 101, 102, 103, 104] (by decide +kernel) (by decide +kernel)
set_option maxRecDepth 20000 in
theorem gX2_worstPeriodOf_X0_fillPlates_n177 : GoodIn wsX2_worstPeriodOf (wsX0_fillPlates) := ggX2_worstPeriodOf_X0_fillPlates
set_option maxRecDepth 20000 in
theorem ggX2_worstPeriodOf_X0_worstPeriodFound : GoodIn wsX2_worstPeriodOf wsX0_worstPeriodFound := goodIn_r _ [76, 40, 57, 77, 78, 79, 9, 80, 42, 43, 81, 82, 83, 84, 41, 44, 45, 46, 85, 86, 100, 101, 102, 103, 104] (by decide +kernel) (by decide +kernel)
set_option maxRecDepth 20000 in
theorem gX2_worstPeriodOf_X0_worstPeriodFound_n181 : GoodIn wsX2_worstPeriodOf (wsX0_worstPeriodFound) := ggX2_worstPeriodOf_X0_worstPeriodFound
set_option maxRecDepth 20000 in
theorem ggX2_bandsOfGroups_X1_hasAll : GoodIn wsX2_bandsOfGroups wsX1_hasAll := goodIn_r _ [6, 7, 88, 89, 90, 91, 92, 93] (by decide +kernel) (by decide +kernel)
set_option maxRecDepth 20000 in
theorem gX2_bandsOfGroups_X1_hasAll_n174 : GoodIn wsX2_bandsOfGroups (wsX1_hasAll) := ggX2_bandsOfGroups_X1_hasAll
set_option maxRecDepth 20000 in
theorem ggX2_bandsOfGroups_X0_fillPlates : GoodIn wsX2_bandsOfGroups wsX0_fillPlates := goodIn_r _ [11, 12, 13, 9, 14, 15, 16, 17, 18, 19, 4, 20, 21, 22, 23, 24, 25, 26, 27, 28, 29, 30, 7, 31, 32, 33, 34, 35, 36, 37, 38, 39, 40, 41, 42, 43, 44, 45, 46, 47, 48, 49, 50, 51, 52, 53, 54, 55, 56, 57, 58, 59, 60, 61, 62, 63, 64, 65, 66, 67, 68, 69, 70, 71, 72, 73, 88, 89, 90, 91, 92, 93, 94, 95, 96, 97, 98] (by decide +kernel) (by decide +kernel)
set_option maxRecDepth 20000 in
theorem gX2_bandsOfGroups_X0_fillPlates_n177 : GoodIn wsX2_bandsOfGroups (wsX0_fillPlates) := ggX2_bandsOfGroups_X0_fillPlates
set_option maxRecDepth 20000 in
theorem ggX2_bandsOfGroups_X0_bandCount : GoodIn wsX2_bandsOfGroups wsX0_bandCount := goodIn_r _ [76, 40, 57, 77, 78, 79, 9, 80, 42, 43, 94, 95, 96, 97, 98] (by decide +kernel) (by decide +kernel)
set_option maxRecDepth 20000 in
theorem gX2_bandsOfGroups_X0_bandCount_n153 : GoodIn wsX2_bandsOfGroups (wsX0_bandCount) := ggX2_bandsOfGroups_X0_bandCount
set_option maxRecDepth 20000 in
theorem ggX2_bestScreen_X1_has : GoodIn wsX2_bestScreen wsX1_has := goodIn_r _ [5, 6, 108, 109, 110, 111, 112, 113] (by decide +kernel) (by decide +kernel)
set_option maxRecDepth 20000 in
theorem gX2_bestScreen_X1_has_n52 : GoodIn wsX2_bestScreen (wsX1_has) := ggX2_bestScreen_X1_has
set_option maxRecDepth 20000 in
theorem ggX2_bestScreen_X2_search : GoodIn wsX2_bestScreen wsX2_search := goodIn_r _ [11, 1, 12, 13, 14, 15, 16, 17, 18, 10, 19, 20, 3, 21, 22, 23, 24, 25, 2, 4, 5, 6, 26, 27, 28, 29, 30, 31, 32, 33, 34, 35, 36, 37, 38, 39, 40, 41, 42, 43, 44, 45, 46, 47, 48, 49, 50, 51, 52, 53, 54, 55, 56, 57, 58, 59, 60, 61, 62, 63, 64, 65, 66, 67, 68, 69, 70, 71, 72, 73, 74, 75, 76, 77, 78, 79, 80, 81, 82, 83, 84, 85, 86, 87, 88, 89, 90, 91, 92, 93, 94, 95, 96, 97, 98, 99, 100, 101, 102, 103, 104, 105, 106, 107, 108, 109, 110, 111, 112, 113, 114, 115, 116, 117, 118] (by decide +kernel) (by decide +kernel)
set_option maxRecDepth 20000 in
theorem gX2_bestScreen_X2_search : GoodIn wsX2_bestScreen (wsV RX2 184 RX2 yX2_search wsX2_search) := goodIn_app (goodIn_of _ (by decide +kernel)) ggX2_bestScreen_X2_search
set_option maxRecDepth 20000 in
theorem ggX2_bandsWithBest_X2_bestScreen : GoodIn wsX2_bandsWithBest wsX2_bestScreen := goodIn_r _ [7, 1, 8, 9, 10, 11, 12, 13, 14, 15, 6, 16, 2, 17, 18, 19, 20, 21, 22, 23, 24, 25, 26, 27, 28, 29, 30, 31, 32, 33, 34, 35, 36, 37, 38, 39, 40, 41, 42, 43, 44, 45, 46, 47, 48, 49, 50, 51, 52, 53, 54, 55, 56, 57, 58, 59, 60, 61, 62, 63, 64, 65, 66, 67, 68, 69, 70, 71, 72, 73, 74, 75, 76, 77, 78, 79, 80, 81, 82, 83, 84, 85, 86, 87, 88, 89, 90, 91, 92, 93, 94, 95, 96, 97, 98, 99, 100, 101, 102, 103, 104, 105, 106, 107, 108, 109, 110, 111, 112, 113, 114, 115, 116, 117, 118, 119, 120, 121, 122] (by decide +kernel) (by decide +kernel)
set_option maxRecDepth 20000 in
theorem gX2_bandsWithBest_X2_bestScreen : GoodIn wsX2_bandsWithBest (wsV RX2 187 RX2 yX2_bestScreen wsX2_bestScreen) := goodIn_app (goodIn_of _ (by decide +kernel)) ggX2_bandsWithBest_X2_bestScreen
set_option maxRecDepth 20000 in
theorem ggX2_bandsWithBest_X2_copy : GoodIn wsX2_bandsWithBest wsX2_copy := goodIn_r _ [23, 112, 113, 114, 115, 116, 117] (by decide +kernel) (by decide +kernel)
set_option maxRecDepth 20000 in
theorem gX2_bandsWithBest_X2_copy : GoodIn wsX2_bandsWithBest (va_wsS RX2 190 yX2_copy wsX2_copy) := goodIn_app (goodIn_of _ (by decide +kernel)) ggX2_bandsWithBest_X2_copy
set_option maxRecDepth 20000 in
theorem ggX2_bandsWithBest_X1_put : GoodIn wsX2_bandsWithBest wsX1_put := goodIn_r _ [26, 27, 28, 29, 8, 10, 9, 11, 12, 112, 113, 114, 115, 116, 117] (by decide +kernel) (by decide +kernel)
set_option maxRecDepth 20000 in
theorem gX2_bandsWithBest_X1_put_n60 : GoodIn wsX2_bandsWithBest (wsX1_put) := ggX2_bandsWithBest_X1_put
set_option maxRecDepth 20000 in
theorem ggX2_bandsWithBest_X2_bandsOfGroups : GoodIn wsX2_bandsWithBest wsX2_bandsOfGroups := goodIn_r _ [33, 34, 35, 36, 9, 37, 38, 12, 39, 40, 41, 42, 43, 44, 45, 46, 47, 48, 49, 50, 51, 52, 53, 54, 55, 56, 27, 29, 8, 10, 11, 57, 58, 59, 60, 28, 61, 62, 63, 64, 65, 66, 67, 68, 69, 6, 70, 71, 72, 73, 74, 75, 76, 77, 78, 79, 80, 81, 82, 83, 84, 85, 86, 87, 88, 89, 90, 91, 92, 93, 94, 95, 96, 97, 98, 99, 100, 101, 102, 103, 104, 105, 106, 107, 108, 109, 110, 111, 112, 113, 114, 115, 116, 117, 118, 119, 120, 121, 122] (by decide +kernel) (by decide +kernel)
set_option maxRecDepth 20000 in
theorem gX2_bandsWithBest_X2_bandsOfGroups : GoodIn wsX2_bandsWithBest (wsV RX2 160 RX2 yX2_bandsOfGroups wsX2_bandsOfGroups) := goodIn_app (goodIn_of _ (by decide +kernel)) ggX2_bandsWithBest_X2_bandsOfGroups
set_option maxRecDepth 20000 in
theorem ggX2_search_X2_copy : GoodIn wsX2_search wsX2_copy := goodIn_r _ [10, 104, 105, 106, 107, 108, 109] (by decide +kernel) (by decide +kernel)
set_option maxRecDepth 20000 in
theorem gX2_search_X2_copy : GoodIn wsX2_search (va_wsS RX2 190 yX2_copy wsX2_copy) := goodIn_app (goodIn_of _ (by decide +kernel)) ggX2_search_X2_copy
set_option maxRecDepth 20000 in
theorem ggX2_search_X1_put : GoodIn wsX2_search wsX1_put := goodIn_r _ [14, 15, 16, 17, 18, 19, 12, 20, 21, 104, 105, 106, 107, 108, 109] (by decide +kernel) (by decide +kernel)
set_option maxRecDepth 20000 in
theorem gX2_search_X1_put_n60 : GoodIn wsX2_search (wsX1_put) := ggX2_search_X1_put
set_option maxRecDepth 20000 in
theorem ggX2_search_X2_bandsOfGroups : GoodIn wsX2_search wsX2_bandsOfGroups := goodIn_r _ [25, 26, 27, 28, 12, 29, 30, 21, 31, 32, 33, 34, 35, 36, 37, 38, 39, 40, 41, 42, 43, 44, 45, 46, 47, 48, 15, 17, 18, 19, 20, 49, 50, 51, 52, 16, 53, 54, 55, 56, 57, 58, 59, 60, 61, 9, 62, 63, 64, 65, 66, 67, 68, 69, 70, 71, 72, 73, 74, 75, 76, 77, 78, 79, 80, 81, 82, 83, 84, 85, 86, 87, 88, 89, 90, 91, 92, 93, 94, 95, 96, 97, 98, 99, 100, 101, 102, 103, 104, 105, 106, 107, 108, 109, 110, 111, 112, 113, 114] (by decide +kernel) (by decide +kernel)
set_option maxRecDepth 20000 in
theorem gX2_search_X2_bandsOfGroups : GoodIn wsX2_search (wsV RX2 160 RX2 yX2_bandsOfGroups wsX2_bandsOfGroups) := goodIn_app (goodIn_of _ (by decide +kernel)) ggX2_search_X2_bandsOfGroups
set_option maxRecDepth 20000 in
theorem ggX2_search_X1_areaOf : GoodIn wsX2_search wsX1_areaOf := goodIn_r _ [44, 45, 46, 47, 12, 48, 15, 17, 18, 19, 20, 21, 49, 50, 51, 52, 16, 104, 105, 106, 107, 108, 109] (by decide +kernel) (by decide +kernel)
set_option maxRecDepth 20000 in
theorem gX2_search_X1_areaOf_n56 : GoodIn wsX2_search (wsX1_areaOf) := ggX2_search_X1_areaOf
set_option maxRecDepth 20000 in
theorem ggX2_save_X2_isSlot : GoodIn wsX2_save wsX2_isSlot := goodIn_r _ [7] (by decide +kernel) (by decide +kernel)
set_option maxRecDepth 20000 in
theorem gX2_save_X2_isSlot : GoodIn wsX2_save (va_wsS RX2 199 yX2_isSlot wsX2_isSlot) := goodIn_app (goodIn_of _ (by decide +kernel)) ggX2_save_X2_isSlot
set_option maxRecDepth 20000 in
theorem ggX2_save_X2_copy : GoodIn wsX2_save wsX2_copy := goodIn_r _ [10, 18, 19, 20, 21, 22, 23] (by decide +kernel) (by decide +kernel)
set_option maxRecDepth 20000 in
theorem gX2_save_X2_copy : GoodIn wsX2_save (va_wsS RX2 190 yX2_copy wsX2_copy) := goodIn_app (goodIn_of _ (by decide +kernel)) ggX2_save_X2_copy
set_option maxRecDepth 20000 in
theorem ggX2_restore_X2_isSlot : GoodIn wsX2_restore wsX2_isSlot := goodIn_r _ [7] (by decide +kernel) (by decide +kernel)
set_option maxRecDepth 20000 in
theorem gX2_restore_X2_isSlot : GoodIn wsX2_restore (va_wsS RX2 199 yX2_isSlot wsX2_isSlot) := goodIn_app (goodIn_of _ (by decide +kernel)) ggX2_restore_X2_isSlot
set_option maxRecDepth 20000 in
theorem ggX2_restore_X2_record : GoodIn wsX2_restore wsX2_record := goodIn_r _ [11, 12, 3, 13, 14, 15, 16, 6, 17, 18, 19, 20, 21, 22, 23, 24, 25, 26, 27, 28, 29, 30, 31, 32, 33] (by decide +kernel) (by decide +kernel)
set_option maxRecDepth 20000 in
theorem gX2_restore_X2_record : GoodIn wsX2_restore (wsV RX2 45 RX2 yX2_record wsX2_record) := goodIn_app (goodIn_of _ (by decide +kernel)) ggX2_restore_X2_record
set_option maxRecDepth 20000 in
theorem ggX2_restore_X2_copy : GoodIn wsX2_restore wsX2_copy := goodIn_r _ [20, 28, 29, 30, 31, 32, 33] (by decide +kernel) (by decide +kernel)
set_option maxRecDepth 20000 in
theorem gX2_restore_X2_copy : GoodIn wsX2_restore (va_wsS RX2 190 yX2_copy wsX2_copy) := goodIn_app (goodIn_of _ (by decide +kernel)) ggX2_restore_X2_copy
set_option maxRecDepth 20000 in
theorem ggX2_undo_X2_copy : GoodIn wsX2_undo wsX2_copy := goodIn_r _ [7, 15, 16, 17, 18, 19, 20] (by decide +kernel) (by decide +kernel)
set_option maxRecDepth 20000 in
theorem gX2_undo_X2_copy : GoodIn wsX2_undo (va_wsS RX2 190 yX2_copy wsX2_copy) := goodIn_app (goodIn_of _ (by decide +kernel)) ggX2_undo_X2_copy
set_option maxRecDepth 20000 in
theorem ggX2_record_X2_dropOldest : GoodIn wsX2_record wsX2_dropOldest := goodIn_r _ [8, 3, 1, 12, 13, 14, 15, 16, 17, 18] (by decide +kernel) (by decide +kernel)
set_option maxRecDepth 20000 in
theorem gX2_record_X2_dropOldest : GoodIn wsX2_record (wsV RX2 205 RX2 yX2_dropOldest wsX2_dropOldest) := goodIn_app (goodIn_of _ (by decide +kernel)) ggX2_record_X2_dropOldest
set_option maxRecDepth 20000 in
theorem ggX2_record_X2_copy : GoodIn wsX2_record wsX2_copy := goodIn_r _ [11, 19, 20, 21, 22, 23, 24] (by decide +kernel) (by decide +kernel)
set_option maxRecDepth 20000 in
theorem gX2_record_X2_copy : GoodIn wsX2_record (va_wsS RX2 190 yX2_copy wsX2_copy) := goodIn_app (goodIn_of _ (by decide +kernel)) ggX2_record_X2_copy
set_option maxRecDepth 20000 in
theorem ggX3_isPlate_X3_in : GoodIn wsX3_isPlate wsX3_in := goodIn_r _ [5] (by decide +kernel) (by decide +kernel)
set_option maxRecDepth 20000 in
theorem gX3_isPlate_X3_in : GoodIn wsX3_isPlate (va_wsS RX3 27 yX3_in wsX3_in) := goodIn_app (goodIn_of _ (by decide +kernel)) ggX3_isPlate_X3_in
set_option maxRecDepth 20000 in
theorem ggX3_isPair_X3_isPlate : GoodIn wsX3_isPair wsX3_isPlate := goodIn_r _ [5, 6, 7, 8, 4, 9, 10, 11, 12, 13, 14, 15, 16, 17, 18, 19] (by decide +kernel) (by decide +kernel)
set_option maxRecDepth 20000 in
theorem gX3_isPair_X3_isPlate : GoodIn wsX3_isPair (wsV RX3 31 RX3 yX3_isPlate wsX3_isPlate) := goodIn_app (goodIn_of _ (by decide +kernel)) ggX3_isPair_X3_isPlate
set_option maxRecDepth 20000 in
theorem ggX3_isVector_X3_in : GoodIn wsX3_isVector wsX3_in := goodIn_r _ [4] (by decide +kernel) (by decide +kernel)
set_option maxRecDepth 20000 in
theorem gX3_isVector_X3_in : GoodIn wsX3_isVector (va_wsS RX3 27 yX3_in wsX3_in) := goodIn_app (goodIn_of _ (by decide +kernel)) ggX3_isVector_X3_in
set_option maxRecDepth 20000 in
theorem ggX3_areaOf_X3_firstOf : GoodIn wsX3_areaOf wsX3_firstOf := goodIn_r _ [5, 6, 11, 12, 13, 14, 15, 16, 17, 18, 19, 20] (by decide +kernel) (by decide +kernel)
set_option maxRecDepth 20000 in
theorem gX3_areaOf_X3_firstOf : GoodIn wsX3_areaOf (wsV RX3 35 RX3 yX3_firstOf wsX3_firstOf) := goodIn_app (goodIn_of _ (by decide +kernel)) ggX3_areaOf_X3_firstOf
set_option maxRecDepth 20000 in
theorem ggX3_areaOf_X3_secondOf : GoodIn wsX3_areaOf wsX3_secondOf := goodIn_r _ [10, 6, 11, 12, 13, 14, 15, 16, 17, 18, 19, 20] (by decide +kernel) (by decide +kernel)
set_option maxRecDepth 20000 in
theorem gX3_areaOf_X3_secondOf : GoodIn wsX3_areaOf (wsV RX3 39 RX3 yX3_secondOf wsX3_secondOf) := goodIn_app (goodIn_of _ (by decide +kernel)) ggX3_areaOf_X3_secondOf
set_option maxRecDepth 20000 in
theorem ggX3_addPlate_X3_isVector : GoodIn wsX3_addPlate wsX3_isVector := goodIn_r _ [5, 6, 7, 4, 8] (by decide +kernel) (by decide +kernel)
set_option maxRecDepth 20000 in
theorem gX3_addPlate_X3_isVector : GoodIn wsX3_addPlate (va_wsS RX3 42 yX3_isVector wsX3_isVector) := goodIn_app (goodIn_of _ (by decide +kernel)) ggX3_addPlate_X3_isVector
set_option maxRecDepth 20000 in
theorem ggX3_addPlate_X3_records : GoodIn wsX3_addPlate wsX3_records := goodIn_r _ [12, 13, 14, 1, 15, 16, 17, 18, 19, 20, 21, 22, 23, 24] (by decide +kernel) (by decide +kernel)
set_option maxRecDepth 20000 in
theorem gX3_addPlate_X3_records : GoodIn wsX3_addPlate (wsV RX3 46 RX3 yX3_records wsX3_records) := goodIn_app (goodIn_of _ (by decide +kernel)) ggX3_addPlate_X3_records
set_option maxRecDepth 20000 in
theorem ggX3_setScreen_X3_isPlate : GoodIn wsX3_setScreen wsX3_isPlate := goodIn_r _ [6, 1, 7, 8, 5, 9, 31, 32, 33, 34, 35, 36, 37, 38, 39, 40] (by decide +kernel) (by decide +kernel)
set_option maxRecDepth 20000 in
theorem gX3_setScreen_X3_isPlate : GoodIn wsX3_setScreen (wsV RX3 31 RX3 yX3_isPlate wsX3_isPlate) := goodIn_app (goodIn_of _ (by decide +kernel)) ggX3_setScreen_X3_isPlate
set_option maxRecDepth 20000 in
theorem ggX3_setScreen_X3_isVector : GoodIn wsX3_setScreen wsX3_isVector := goodIn_r _ [12, 7, 8, 5, 9] (by decide +kernel) (by decide +kernel)
set_option maxRecDepth 20000 in
theorem gX3_setScreen_X3_isVector : GoodIn wsX3_setScreen (va_wsS RX3 42 yX3_isVector wsX3_isVector) := goodIn_app (goodIn_of _ (by decide +kernel)) ggX3_setScreen_X3_isVector
set_option maxRecDepth 20000 in
theorem ggX3_setScreen_X3_records : GoodIn wsX3_setScreen wsX3_records := goodIn_r _ [16, 17, 18, 1, 31, 32, 33, 34, 35, 36, 37, 38, 39, 40] (by decide +kernel) (by decide +kernel)
set_option maxRecDepth 20000 in
theorem gX3_setScreen_X3_records : GoodIn wsX3_setScreen (wsV RX3 46 RX3 yX3_records wsX3_records) := goodIn_app (goodIn_of _ (by decide +kernel)) ggX3_setScreen_X3_records
set_option maxRecDepth 20000 in
theorem ggX3_setScreen_X3_areaOf : GoodIn wsX3_setScreen wsX3_areaOf := goodIn_r _ [22, 23, 24, 25, 5, 26, 1, 27, 28, 29, 30, 31, 32, 33, 34, 35, 36, 37, 38, 39, 40] (by decide +kernel) (by decide +kernel)
set_option maxRecDepth 20000 in
theorem gX3_setScreen_X3_areaOf : GoodIn wsX3_setScreen (wsV RX3 49 RX3 yX3_areaOf wsX3_areaOf) := goodIn_app (goodIn_of _ (by decide +kernel)) ggX3_setScreen_X3_areaOf
set_option maxRecDepth 20000 in
theorem ggX3_removePlate_X3_isPlate : GoodIn wsX3_removePlate wsX3_isPlate := goodIn_r _ [6, 1, 7, 8, 5, 9, 16, 17, 18, 19, 20, 21, 22, 23, 24, 25] (by decide +kernel) (by decide +kernel)
set_option maxRecDepth 20000 in
theorem gX3_removePlate_X3_isPlate : GoodIn wsX3_removePlate (wsV RX3 31 RX3 yX3_isPlate wsX3_isPlate) := goodIn_app (goodIn_of _ (by decide +kernel)) ggX3_removePlate_X3_isPlate
set_option maxRecDepth 20000 in
theorem ggX3_removePlate_X3_records : GoodIn wsX3_removePlate wsX3_records := goodIn_r _ [13, 14, 15, 1, 16, 17, 18, 19, 20, 21, 22, 23, 24, 25] (by decide +kernel) (by decide +kernel)
set_option maxRecDepth 20000 in
theorem gX3_removePlate_X3_records : GoodIn wsX3_removePlate (wsV RX3 46 RX3 yX3_records wsX3_records) := goodIn_app (goodIn_of _ (by decide +kernel)) ggX3_removePlate_X3_records
set_option maxRecDepth 20000 in
theorem ggX3_cellP_X3_isPlate : GoodIn wsX3_cellP wsX3_isPlate := goodIn_r _ [5, 6, 7, 8, 4, 9, 14, 15, 16, 17, 18, 19, 20, 21, 22, 23] (by decide +kernel) (by decide +kernel)
set_option maxRecDepth 20000 in
theorem gX3_cellP_X3_isPlate : GoodIn wsX3_cellP (wsV RX3 31 RX3 yX3_isPlate wsX3_isPlate) := goodIn_app (goodIn_of _ (by decide +kernel)) ggX3_cellP_X3_isPlate
set_option maxRecDepth 20000 in
theorem ggX3_cellP_X3_firstOf : GoodIn wsX3_cellP wsX3_firstOf := goodIn_r _ [13, 6, 14, 15, 16, 17, 18, 19, 20, 21, 22, 23] (by decide +kernel) (by decide +kernel)
set_option maxRecDepth 20000 in
theorem gX3_cellP_X3_firstOf : GoodIn wsX3_cellP (wsV RX3 35 RX3 yX3_firstOf wsX3_firstOf) := goodIn_app (goodIn_of _ (by decide +kernel)) ggX3_cellP_X3_firstOf
set_option maxRecDepth 20000 in
theorem ggX3_cellQ_X3_isPlate : GoodIn wsX3_cellQ wsX3_isPlate := goodIn_r _ [5, 6, 7, 8, 4, 9, 14, 15, 16, 17, 18, 19, 20, 21, 22, 23] (by decide +kernel) (by decide +kernel)
set_option maxRecDepth 20000 in
theorem gX3_cellQ_X3_isPlate : GoodIn wsX3_cellQ (wsV RX3 31 RX3 yX3_isPlate wsX3_isPlate) := goodIn_app (goodIn_of _ (by decide +kernel)) ggX3_cellQ_X3_isPlate
set_option maxRecDepth 20000 in
theorem ggX3_cellQ_X3_secondOf : GoodIn wsX3_cellQ wsX3_secondOf := goodIn_r _ [13, 6, 14, 15, 16, 17, 18, 19, 20, 21, 22, 23] (by decide +kernel) (by decide +kernel)
set_option maxRecDepth 20000 in
theorem gX3_cellQ_X3_secondOf : GoodIn wsX3_cellQ (wsV RX3 39 RX3 yX3_secondOf wsX3_secondOf) := goodIn_app (goodIn_of _ (by decide +kernel)) ggX3_cellQ_X3_secondOf
set_option maxRecDepth 20000 in
theorem ggX3_cellArea_X3_isPlate : GoodIn wsX3_cellArea wsX3_isPlate := goodIn_r _ [5, 6, 7, 8, 4, 9, 22, 23, 24, 25, 26, 27, 28, 29, 30, 31] (by decide +kernel) (by decide +kernel)
set_option maxRecDepth 20000 in
theorem gX3_cellArea_X3_isPlate : GoodIn wsX3_cellArea (wsV RX3 31 RX3 yX3_isPlate wsX3_isPlate) := goodIn_app (goodIn_of _ (by decide +kernel)) ggX3_cellArea_X3_isPlate
set_option maxRecDepth 20000 in
theorem ggX3_cellArea_X3_areaOf : GoodIn wsX3_cellArea wsX3_areaOf := goodIn_r _ [13, 14, 15, 16, 4, 17, 6, 18, 19, 20, 21, 22, 23, 24, 25, 26, 27, 28, 29, 30, 31] (by decide +kernel) (by decide +kernel)
set_option maxRecDepth 20000 in
theorem gX3_cellArea_X3_areaOf : GoodIn wsX3_cellArea (wsV RX3 49 RX3 yX3_areaOf wsX3_areaOf) := goodIn_app (goodIn_of _ (by decide +kernel)) ggX3_cellArea_X3_areaOf
set_option maxRecDepth 20000 in
theorem ggX3_tileOf_X3_areaOf : GoodIn wsX3_tileOf wsX3_areaOf := goodIn_r _ [5, 6, 7, 8, 4, 9, 10, 11, 12, 13, 14, 18, 19, 20, 21, 22, 23, 24, 25, 26, 27] (by decide +kernel) (by decide +kernel)
set_option maxRecDepth 20000 in
theorem gX3_tileOf_X3_areaOf : GoodIn wsX3_tileOf (wsV RX3 49 RX3 yX3_areaOf wsX3_areaOf) := goodIn_app (goodIn_of _ (by decide +kernel)) ggX3_tileOf_X3_areaOf
set_option maxRecDepth 20000 in
theorem ggX3_tileOf_X3_firstOf : GoodIn wsX3_tileOf wsX3_firstOf := goodIn_r _ [9, 10, 18, 19, 20, 21, 22, 23, 24, 25, 26, 27] (by decide +kernel) (by decide +kernel)
set_option maxRecDepth 20000 in
theorem gX3_tileOf_X3_firstOf : GoodIn wsX3_tileOf (wsV RX3 35 RX3 yX3_firstOf wsX3_firstOf) := goodIn_app (goodIn_of _ (by decide +kernel)) ggX3_tileOf_X3_firstOf
set_option maxRecDepth 20000 in
theorem ggX3_tileOf_X3_secondOf : GoodIn wsX3_tileOf wsX3_secondOf := goodIn_r _ [14, 10, 18, 19, 20, 21, 22, 23, 24, 25, 26, 27] (by decide +kernel) (by decide +kernel)
set_option maxRecDepth 20000 in
theorem gX3_tileOf_X3_secondOf : GoodIn wsX3_tileOf (wsV RX3 39 RX3 yX3_secondOf wsX3_secondOf) := goodIn_app (goodIn_of _ (by decide +kernel)) ggX3_tileOf_X3_secondOf
set_option maxRecDepth 20000 in
theorem ggX3_tileOf_X3_common : GoodIn wsX3_tileOf wsX3_common := goodIn_r _ [17] (by decide +kernel) (by decide +kernel)
set_option maxRecDepth 20000 in
theorem gX3_tileOf_X3_common : GoodIn wsX3_tileOf (va_wsS RX3 52 yX3_common wsX3_common) := goodIn_app (goodIn_of _ (by decide +kernel)) ggX3_tileOf_X3_common
set_option maxRecDepth 20000 in
theorem ggX3_tile_X3_isPlate : GoodIn wsX3_tile wsX3_isPlate := goodIn_r _ [5, 6, 7, 8, 4, 9, 29, 30, 31, 32, 33, 34, 35, 36, 37, 38] (by decide +kernel) (by decide +kernel)
set_option maxRecDepth 20000 in
theorem gX3_tile_X3_isPlate : GoodIn wsX3_tile (wsV RX3 31 RX3 yX3_isPlate wsX3_isPlate) := goodIn_app (goodIn_of _ (by decide +kernel)) ggX3_tile_X3_isPlate
set_option maxRecDepth 20000 in
theorem ggX3_tile_X3_tileOf : GoodIn wsX3_tile wsX3_tileOf := goodIn_r _ [13, 14, 15, 16, 4, 17, 18, 19, 20, 21, 6, 22, 23, 24, 25, 26, 27, 28, 29, 30, 31, 32, 33, 34, 35, 36, 37, 38] (by decide +kernel) (by decide +kernel)
set_option maxRecDepth 20000 in
theorem gX3_tile_X3_tileOf : GoodIn wsX3_tile (wsV RX3 56 RX3 yX3_tileOf wsX3_tileOf) := goodIn_app (goodIn_of _ (by decide +kernel)) ggX3_tile_X3_tileOf
set_option maxRecDepth 20000 in
theorem ggX3_commonTile_X3_tileOf : GoodIn wsX3_commonTile wsX3_tileOf := goodIn_r _ [6, 7, 8, 9, 5, 10, 11, 12, 13, 14, 1, 15, 16, 17, 18, 19, 20, 21, 22, 23, 24, 25, 26, 27, 28, 29, 30, 31] (by decide +kernel) (by decide +kernel)
set_option maxRecDepth 20000 in
theorem gX3_commonTile_X3_tileOf : GoodIn wsX3_commonTile (wsV RX3 56 RX3 yX3_tileOf wsX3_tileOf) := goodIn_app (goodIn_of _ (by decide +kernel)) ggX3_commonTile_X3_tileOf
set_option maxRecDepth 20000 in
theorem ggX3_commonTile_X3_common : GoodIn wsX3_commonTile wsX3_common := goodIn_r _ [21] (by decide +kernel) (by decide +kernel)
set_option maxRecDepth 20000 in
theorem gX3_commonTile_X3_common : GoodIn wsX3_commonTile (va_wsS RX3 52 yX3_common wsX3_common) := goodIn_app (goodIn_of _ (by decide +kernel)) ggX3_commonTile_X3_common
set_option maxRecDepth 20000 in
theorem ggX3_isAhead_X3_secondOf : GoodIn wsX3_isAhead wsX3_secondOf := goodIn_r _ [5, 6, 11, 12, 13, 14, 15, 16, 17, 18, 19, 20] (by decide +kernel) (by decide +kernel)
set_option maxRecDepth 20000 in
theorem gX3_isAhead_X3_secondOf : GoodIn wsX3_isAhead (wsV RX3 39 RX3 yX3_secondOf wsX3_secondOf) := goodIn_app (goodIn_of _ (by decide +kernel)) ggX3_isAhead_X3_secondOf
set_option maxRecDepth 20000 in
theorem ggX3_isAhead_X3_firstOf : GoodIn wsX3_isAhead wsX3_firstOf := goodIn_r _ [10, 6, 11, 12, 13, 14, 15, 16, 17, 18, 19, 20] (by decide +kernel) (by decide +kernel)
set_option maxRecDepth 20000 in
theorem gX3_isAhead_X3_firstOf : GoodIn wsX3_isAhead (wsV RX3 35 RX3 yX3_firstOf wsX3_firstOf) := goodIn_app (goodIn_of _ (by decide +kernel)) ggX3_isAhead_X3_firstOf
set_option maxRecDepth 20000 in
theorem ggX3_byAngle_X3_isAhead : GoodIn wsX3_byAngle wsX3_isAhead := goodIn_r _ [6, 7, 8, 9, 5, 10, 1, 11, 12, 13, 14, 15, 16, 17, 18, 19, 20, 21, 22, 23, 24] (by decide +kernel) (by decide +kernel)
set_option maxRecDepth 20000 in
theorem gX3_byAngle_X3_isAhead : GoodIn wsX3_byAngle (wsV RX3 59 RX3 yX3_isAhead wsX3_isAhead) := goodIn_app (goodIn_of _ (by decide +kernel)) ggX3_byAngle_X3_isAhead
set_option maxRecDepth 20000 in
theorem ggX3_setOrder_X3_in : GoodIn wsX3_setOrder wsX3_in := goodIn_r _ [5] (by decide +kernel) (by decide +kernel)
set_option maxRecDepth 20000 in
theorem gX3_setOrder_X3_in : GoodIn wsX3_setOrder (va_wsS RX3 27 yX3_in wsX3_in) := goodIn_app (goodIn_of _ (by decide +kernel)) ggX3_setOrder_X3_in
set_option maxRecDepth 20000 in
theorem ggX3_setOrder_X3_records : GoodIn wsX3_setOrder wsX3_records := goodIn_r _ [9, 10, 11, 1, 12, 13, 14, 15, 16, 17, 18, 19, 20, 21] (by decide +kernel) (by decide +kernel)
set_option maxRecDepth 20000 in
theorem gX3_setOrder_X3_records : GoodIn wsX3_setOrder (wsV RX3 46 RX3 yX3_records wsX3_records) := goodIn_app (goodIn_of _ (by decide +kernel)) ggX3_setOrder_X3_records
set_option maxRecDepth 20000 in
theorem ggX3_setLimits_X3_in : GoodIn wsX3_setLimits wsX3_in := goodIn_r _ [5] (by decide +kernel) (by decide +kernel)
set_option maxRecDepth 20000 in
theorem gX3_setLimits_X3_in : GoodIn wsX3_setLimits (va_wsS RX3 27 yX3_in wsX3_in) := goodIn_app (goodIn_of _ (by decide +kernel)) ggX3_setLimits_X3_in
set_option maxRecDepth 20000 in
theorem ggX3_setLimits_X3_records : GoodIn wsX3_setLimits wsX3_records := goodIn_r _ [9, 10, 11, 1, 12, 13, 14, 15, 16, 17, 18, 19, 20, 21] (by decide +kernel) (by decide +kernel)
set_option maxRecDepth 20000 in
theorem gX3_setLimits_X3_records : GoodIn wsX3_setLimits (wsV RX3 46 RX3 yX3_records wsX3_records) := goodIn_app (goodIn_of _ (by decide +kernel)) ggX3_setLimits_X3_records
set_option maxRecDepth 20000 in
theorem ggX3_pairSquare_X3_areaOf : GoodIn wsX3_pairSquare wsX3_areaOf := goodIn_r _ [5, 6, 7, 8, 4, 9, 10, 11, 12, 13, 14, 15, 16, 17, 18, 19, 20, 21, 22, 23, 24] (by decide +kernel) (by decide +kernel)
set_option maxRecDepth 20000 in
theorem gX3_pairSquare_X3_areaOf : GoodIn wsX3_pairSquare (wsV RX3 49 RX3 yX3_areaOf wsX3_areaOf) := goodIn_app (goodIn_of _ (by decide +kernel)) ggX3_pairSquare_X3_areaOf
set_option maxRecDepth 20000 in
theorem ggX3_pairSquare_X3_firstOf : GoodIn wsX3_pairSquare wsX3_firstOf := goodIn_r _ [9, 10, 15, 16, 17, 18, 19, 20, 21, 22, 23, 24] (by decide +kernel) (by decide +kernel)
set_option maxRecDepth 20000 in
theorem gX3_pairSquare_X3_firstOf : GoodIn wsX3_pairSquare (wsV RX3 35 RX3 yX3_firstOf wsX3_firstOf) := goodIn_app (goodIn_of _ (by decide +kernel)) ggX3_pairSquare_X3_firstOf
set_option maxRecDepth 20000 in
theorem ggX3_pairSquare_X3_secondOf : GoodIn wsX3_pairSquare wsX3_secondOf := goodIn_r _ [14, 10, 15, 16, 17, 18, 19, 20, 21, 22, 23, 24] (by decide +kernel) (by decide +kernel)
set_option maxRecDepth 20000 in
theorem gX3_pairSquare_X3_secondOf : GoodIn wsX3_pairSquare (wsV RX3 39 RX3 yX3_secondOf wsX3_secondOf) := goodIn_app (goodIn_of _ (by decide +kernel)) ggX3_pairSquare_X3_secondOf
set_option maxRecDepth 20000 in
theorem ggX3_pairBase_X3_areaOf : GoodIn wsX3_pairBase wsX3_areaOf := goodIn_r _ [5, 6, 7, 8, 4, 9, 10, 11, 12, 13, 14, 15, 16, 17, 18, 19, 20, 21, 22, 23, 24] (by decide +kernel) (by decide +kernel)
set_option maxRecDepth 20000 in
theorem gX3_pairBase_X3_areaOf : GoodIn wsX3_pairBase (wsV RX3 49 RX3 yX3_areaOf wsX3_areaOf) := goodIn_app (goodIn_of _ (by decide +kernel)) ggX3_pairBase_X3_areaOf
set_option maxRecDepth 20000 in
theorem ggX3_part_X3_secondOf : GoodIn wsX3_part wsX3_secondOf := goodIn_r _ [5, 6, 11, 12, 13, 14, 15, 16, 17, 18, 19, 20] (by decide +kernel) (by decide +kernel)
set_option maxRecDepth 20000 in
theorem gX3_part_X3_secondOf : GoodIn wsX3_part (wsV RX3 39 RX3 yX3_secondOf wsX3_secondOf) := goodIn_app (goodIn_of _ (by decide +kernel)) ggX3_part_X3_secondOf
set_option maxRecDepth 20000 in
theorem ggX3_part_X3_firstOf : GoodIn wsX3_part wsX3_firstOf := goodIn_r _ [10, 6, 11, 12, 13, 14, 15, 16, 17, 18, 19, 20] (by decide +kernel) (by decide +kernel)
set_option maxRecDepth 20000 in
theorem gX3_part_X3_firstOf : GoodIn wsX3_part (wsV RX3 35 RX3 yX3_firstOf wsX3_firstOf) := goodIn_app (goodIn_of _ (by decide +kernel)) ggX3_part_X3_firstOf
set_option maxRecDepth 20000 in
theorem ggX3_tripleSquare_X3_areaOf : GoodIn wsX3_tripleSquare wsX3_areaOf := goodIn_r _ [5, 6, 7, 8, 4, 9, 10, 11, 12, 13, 14, 19, 20, 21, 22, 23, 24, 25, 26, 27, 28] (by decide +kernel) (by decide +kernel)
set_option maxRecDepth 20000 in
theorem gX3_tripleSquare_X3_areaOf : GoodIn wsX3_tripleSquare (wsV RX3 49 RX3 yX3_areaOf wsX3_areaOf) := goodIn_app (goodIn_of _ (by decide +kernel)) ggX3_tripleSquare_X3_areaOf
set_option maxRecDepth 20000 in
theorem ggX3_tripleSquare_X3_part : GoodIn wsX3_tripleSquare wsX3_part := goodIn_r _ [18, 11, 12, 13, 4, 14, 10, 6, 7, 8, 9, 19, 20, 21, 22, 23, 24, 25, 26, 27, 28] (by decide +kernel) (by decide +kernel)
set_option maxRecDepth 20000 in
theorem gX3_tripleSquare_X3_part : GoodIn wsX3_tripleSquare (wsV RX3 62 RX3 yX3_part wsX3_part) := goodIn_app (goodIn_of _ (by decide +kernel)) ggX3_tripleSquare_X3_part
set_option maxRecDepth 20000 in
theorem ggX3_tripleBase_X3_areaOf : GoodIn wsX3_tripleBase wsX3_areaOf := goodIn_r _ [5, 6, 7, 8, 4, 9, 10, 11, 12, 13, 14, 15, 16, 17, 18, 19, 20, 21, 22, 23, 24] (by decide +kernel) (by decide +kernel)
set_option maxRecDepth 20000 in
theorem gX3_tripleBase_X3_areaOf : GoodIn wsX3_tripleBase (wsV RX3 49 RX3 yX3_areaOf wsX3_areaOf) := goodIn_app (goodIn_of _ (by decide +kernel)) ggX3_tripleBase_X3_areaOf
set_option maxRecDepth 20000 in
theorem ggX3_isPart_X3_in : GoodIn wsX3_isPart wsX3_in := goodIn_r _ [5] (by decide +kernel) (by decide +kernel)
set_option maxRecDepth 20000 in
theorem gX3_isPart_X3_in : GoodIn wsX3_isPart (va_wsS RX3 27 yX3_in wsX3_in) := goodIn_app (goodIn_of _ (by decide +kernel)) ggX3_isPart_X3_in
set_option maxRecDepth 20000 in
theorem ggX3_isCombination_X3_isPair : GoodIn wsX3_isCombination wsX3_isPair := goodIn_r _ [5, 6, 7, 8, 4, 9, 10, 11, 12, 13, 18, 19, 20, 21, 22, 23, 24, 25, 26, 27] (by decide +kernel) (by decide +kernel)
set_option maxRecDepth 20000 in
theorem gX3_isCombination_X3_isPair : GoodIn wsX3_isCombination (wsV RX3 70 RX3 yX3_isPair wsX3_isPair) := goodIn_app (goodIn_of _ (by decide +kernel)) ggX3_isCombination_X3_isPair
set_option maxRecDepth 20000 in
theorem ggX3_isCombination_X3_isPart : GoodIn wsX3_isCombination wsX3_isPart := goodIn_r _ [17, 10, 11, 12, 4, 13, 18, 19, 20, 21, 22, 23, 24, 25, 26, 27] (by decide +kernel) (by decide +kernel)
set_option maxRecDepth 20000 in
theorem gX3_isCombination_X3_isPart : GoodIn wsX3_isCombination (wsV RX3 73 RX3 yX3_isPart wsX3_isPart) := goodIn_app (goodIn_of _ (by decide +kernel)) ggX3_isCombination_X3_isPart
set_option maxRecDepth 20000 in
theorem ggX3_squareNumerator_X3_isCombination : GoodIn wsX3_squareNumerator wsX3_isCombination := goodIn_r _ [6, 7, 8, 9, 5, 10, 11, 12, 13, 14, 15, 16, 17, 18, 19, 20, 21, 22, 46, 47, 48, 49, 50, 51, 52, 53, 54, 55] (by decide +kernel) (by decide +kernel)
set_option maxRecDepth 20000 in
theorem gX3_squareNumerator_X3_isCombination : GoodIn wsX3_squareNumerator (wsV RX3 76 RX3 yX3_isCombination wsX3_isCombination) := goodIn_app (goodIn_of _ (by decide +kernel)) ggX3_squareNumerator_X3_isCombination
set_option maxRecDepth 20000 in
theorem ggX3_squareNumerator_X3_pairSquare : GoodIn wsX3_squareNumerator wsX3_pairSquare := goodIn_r _ [26, 27, 28, 29, 5, 30, 31, 32, 33, 34, 15, 35, 36, 37, 38, 46, 47, 48, 49, 50, 51, 52, 53, 54, 55] (by decide +kernel) (by decide +kernel)
set_option maxRecDepth 20000 in
theorem gX3_squareNumerator_X3_pairSquare : GoodIn wsX3_squareNumerator (wsV RX3 82 RX3 yX3_pairSquare wsX3_pairSquare) := goodIn_app (goodIn_of _ (by decide +kernel)) ggX3_squareNumerator_X3_pairSquare
set_option maxRecDepth 20000 in
theorem ggX3_squareNumerator_X3_pairBase : GoodIn wsX3_squareNumerator wsX3_pairBase := goodIn_r _ [42, 27, 28, 29, 5, 30, 31, 32, 33, 34, 15, 35, 36, 37, 38, 46, 47, 48, 49, 50, 51, 52, 53, 54, 55] (by decide +kernel) (by decide +kernel)
set_option maxRecDepth 20000 in
theorem gX3_squareNumerator_X3_pairBase : GoodIn wsX3_squareNumerator (wsV RX3 86 RX3 yX3_pairBase wsX3_pairBase) := goodIn_app (goodIn_of _ (by decide +kernel)) ggX3_squareNumerator_X3_pairBase
set_option maxRecDepth 20000 in
theorem ggX3_squareNumerator_X3_common : GoodIn wsX3_squareNumerator wsX3_common := goodIn_r _ [45] (by decide +kernel) (by decide +kernel)
set_option maxRecDepth 20000 in
theorem gX3_squareNumerator_X3_common : GoodIn wsX3_squareNumerator (va_wsS RX3 52 yX3_common wsX3_common) := goodIn_app (goodIn_of _ (by decide +kernel)) ggX3_squareNumerator_X3_common
set_option maxRecDepth 20000 in
theorem ggX3_squareDenominator_X3_isCombination : GoodIn wsX3_squareDenominator wsX3_isCombination := goodIn_r _ [6, 7, 8, 9, 5, 10, 11, 12, 13, 14, 15, 16, 17, 18, 19, 20, 21, 22, 46, 47, 48, 49, 50, 51, 52, 53, 54, 55] (by decide +kernel) (by decide +kernel)
set_option maxRecDepth 20000 in
theorem gX3_squareDenominator_X3_isCombination : GoodIn wsX3_squareDenominator (wsV RX3 76 RX3 yX3_isCombination wsX3_isCombination) := goodIn_app (goodIn_of _ (by decide +kernel)) ggX3_squareDenominator_X3_isCombination
set_option maxRecDepth 20000 in
theorem ggX3_squareDenominator_X3_pairBase : GoodIn wsX3_squareDenominator wsX3_pairBase := goodIn_r _ [26, 27, 28, 29, 5, 30, 31, 32, 33, 34, 15, 35, 36, 37, 38, 46, 47, 48, 49, 50, 51, 52, 53, 54, 55] (by decide +kernel) (by decide +kernel)
set_option maxRecDepth 20000 in
theorem gX3_squareDenominator_X3_pairBase : GoodIn wsX3_squareDenominator (wsV RX3 86 RX3 yX3_pairBase wsX3_pairBase) := goodIn_app (goodIn_of _ (by decide +kernel)) ggX3_squareDenominator_X3_pairBase
set_option maxRecDepth 20000 in
theorem ggX3_squareDenominator_X3_pairSquare : GoodIn wsX3_squareDenominator wsX3_pairSquare := goodIn_r _ [42, 27, 28, 29, 5, 30, 31, 32, 33, 34, 15, 35, 36, 37, 38, 46, 47, 48, 49, 50, 51, 52, 53, 54, 55] (by decide +kernel) (by decide +kernel)
set_option maxRecDepth 20000 in
theorem gX3_squareDenominator_X3_pairSquare : GoodIn wsX3_squareDenominator (wsV RX3 82 RX3 yX3_pairSquare wsX3_pairSquare) := goodIn_app (goodIn_of _ (by decide +kernel)) ggX3_squareDenominator_X3_pairSquare
set_option maxRecDepth 20000 in
theorem ggX3_squareDenominator_X3_common : GoodIn wsX3_squareDenominator wsX3_common := goodIn_r _ [45] (by decide +kernel) (by decide +kernel)
set_option maxRecDepth 20000 in
theorem gX3_squareDenominator_X3_common : GoodIn wsX3_squareDenominator (va_wsS RX3 52 yX3_common wsX3_common) := goodIn_app (goodIn_of _ (by decide +kernel)) ggX3_squareDenominator_X3_common
set_option maxRecDepth 20000 in
theorem ggX3_kind_X3_isCombination : GoodIn wsX3_kind wsX3_isCombination := goodIn_r _ [5, 6, 7, 8, 4, 9, 10, 11, 12, 13, 14, 15, 16, 17, 18, 19, 20, 21, 46, 47, 48, 49, 50, 51, 52, 53, 54, 55] (by decide +kernel) (by decide +kernel)
set_option maxRecDepth 20000 in
theorem gX3_kind_X3_isCombination : GoodIn wsX3_kind (wsV RX3 76 RX3 yX3_isCombination wsX3_isCombination) := goodIn_app (goodIn_of _ (by decide +kernel)) ggX3_kind_X3_isCombination
set_option maxRecDepth 20000 in
theorem ggX3_kind_X3_pairSquare : GoodIn wsX3_kind wsX3_pairSquare := goodIn_r _ [25, 26, 27, 28, 4, 29, 30, 31, 32, 33, 14, 34, 35, 36, 37, 46, 47, 48, 49, 50, 51, 52, 53, 54, 55] (by decide +kernel) (by decide +kernel)
set_option maxRecDepth 20000 in
theorem gX3_kind_X3_pairSquare : GoodIn wsX3_kind (wsV RX3 82 RX3 yX3_pairSquare wsX3_pairSquare) := goodIn_app (goodIn_of _ (by decide +kernel)) ggX3_kind_X3_pairSquare
set_option maxRecDepth 20000 in
theorem ggX3_kind_X3_pairBase : GoodIn wsX3_kind wsX3_pairBase := goodIn_r _ [41, 26, 27, 28, 4, 29, 30, 31, 32, 33, 14, 34, 35, 36, 37, 46, 47, 48, 49, 50, 51, 52, 53, 54, 55] (by decide +kernel) (by decide +kernel)
set_option maxRecDepth 20000 in
theorem gX3_kind_X3_pairBase : GoodIn wsX3_kind (wsV RX3 86 RX3 yX3_pairBase wsX3_pairBase) := goodIn_app (goodIn_of _ (by decide +kernel)) ggX3_kind_X3_pairBase
set_option maxRecDepth 20000 in
theorem ggX3_kind_X3_kindOf : GoodIn wsX3_kind wsX3_kindOf := goodIn_r _ [45, 14, 46, 47, 48, 49, 50, 51, 52, 53, 54, 55] (by decide +kernel) (by decide +kernel)
set_option maxRecDepth 20000 in
theorem gX3_kind_X3_kindOf : GoodIn wsX3_kind (wsV RX3 90 RX3 yX3_kindOf wsX3_kindOf) := goodIn_app (goodIn_of _ (by decide +kernel)) ggX3_kind_X3_kindOf
set_option maxRecDepth 20000 in
theorem ggX3_laySquares_X3_layWith : GoodIn wsX3_laySquares wsX3_layWith := goodIn_r _ [7, 2, 8, 9, 10, 6, 11, 12, 13, 14, 15, 16, 17, 18, 19, 20, 21, 22, 23, 24, 25, 26, 27, 1, 28, 29, 30, 31, 32, 33, 34, 35, 36, 37, 38] (by decide +kernel) (by decide +kernel)
set_option maxRecDepth 20000 in
theorem gX3_laySquares_X3_layWith : GoodIn wsX3_laySquares (wsV RX3 97 RX3 yX3_layWith wsX3_layWith) := goodIn_app (goodIn_of _ (by decide +kernel)) ggX3_laySquares_X3_layWith
set_option maxRecDepth 20000 in
theorem ggX3_layWith_X3_pairSquare : GoodIn wsX3_layWith wsX3_pairSquare := goodIn_r _ [6, 7, 8, 9, 5, 10, 11, 12, 13, 14, 1, 15, 16, 17, 18, 25, 26, 27, 28, 29, 30, 31, 32, 33, 34] (by decide +kernel) (by decide +kernel)
set_option maxRecDepth 20000 in
theorem gX3_layWith_X3_pairSquare : GoodIn wsX3_layWith (wsV RX3 82 RX3 yX3_pairSquare wsX3_pairSquare) := goodIn_app (goodIn_of _ (by decide +kernel)) ggX3_layWith_X3_pairSquare
set_option maxRecDepth 20000 in
theorem ggX3_layWith_X3_insert : GoodIn wsX3_layWith wsX3_insert := goodIn_r _ [22, 23, 24, 25, 26, 27, 28, 29, 30, 31, 32, 33, 34] (by decide +kernel) (by decide +kernel)
set_option maxRecDepth 20000 in
theorem gX3_layWith_X3_insert : GoodIn wsX3_layWith (wsV RX3 101 RX3 yX3_insert wsX3_insert) := goodIn_app (goodIn_of _ (by decide +kernel)) ggX3_layWith_X3_insert
set_option maxRecDepth 20000 in
theorem ggX3_placeOf_X3_behind : GoodIn wsX3_placeOf wsX3_behind := goodIn_r _ [6, 1, 7, 8, 9, 10, 11, 12, 13, 14, 15, 16, 17] (by decide +kernel) (by decide +kernel)
set_option maxRecDepth 20000 in
theorem gX3_placeOf_X3_behind : GoodIn wsX3_placeOf (wsV RX3 105 RX3 yX3_behind wsX3_behind) := goodIn_app (goodIn_of _ (by decide +kernel)) ggX3_placeOf_X3_behind
set_option maxRecDepth 20000 in
theorem ggX3_beatCount_X3_isPair : GoodIn wsX3_beatCount wsX3_isPair := goodIn_r _ [6, 7, 8, 9, 5, 10, 11, 12, 13, 14, 48, 49, 50, 51, 52, 53, 54, 55, 56, 57] (by decide +kernel) (by decide +kernel)
set_option maxRecDepth 20000 in
theorem gX3_beatCount_X3_isPair : GoodIn wsX3_beatCount (wsV RX3 70 RX3 yX3_isPair wsX3_isPair) := goodIn_app (goodIn_of _ (by decide +kernel)) ggX3_beatCount_X3_isPair
set_option maxRecDepth 20000 in
theorem ggX3_beatCount_X3_laySquares : GoodIn wsX3_beatCount wsX3_laySquares := goodIn_r _ [18, 1, 11, 19, 20, 21, 5, 22, 23, 24, 25, 26, 27, 28, 29, 30, 31, 32, 33, 34, 35, 36, 37, 38, 39, 40, 41, 42, 43, 48, 49, 50, 51, 52, 53, 54, 55, 56, 57] (by decide +kernel) (by decide +kernel)
set_option maxRecDepth 20000 in
theorem gX3_beatCount_X3_laySquares : GoodIn wsX3_beatCount (wsV RX3 108 RX3 yX3_laySquares wsX3_laySquares) := goodIn_app (goodIn_of _ (by decide +kernel)) ggX3_beatCount_X3_laySquares
set_option maxRecDepth 20000 in
theorem ggX3_beatCount_X3_behind : GoodIn wsX3_beatCount wsX3_behind := goodIn_r _ [47, 1, 43, 48, 49, 50, 51, 52, 53, 54, 55, 56, 57] (by decide +kernel) (by decide +kernel)
set_option maxRecDepth 20000 in
theorem gX3_beatCount_X3_behind : GoodIn wsX3_beatCount (wsV RX3 105 RX3 yX3_behind wsX3_behind) := goodIn_app (goodIn_of _ (by decide +kernel)) ggX3_beatCount_X3_behind
set_option maxRecDepth 20000 in
theorem ggX3_beat_X3_isPair : GoodIn wsX3_beat wsX3_isPair := goodIn_r _ [9, 10, 11, 12, 8, 13, 14, 15, 16, 17, 66, 67, 68, 69, 70, 71, 72, 73, 74, 75] (by decide +kernel) (by decide +kernel)
set_option maxRecDepth 20000 in
theorem gX3_beat_X3_isPair : GoodIn wsX3_beat (wsV RX3 70 RX3 yX3_isPair wsX3_isPair) := goodIn_app (goodIn_of _ (by decide +kernel)) ggX3_beat_X3_isPair
set_option maxRecDepth 20000 in
theorem ggX3_beat_X3_laySquares : GoodIn wsX3_beat wsX3_laySquares := goodIn_r _ [21, 2, 14, 22, 23, 24, 8, 25, 26, 27, 28, 29, 30, 31, 32, 33, 34, 35, 36, 37, 38, 39, 40, 41, 42, 43, 44, 45, 4, 66, 67, 68, 69, 70, 71, 72, 73, 74, 75] (by decide +kernel) (by decide +kernel)
set_option maxRecDepth 20000 in
theorem gX3_beat_X3_laySquares : GoodIn wsX3_beat (wsV RX3 108 RX3 yX3_laySquares wsX3_laySquares) := goodIn_app (goodIn_of _ (by decide +kernel)) ggX3_beat_X3_laySquares
set_option maxRecDepth 20000 in
theorem ggX3_beat_X3_placeOf : GoodIn wsX3_beat wsX3_placeOf := goodIn_r _ [49, 2, 50, 51, 52, 8, 53, 4, 66, 67, 68, 69, 70, 71, 72, 73, 74, 75] (by decide +kernel) (by decide +kernel)
set_option maxRecDepth 20000 in
theorem gX3_beat_X3_placeOf : GoodIn wsX3_beat (wsV RX3 112 RX3 yX3_placeOf wsX3_placeOf) := goodIn_app (goodIn_of _ (by decide +kernel)) ggX3_beat_X3_placeOf
set_option maxRecDepth 20000 in
theorem ggX3_beat_X3_pairBase : GoodIn wsX3_beat wsX3_pairBase := goodIn_r _ [57, 30, 31, 32, 8, 33, 34, 35, 36, 37, 14, 38, 39, 40, 41, 66, 67, 68, 69, 70, 71, 72, 73, 74, 75] (by decide +kernel) (by decide +kernel)
set_option maxRecDepth 20000 in
theorem gX3_beat_X3_pairBase : GoodIn wsX3_beat (wsV RX3 86 RX3 yX3_pairBase wsX3_pairBase) := goodIn_app (goodIn_of _ (by decide +kernel)) ggX3_beat_X3_pairBase
set_option maxRecDepth 20000 in
theorem ggX3_beat_X3_common : GoodIn wsX3_beat wsX3_common := goodIn_r _ [60] (by decide +kernel) (by decide +kernel)
set_option maxRecDepth 20000 in
theorem gX3_beat_X3_common : GoodIn wsX3_beat (va_wsS RX3 52 yX3_common wsX3_common) := goodIn_app (goodIn_of _ (by decide +kernel)) ggX3_beat_X3_common
set_option maxRecDepth 20000 in
theorem ggX3_beat_X3_behind : GoodIn wsX3_beat wsX3_behind := goodIn_r _ [53, 2, 4, 66, 67, 68, 69, 70, 71, 72, 73, 74, 75] (by decide +kernel) (by decide +kernel)
set_option maxRecDepth 20000 in
theorem gX3_beat_X3_behind : GoodIn wsX3_beat (wsV RX3 105 RX3 yX3_behind wsX3_behind) := goodIn_app (goodIn_of _ (by decide +kernel)) ggX3_beat_X3_behind
set_option maxRecDepth 20000 in
theorem ggX3_beat_X3_periodOf : GoodIn wsX3_beat wsX3_periodOf := goodIn_r _ [63, 64, 65] (by decide +kernel) (by decide +kernel)
set_option maxRecDepth 20000 in
theorem gX3_beat_X3_periodOf : GoodIn wsX3_beat (va_wsS RX3 117 yX3_periodOf wsX3_periodOf) := goodIn_app (goodIn_of _ (by decide +kernel)) ggX3_beat_X3_periodOf
set_option maxRecDepth 20000 in
theorem ggX3_beatNumerator_X3_beat : GoodIn wsX3_beatNumerator wsX3_beat := goodIn_r _ [5, 6, 7, 8, 9, 10, 11, 12, 4, 13, 14, 15, 16, 17, 18, 19, 20, 21, 22, 23, 24, 25, 26, 27, 28, 29, 30, 31, 32, 33, 34, 35, 36, 37, 38, 39, 40, 41, 42, 43, 44, 45, 46, 47, 48, 49, 50, 51, 52, 53, 54, 55, 56, 57, 58, 59, 60, 61, 62, 63, 64, 65, 66, 67, 68, 69, 70, 71, 72, 73, 74, 75, 76, 77, 78, 79] (by decide +kernel) (by decide +kernel)
set_option maxRecDepth 20000 in
theorem gX3_beatNumerator_X3_beat : GoodIn wsX3_beatNumerator (wsV RX3 120 RX3 yX3_beat wsX3_beat) := goodIn_app (goodIn_of _ (by decide +kernel)) ggX3_beatNumerator_X3_beat
set_option maxRecDepth 20000 in
theorem ggX3_beatDenominator_X3_beat : GoodIn wsX3_beatDenominator wsX3_beat := goodIn_r _ [5, 6, 7, 8, 9, 10, 11, 12, 4, 13, 14, 15, 16, 17, 18, 19, 20, 21, 22, 23, 24, 25, 26, 27, 28, 29, 30, 31, 32, 33, 34, 35, 36, 37, 38, 39, 40, 41, 42, 43, 44, 45, 46, 47, 48, 49, 50, 51, 52, 53, 54, 55, 56, 57, 58, 59, 60, 61, 62, 63, 64, 65, 66, 67, 68, 69, 70, 71, 72, 73, 74, 75, 76, 77, 78, 79] (by decide +kernel) (by decide +kernel)
set_option maxRecDepth 20000 in
theorem gX3_beatDenominator_X3_beat : GoodIn wsX3_beatDenominator (wsV RX3 120 RX3 yX3_beat wsX3_beat) := goodIn_app (goodIn_of _ (by decide +kernel)) ggX3_beatDenominator_X3_beat
set_option maxRecDepth 20000 in
theorem ggX3_beatFrequency_X3_beat : GoodIn wsX3_beatFrequency wsX3_beat := goodIn_r _ [5, 6, 7, 8, 9, 10, 11, 12, 4, 13, 14, 15, 16, 17, 18, 19, 20, 21, 22, 23, 24, 25, 26, 27, 28, 29, 30, 31, 32, 33, 34, 35, 36, 37, 38, 39, 40, 41, 42, 43, 44, 45, 46, 47, 48, 49, 50, 51, 52, 53, 54, 55, 56, 57, 58, 59, 60, 61, 62, 63, 64, 65, 66, 67, 68, 69, 70, 71, 72, 73, 74, 75, 76, 77, 78, 79] (by decide +kernel) (by decide +kernel)
set_option maxRecDepth 20000 in
theorem gX3_beatFrequency_X3_beat : GoodIn wsX3_beatFrequency (wsV RX3 120 RX3 yX3_beat wsX3_beat) := goodIn_app (goodIn_of _ (by decide +kernel)) ggX3_beatFrequency_X3_beat
set_option maxRecDepth 20000 in
theorem ggX3_beatPeriod_X3_beat : GoodIn wsX3_beatPeriod wsX3_beat := goodIn_r _ [5, 6, 7, 8, 9, 10, 11, 12, 4, 13, 14, 15, 16, 17, 18, 19, 20, 21, 22, 23, 24, 25, 26, 27, 28, 29, 30, 31, 32, 33, 34, 35, 36, 37, 38, 39, 40, 41, 42, 43, 44, 45, 46, 47, 48, 49, 50, 51, 52, 53, 54, 55, 56, 57, 58, 59, 60, 61, 62, 63, 64, 65, 66, 67, 68, 69, 70, 71, 72, 73, 74, 75, 76, 77, 78, 79] (by decide +kernel) (by decide +kernel)
set_option maxRecDepth 20000 in
theorem gX3_beatPeriod_X3_beat : GoodIn wsX3_beatPeriod (wsV RX3 120 RX3 yX3_beat wsX3_beat) := goodIn_app (goodIn_of _ (by decide +kernel)) ggX3_beatPeriod_X3_beat
set_option maxRecDepth 20000 in
theorem ggX3_ofKind_X3_pairBase : GoodIn wsX3_ofKind wsX3_pairBase := goodIn_r _ [7, 8, 9, 10, 6, 11, 12, 13, 14, 15, 2, 16, 17, 18, 19, 28, 29, 30, 31, 32, 33, 34, 35, 36, 37] (by decide +kernel) (by decide +kernel)
set_option maxRecDepth 20000 in
theorem gX3_ofKind_X3_pairBase : GoodIn wsX3_ofKind (wsV RX3 86 RX3 yX3_pairBase wsX3_pairBase) := goodIn_app (goodIn_of _ (by decide +kernel)) ggX3_ofKind_X3_pairBase
set_option maxRecDepth 20000 in
theorem ggX3_ofKind_X3_pairSquare : GoodIn wsX3_ofKind wsX3_pairSquare := goodIn_r _ [23, 8, 9, 10, 6, 11, 12, 13, 14, 15, 2, 16, 17, 18, 19, 28, 29, 30, 31, 32, 33, 34, 35, 36, 37] (by decide +kernel) (by decide +kernel)
set_option maxRecDepth 20000 in
theorem gX3_ofKind_X3_pairSquare : GoodIn wsX3_ofKind (wsV RX3 82 RX3 yX3_pairSquare wsX3_pairSquare) := goodIn_app (goodIn_of _ (by decide +kernel)) ggX3_ofKind_X3_pairSquare
set_option maxRecDepth 20000 in
theorem ggX3_ofKind_X3_kindOf : GoodIn wsX3_ofKind wsX3_kindOf := goodIn_r _ [27, 2, 28, 29, 30, 31, 32, 33, 34, 35, 36, 37] (by decide +kernel) (by decide +kernel)
set_option maxRecDepth 20000 in
theorem gX3_ofKind_X3_kindOf : GoodIn wsX3_ofKind (wsV RX3 90 RX3 yX3_kindOf wsX3_kindOf) := goodIn_app (goodIn_of _ (by decide +kernel)) ggX3_ofKind_X3_kindOf
set_option maxRecDepth 20000 in
theorem ggX3_locked_X3_isPair : GoodIn wsX3_locked wsX3_isPair := goodIn_r _ [5, 6, 7, 8, 4, 9, 10, 11, 12, 13, 43, 44, 45, 46, 47, 48, 49, 50, 51, 52] (by decide +kernel) (by decide +kernel)
set_option maxRecDepth 20000 in
theorem gX3_locked_X3_isPair : GoodIn wsX3_locked (wsV RX3 70 RX3 yX3_isPair wsX3_isPair) := goodIn_app (goodIn_of _ (by decide +kernel)) ggX3_locked_X3_isPair
set_option maxRecDepth 20000 in
theorem ggX3_locked_X3_ofKind : GoodIn wsX3_locked wsX3_ofKind := goodIn_r _ [17, 18, 10, 19, 20, 21, 4, 22, 23, 24, 25, 26, 27, 28, 29, 30, 31, 32, 33, 34, 35, 36, 37, 38, 39, 40, 41, 42, 43, 44, 45, 46, 47, 48, 49, 50, 51, 52] (by decide +kernel) (by decide +kernel)
set_option maxRecDepth 20000 in
theorem gX3_locked_X3_ofKind : GoodIn wsX3_locked (wsV RX3 128 RX3 yX3_ofKind wsX3_ofKind) := goodIn_app (goodIn_of _ (by decide +kernel)) ggX3_locked_X3_ofKind
set_option maxRecDepth 20000 in
theorem ggX3_bands_X3_isPair : GoodIn wsX3_bands wsX3_isPair := goodIn_r _ [5, 6, 7, 8, 4, 9, 10, 11, 12, 13, 43, 44, 45, 46, 47, 48, 49, 50, 51, 52] (by decide +kernel) (by decide +kernel)
set_option maxRecDepth 20000 in
theorem gX3_bands_X3_isPair : GoodIn wsX3_bands (wsV RX3 70 RX3 yX3_isPair wsX3_isPair) := goodIn_app (goodIn_of _ (by decide +kernel)) ggX3_bands_X3_isPair
set_option maxRecDepth 20000 in
theorem ggX3_bands_X3_ofKind : GoodIn wsX3_bands wsX3_ofKind := goodIn_r _ [17, 18, 10, 19, 20, 21, 4, 22, 23, 24, 25, 26, 27, 28, 29, 30, 31, 32, 33, 34, 35, 36, 37, 38, 39, 40, 41, 42, 43, 44, 45, 46, 47, 48, 49, 50, 51, 52] (by decide +kernel) (by decide +kernel)
set_option maxRecDepth 20000 in
theorem gX3_bands_X3_ofKind : GoodIn wsX3_bands (wsV RX3 128 RX3 yX3_ofKind wsX3_ofKind) := goodIn_app (goodIn_of _ (by decide +kernel)) ggX3_bands_X3_ofKind
set_option maxRecDepth 20000 in
theorem ggX3_bandsOfThree_X3_tripleBase : GoodIn wsX3_bandsOfThree wsX3_tripleBase := goodIn_r _ [6, 7, 8, 9, 5, 10, 11, 12, 13, 14, 15, 16, 17, 18, 19, 32, 33, 34, 35, 36, 37, 38, 39, 40, 41] (by decide +kernel) (by decide +kernel)
set_option maxRecDepth 20000 in
theorem gX3_bandsOfThree_X3_tripleBase : GoodIn wsX3_bandsOfThree (wsV RX3 132 RX3 yX3_tripleBase wsX3_tripleBase) := goodIn_app (goodIn_of _ (by decide +kernel)) ggX3_bandsOfThree_X3_tripleBase
set_option maxRecDepth 20000 in
theorem ggX3_bandsOfThree_X3_tripleSquare : GoodIn wsX3_bandsOfThree wsX3_tripleSquare := goodIn_r _ [23, 7, 8, 9, 5, 10, 11, 12, 13, 14, 15, 16, 17, 18, 19, 24, 25, 26, 27, 32, 33, 34, 35, 36, 37, 38, 39, 40, 41] (by decide +kernel) (by decide +kernel)
set_option maxRecDepth 20000 in
theorem gX3_bandsOfThree_X3_tripleSquare : GoodIn wsX3_bandsOfThree (wsV RX3 136 RX3 yX3_tripleSquare wsX3_tripleSquare) := goodIn_app (goodIn_of _ (by decide +kernel)) ggX3_bandsOfThree_X3_tripleSquare
set_option maxRecDepth 20000 in
theorem ggX3_bandsOfThree_X3_kindOf : GoodIn wsX3_bandsOfThree wsX3_kindOf := goodIn_r _ [31, 15, 32, 33, 34, 35, 36, 37, 38, 39, 40, 41] (by decide +kernel) (by decide +kernel)
set_option maxRecDepth 20000 in
theorem gX3_bandsOfThree_X3_kindOf : GoodIn wsX3_bandsOfThree (wsV RX3 90 RX3 yX3_kindOf wsX3_kindOf) := goodIn_app (goodIn_of _ (by decide +kernel)) ggX3_bandsOfThree_X3_kindOf
set_option maxRecDepth 20000 in
theorem ggX3_tripleBands_X3_isPair : GoodIn wsX3_tripleBands wsX3_isPair := goodIn_r _ [5, 6, 7, 8, 4, 9, 10, 11, 12, 13, 47, 48, 49, 50, 51, 52, 53, 54, 55, 56] (by decide +kernel) (by decide +kernel)
set_option maxRecDepth 20000 in
theorem gX3_tripleBands_X3_isPair : GoodIn wsX3_tripleBands (wsV RX3 70 RX3 yX3_isPair wsX3_isPair) := goodIn_app (goodIn_of _ (by decide +kernel)) ggX3_tripleBands_X3_isPair
set_option maxRecDepth 20000 in
theorem ggX3_tripleBands_X3_bandsOfThree : GoodIn wsX3_tripleBands wsX3_bandsOfThree := goodIn_r _ [17, 18, 19, 20, 21, 4, 22, 23, 24, 25, 26, 27, 28, 29, 30, 10, 31, 32, 33, 34, 35, 36, 37, 38, 39, 40, 41, 42, 43, 44, 45, 46, 47, 48, 49, 50, 51, 52, 53, 54, 55, 56] (by decide +kernel) (by decide +kernel)
set_option maxRecDepth 20000 in
theorem gX3_tripleBands_X3_bandsOfThree : GoodIn wsX3_tripleBands (wsV RX3 139 RX3 yX3_bandsOfThree wsX3_bandsOfThree) := goodIn_app (goodIn_of _ (by decide +kernel)) ggX3_tripleBands_X3_bandsOfThree
set_option maxRecDepth 20000 in
theorem ggX3_findAll_X3_ofKind : GoodIn wsX3_findAll wsX3_ofKind := goodIn_r _ [8, 9, 3, 10, 11, 12, 7, 13, 14, 15, 16, 17, 18, 19, 20, 21, 22, 23, 24, 25, 26, 27, 28, 29, 30, 31, 32, 33, 70, 71, 72, 73, 74, 75, 76, 77, 78, 79] (by decide +kernel) (by decide +kernel)
set_option maxRecDepth 20000 in
theorem gX3_findAll_X3_ofKind : GoodIn wsX3_findAll (wsV RX3 128 RX3 yX3_ofKind wsX3_ofKind) := goodIn_app (goodIn_of _ (by decide +kernel)) ggX3_findAll_X3_ofKind
set_option maxRecDepth 20000 in
theorem ggX3_findAll_X3_note : GoodIn wsX3_findAll wsX3_note := goodIn_r _ [37, 9, 1, 2, 38, 39, 7, 40, 41, 42, 70, 71, 72, 73, 74, 75, 76, 77, 78, 79] (by decide +kernel) (by decide +kernel)
set_option maxRecDepth 20000 in
theorem gX3_findAll_X3_note : GoodIn wsX3_findAll (wsV RX3 148 RX3 yX3_note wsX3_note) := goodIn_app (goodIn_of _ (by decide +kernel)) ggX3_findAll_X3_note
set_option maxRecDepth 20000 in
theorem ggX3_findAll_X3_isPair : GoodIn wsX3_findAll wsX3_isPair := goodIn_r _ [46, 47, 48, 49, 7, 50, 3, 51, 52, 53, 70, 71, 72, 73, 74, 75, 76, 77, 78, 79] (by decide +kernel) (by decide +kernel)
set_option maxRecDepth 20000 in
theorem gX3_findAll_X3_isPair : GoodIn wsX3_findAll (wsV RX3 70 RX3 yX3_isPair wsX3_isPair) := goodIn_app (goodIn_of _ (by decide +kernel)) ggX3_findAll_X3_isPair
set_option maxRecDepth 20000 in
theorem ggX3_findAll_X3_bandsOfThree : GoodIn wsX3_findAll wsX3_bandsOfThree := goodIn_r _ [57, 9, 58, 59, 60, 7, 61, 14, 15, 16, 17, 18, 19, 20, 21, 3, 22, 23, 24, 25, 62, 63, 64, 65, 66, 67, 68, 69, 30, 31, 32, 33, 70, 71, 72, 73, 74, 75, 76, 77, 78, 79] (by decide +kernel) (by decide +kernel)
set_option maxRecDepth 20000 in
theorem gX3_findAll_X3_bandsOfThree : GoodIn wsX3_findAll (wsV RX3 139 RX3 yX3_bandsOfThree wsX3_bandsOfThree) := goodIn_app (goodIn_of _ (by decide +kernel)) ggX3_findAll_X3_bandsOfThree
set_option maxRecDepth 20000 in
theorem ggX3_note_X3_periodOf : GoodIn wsX3_note wsX3_periodOf := goodIn_r _ [7, 8, 9] (by decide +kernel) (by decide +kernel)
set_option maxRecDepth 20000 in
theorem gX3_note_X3_periodOf : GoodIn wsX3_note (va_wsS RX3 117 yX3_periodOf wsX3_periodOf) := goodIn_app (goodIn_of _ (by decide +kernel)) ggX3_note_X3_periodOf
set_option maxRecDepth 20000 in
theorem ggX3_allBands_X3_findAll : GoodIn wsX3_allBands wsX3_findAll := goodIn_r _ [5, 6, 7, 8, 9, 10, 11, 4, 12, 13, 14, 15, 16, 17, 18, 19, 20, 21, 22, 23, 24, 25, 26, 27, 28, 29, 30, 31, 32, 33, 34, 35, 36, 37, 38, 39, 40, 41, 42, 43, 44, 45, 46, 47, 48, 49, 50, 51, 52, 53, 54, 55, 56, 57, 58, 59, 60, 61, 62, 63, 64, 65, 66, 67, 68, 69, 70, 71, 72, 73, 74, 75, 76, 77, 78, 79, 80, 81, 82, 83] (by decide +kernel) (by decide +kernel)
set_option maxRecDepth 20000 in
theorem gX3_allBands_X3_findAll : GoodIn wsX3_allBands (wsV RX3 152 RX3 yX3_findAll wsX3_findAll) := goodIn_app (goodIn_of _ (by decide +kernel)) ggX3_allBands_X3_findAll
set_option maxRecDepth 20000 in
theorem ggX3_worstPlates_X3_findAll : GoodIn wsX3_worstPlates wsX3_findAll := goodIn_r _ [6, 7, 1, 8, 9, 10, 11, 5, 12, 13, 14, 15, 16, 17, 18, 19, 20, 21, 22, 23, 24, 25, 26, 27, 28, 29, 30, 31, 32, 33, 34, 35, 36, 37, 38, 39, 40, 41, 42, 43, 44, 45, 46, 47, 48, 49, 50, 51, 52, 53, 54, 55, 56, 57, 58, 59, 60, 61, 62, 63, 64, 65, 66, 67, 68, 69, 70, 71, 72, 73, 74, 75, 76, 77, 78, 79, 80, 81, 82, 83] (by decide +kernel) (by decide +kernel)
set_option maxRecDepth 20000 in
theorem gX3_worstPlates_X3_findAll : GoodIn wsX3_worstPlates (wsV RX3 152 RX3 yX3_findAll wsX3_findAll) := goodIn_app (goodIn_of _ (by decide +kernel)) ggX3_worstPlates_X3_findAll
set_option maxRecDepth 20000 in
theorem ggX3_worstPeriod_X3_findAll : GoodIn wsX3_worstPeriod wsX3_findAll := goodIn_r _ [6, 1, 7, 8, 9, 10, 11, 5, 12, 13, 14, 15, 16, 17, 18, 19, 20, 21, 22, 23, 24, 25, 26, 27, 28, 29, 30, 31, 32, 33, 34, 35, 36, 37, 38, 39, 40, 41, 42, 43, 44, 45, 46, 47, 48, 49, 50, 51, 52, 53, 54, 55, 56, 57, 58, 59, 60, 61, 62, 63, 64, 65, 66, 67, 68, 69, 70, 71, 72, 73, 74, 75, 76, 77, 78, 79, 80, 81, 82, 83] (by decide +kernel) (by decide +kernel)
set_option maxRecDepth 20000 in
theorem gX3_worstPeriod_X3_findAll : GoodIn wsX3_worstPeriod (wsV RX3 152 RX3 yX3_findAll wsX3_findAll) := goodIn_app (goodIn_of _ (by decide +kernel)) ggX3_worstPeriod_X3_findAll
set_option maxRecDepth 20000 in
theorem ggX3_worstPair_X3_ofKind : GoodIn wsX3_worstPair wsX3_ofKind := goodIn_r _ [6, 7, 1, 8, 9, 10, 5, 11, 12, 13, 14, 15, 16, 17, 18, 19, 20, 21, 22, 23, 24, 25, 26, 27, 28, 29, 30, 31, 32, 33, 34, 35, 36, 37, 38, 39, 40, 41] (by decide +kernel) (by decide +kernel)
set_option maxRecDepth 20000 in
theorem gX3_worstPair_X3_ofKind : GoodIn wsX3_worstPair (wsV RX3 128 RX3 yX3_ofKind wsX3_ofKind) := goodIn_app (goodIn_of _ (by decide +kernel)) ggX3_worstPair_X3_ofKind
set_option maxRecDepth 20000 in
theorem ggX3_search_X3_firstOf : GoodIn wsX3_search wsX3_firstOf := goodIn_r _ [7, 2, 78, 79, 80, 81, 82, 83, 84, 85, 86, 87] (by decide +kernel) (by decide +kernel)
set_option maxRecDepth 20000 in
theorem gX3_search_X3_firstOf : GoodIn wsX3_search (wsV RX3 35 RX3 yX3_firstOf wsX3_firstOf) := goodIn_app (goodIn_of _ (by decide +kernel)) ggX3_search_X3_firstOf
set_option maxRecDepth 20000 in
theorem ggX3_search_X3_secondOf : GoodIn wsX3_search wsX3_secondOf := goodIn_r _ [11, 2, 78, 79, 80, 81, 82, 83, 84, 85, 86, 87] (by decide +kernel) (by decide +kernel)
set_option maxRecDepth 20000 in
theorem gX3_search_X3_secondOf : GoodIn wsX3_search (wsV RX3 39 RX3 yX3_secondOf wsX3_secondOf) := goodIn_app (goodIn_of _ (by decide +kernel)) ggX3_search_X3_secondOf
set_option maxRecDepth 20000 in
theorem ggX3_search_X3_areaOf : GoodIn wsX3_search wsX3_areaOf := goodIn_r _ [15, 3, 4, 5, 6, 7, 2, 8, 9, 10, 11, 78, 79, 80, 81, 82, 83, 84, 85, 86, 87] (by decide +kernel) (by decide +kernel)
set_option maxRecDepth 20000 in
theorem gX3_search_X3_areaOf : GoodIn wsX3_search (wsV RX3 49 RX3 yX3_areaOf wsX3_areaOf) := goodIn_app (goodIn_of _ (by decide +kernel)) ggX3_search_X3_areaOf
set_option maxRecDepth 20000 in
theorem ggX3_search_X3_in : GoodIn wsX3_search wsX3_in := goodIn_r _ [18] (by decide +kernel) (by decide +kernel)
set_option maxRecDepth 20000 in
theorem gX3_search_X3_in : GoodIn wsX3_search (va_wsS RX3 27 yX3_in wsX3_in) := goodIn_app (goodIn_of _ (by decide +kernel)) ggX3_search_X3_in
set_option maxRecDepth 20000 in
theorem ggX3_search_X3_findAll : GoodIn wsX3_search wsX3_findAll := goodIn_r _ [22, 23, 24, 2, 25, 26, 27, 6, 28, 29, 30, 31, 32, 33, 12, 13, 14, 15, 3, 4, 5, 7, 8, 9, 10, 11, 34, 35, 36, 37, 38, 39, 40, 41, 42, 43, 44, 45, 46, 47, 48, 49, 50, 51, 52, 53, 54, 55, 56, 57, 58, 16, 17, 18, 59, 60, 61, 62, 63, 64, 65, 66, 67, 68, 69, 70, 71, 72, 73, 74, 78, 79, 80, 81, 82, 83, 84, 85, 86, 87] (by decide +kernel) (by decide +kernel)
set_option maxRecDepth 20000 in
theorem gX3_search_X3_findAll : GoodIn wsX3_search (wsV RX3 152 RX3 yX3_findAll wsX3_findAll) := goodIn_app (goodIn_of _ (by decide +kernel)) ggX3_search_X3_findAll
set_option maxRecDepth 20000 in
theorem ggX3_search_X3_size : GoodIn wsX3_search wsX3_size := goodIn_r _ [77] (by decide +kernel) (by decide +kernel)
set_option maxRecDepth 20000 in
theorem gX3_search_X3_size : GoodIn wsX3_search (va_wsS RX3 159 yX3_size wsX3_size) := goodIn_app (goodIn_of _ (by decide +kernel)) ggX3_search_X3_size
set_option maxRecDepth 20000 in
theorem ggX3_isRange_X3_isPlate : GoodIn wsX3_isRange wsX3_isPlate := goodIn_r _ [5, 6, 7, 8, 4, 9, 10, 11, 12, 13, 14, 15, 16, 17, 18, 19] (by decide +kernel) (by decide +kernel)
set_option maxRecDepth 20000 in
theorem gX3_isRange_X3_isPlate : GoodIn wsX3_isRange (wsV RX3 31 RX3 yX3_isPlate wsX3_isPlate) := goodIn_app (goodIn_of _ (by decide +kernel)) ggX3_isRange_X3_isPlate
set_option maxRecDepth 20000 in
theorem ggX3_isRange_X3_in : GoodIn wsX3_isRange wsX3_in := goodIn_r _ [9] (by decide +kernel) (by decide +kernel)
set_option maxRecDepth 20000 in
theorem gX3_isRange_X3_in : GoodIn wsX3_isRange (va_wsS RX3 27 yX3_in wsX3_in) := goodIn_app (goodIn_of _ (by decide +kernel)) ggX3_isRange_X3_in
set_option maxRecDepth 20000 in
theorem ggX3_bestScreen_X3_isRange : GoodIn wsX3_bestScreen wsX3_isRange := goodIn_r _ [5, 6, 7, 8, 4, 9, 10, 11, 12, 13, 86, 87, 88, 89, 90, 91, 92, 93, 94, 95] (by decide +kernel) (by decide +kernel)
set_option maxRecDepth 20000 in
theorem gX3_bestScreen_X3_isRange : GoodIn wsX3_bestScreen (wsV RX3 162 RX3 yX3_isRange wsX3_isRange) := goodIn_app (goodIn_of _ (by decide +kernel)) ggX3_bestScreen_X3_isRange
set_option maxRecDepth 20000 in
theorem ggX3_bestScreen_X3_search : GoodIn wsX3_bestScreen wsX3_search := goodIn_r _ [17, 18, 10, 19, 20, 21, 4, 22, 23, 24, 25, 26, 27, 28, 29, 30, 11, 12, 13, 31, 32, 33, 34, 35, 36, 37, 38, 39, 40, 41, 42, 43, 44, 45, 46, 47, 48, 49, 50, 51, 52, 53, 54, 55, 56, 57, 58, 59, 60, 61, 62, 63, 64, 65, 66, 6, 7, 8, 9, 67, 68, 69, 70, 71, 72, 73, 74, 75, 76, 77, 78, 79, 80, 81, 82, 83, 84, 85, 86, 87, 88, 89, 90, 91, 92, 93, 94, 95] (by decide +kernel) (by decide +kernel)
set_option maxRecDepth 20000 in
theorem gX3_bestScreen_X3_search : GoodIn wsX3_bestScreen (wsV RX3 165 RX3 yX3_search wsX3_search) := goodIn_app (goodIn_of _ (by decide +kernel)) ggX3_bestScreen_X3_search
set_option maxRecDepth 20000 in
theorem ggX3_bandsWithBest_X3_isRange : GoodIn wsX3_bandsWithBest wsX3_isRange := goodIn_r _ [6, 7, 8, 9, 5, 10, 11, 12, 13, 14, 86, 87, 88, 89, 90, 91, 92, 93, 94, 95] (by decide +kernel) (by decide +kernel)
set_option maxRecDepth 20000 in
theorem gX3_bandsWithBest_X3_isRange : GoodIn wsX3_bandsWithBest (wsV RX3 162 RX3 yX3_isRange wsX3_isRange) := goodIn_app (goodIn_of _ (by decide +kernel)) ggX3_bandsWithBest_X3_isRange
set_option maxRecDepth 20000 in
theorem ggX3_bandsWithBest_X3_search : GoodIn wsX3_bandsWithBest wsX3_search := goodIn_r _ [18, 1, 11, 19, 20, 21, 5, 22, 23, 24, 25, 26, 27, 28, 29, 30, 12, 13, 14, 31, 32, 33, 34, 35, 36, 37, 38, 39, 40, 41, 42, 43, 44, 45, 46, 47, 48, 49, 50, 51, 52, 53, 54, 55, 56, 57, 58, 59, 60, 61, 62, 63, 64, 65, 66, 7, 8, 9, 10, 67, 68, 69, 70, 71, 72, 73, 74, 75, 76, 77, 78, 79, 80, 81, 82, 83, 84, 85, 86, 87, 88, 89, 90, 91, 92, 93, 94, 95] (by decide +kernel) (by decide +kernel)
set_option maxRecDepth 20000 in
theorem gX3_bandsWithBest_X3_search : GoodIn wsX3_bandsWithBest (wsV RX3 165 RX3 yX3_search wsX3_search) := goodIn_app (goodIn_of _ (by decide +kernel)) ggX3_bandsWithBest_X3_search
set_option maxRecDepth 20000 in
theorem ggX3_save_X3_in : GoodIn wsX3_save wsX3_in := goodIn_r _ [6] (by decide +kernel) (by decide +kernel)
set_option maxRecDepth 20000 in
theorem gX3_save_X3_in : GoodIn wsX3_save (va_wsS RX3 27 yX3_in wsX3_in) := goodIn_app (goodIn_of _ (by decide +kernel)) ggX3_save_X3_in
set_option maxRecDepth 20000 in
theorem ggX3_restore_X3_in : GoodIn wsX3_restore wsX3_in := goodIn_r _ [6] (by decide +kernel) (by decide +kernel)
set_option maxRecDepth 20000 in
theorem gX3_restore_X3_in : GoodIn wsX3_restore (va_wsS RX3 27 yX3_in wsX3_in) := goodIn_app (goodIn_of _ (by decide +kernel)) ggX3_restore_X3_in
set_option maxRecDepth 20000 in
theorem ggX3_restore_X3_records : GoodIn wsX3_restore wsX3_records := goodIn_r _ [10, 11, 12, 2, 13, 14, 15, 16, 17, 18, 19, 20, 21, 22] (by decide +kernel) (by decide +kernel)
set_option maxRecDepth 20000 in
theorem gX3_restore_X3_records : GoodIn wsX3_restore (wsV RX3 46 RX3 yX3_records wsX3_records) := goodIn_app (goodIn_of _ (by decide +kernel)) ggX3_restore_X3_records
abbrev vwCl : List vw_C := [(RX0, TX0, 5), (RX1, TX1, 6), (RX2, TX2, 7), (RX3, TX3, 10)]
end
section
theorem dX0_init_0 : decode cX0_init 0 = .ok (.aload_n 0, 1) := by decide +kernel
theorem dX0_init_1 : decode cX0_init 1 = .ok (.invokespecial 3, 3) := by decide +kernel
theorem dX0_init_4 : decode cX0_init 4 = .ok (.aload_n 0, 1) := by decide +kernel
theorem dX0_init_5 : decode cX0_init 5 = .ok (.sipush 144, 3) := by decide +kernel
theorem dX0_init_8 : decode cX0_init 8 = .ok (.newarray .int, 2) := by decide +kernel
theorem dX0_init_10 : decode cX0_init 10 = .ok (.putfield 9, 3) := by decide +kernel
theorem dX0_init_13 : decode cX0_init 13 = .ok (.aload_n 0, 1) := by decide +kernel
theorem dX0_init_14 : decode cX0_init 14 = .ok (.lconst 1, 1) := by decide +kernel
theorem dX0_init_15 : decode cX0_init 15 = .ok (.putfield 15, 3) := by decide +kernel
theorem dX0_init_18 : decode cX0_init 18 = .ok (.aload_n 0, 1) := by decide +kernel
theorem dX0_init_19 : decode cX0_init 19 = .ok (.lconst 1, 1) := by decide +kernel
theorem dX0_init_20 : decode cX0_init 20 = .ok (.putfield 19, 3) := by decide +kernel
theorem dX0_init_23 : decode cX0_init 23 = .ok (.aload_n 0, 1) := by decide +kernel
theorem dX0_init_24 : decode cX0_init 24 = .ok (.lconst 1, 1) := by decide +kernel
theorem dX0_init_25 : decode cX0_init 25 = .ok (.putfield 22, 3) := by decide +kernel
theorem dX0_init_28 : decode cX0_init 28 = .ok (.return_, 1) := by decide +kernel
theorem dX0_startPair_0 : decode cX0_startPair 0 = .ok (.aload_n 0, 1) := by decide +kernel
theorem dX0_startPair_1 : decode cX0_startPair 1 = .ok (.aload_n 1, 1) := by decide +kernel
theorem dX0_startPair_2 : decode cX0_startPair 2 = .ok (.aload_n 1, 1) := by decide +kernel
theorem dX0_startPair_3 : decode cX0_startPair 3 = .ok (.iload_n 2, 1) := by decide +kernel
theorem dX0_startPair_4 : decode cX0_startPair 4 = .ok (.invokevirtual 25, 3) := by decide +kernel
theorem dX0_startPair_7 : decode cX0_startPair 7 = .ok (.i2l, 1) := by decide +kernel
theorem dX0_startPair_8 : decode cX0_startPair 8 = .ok (.aload_n 1, 1) := by decide +kernel
theorem dX0_startPair_9 : decode cX0_startPair 9 = .ok (.iload_n 3, 1) := by decide +kernel
theorem dX0_startPair_10 : decode cX0_startPair 10 = .ok (.invokevirtual 25, 3) := by decide +kernel
theorem dX0_startPair_13 : decode cX0_startPair 13 = .ok (.i2l, 1) := by decide +kernel
theorem dX0_startPair_14 : decode cX0_startPair 14 = .ok (.lmul, 1) := by decide +kernel
theorem dX0_startPair_15 : decode cX0_startPair 15 = .ok (.invokevirtual 31, 3) := by decide +kernel
theorem dX0_startPair_18 : decode cX0_startPair 18 = .ok (.return_, 1) := by decide +kernel
theorem dX0_start_0 : decode cX0_start 0 = .ok (.aload_n 0, 1) := by decide +kernel
theorem dX0_start_1 : decode cX0_start 1 = .ok (.iconst 0, 1) := by decide +kernel
theorem dX0_start_2 : decode cX0_start 2 = .ok (.putfield 35, 3) := by decide +kernel
theorem dX0_start_5 : decode cX0_start 5 = .ok (.aload_n 0, 1) := by decide +kernel
theorem dX0_start_6 : decode cX0_start 6 = .ok (.lload_n 2, 1) := by decide +kernel
theorem dX0_start_7 : decode cX0_start 7 = .ok (.putfield 15, 3) := by decide +kernel
theorem dX0_start_10 : decode cX0_start 10 = .ok (.aload_n 1, 1) := by decide +kernel
theorem dX0_start_11 : decode cX0_start 11 = .ok (.getfield 39, 3) := by decide +kernel
theorem dX0_start_14 : decode cX0_start 14 = .ok (.i2l, 1) := by decide +kernel
theorem dX0_start_15 : decode cX0_start 15 = .ok (.aload_n 1, 1) := by decide +kernel
theorem dX0_start_16 : decode cX0_start 16 = .ok (.getfield 39, 3) := by decide +kernel
theorem dX0_start_19 : decode cX0_start 19 = .ok (.i2l, 1) := by decide +kernel
theorem dX0_start_20 : decode cX0_start 20 = .ok (.lmul, 1) := by decide +kernel
theorem dX0_start_21 : decode cX0_start 21 = .ok (.lstore 4, 2) := by decide +kernel
theorem dX0_start_23 : decode cX0_start 23 = .ok (.aload_n 1, 1) := by decide +kernel
theorem dX0_start_24 : decode cX0_start 24 = .ok (.getfield 42, 3) := by decide +kernel
theorem dX0_start_27 : decode cX0_start 27 = .ok (.i2l, 1) := by decide +kernel
theorem dX0_start_28 : decode cX0_start 28 = .ok (.aload_n 1, 1) := by decide +kernel
theorem dX0_start_29 : decode cX0_start 29 = .ok (.getfield 42, 3) := by decide +kernel
theorem dX0_start_32 : decode cX0_start 32 = .ok (.i2l, 1) := by decide +kernel
theorem dX0_start_33 : decode cX0_start 33 = .ok (.lmul, 1) := by decide +kernel
theorem dX0_start_34 : decode cX0_start 34 = .ok (.lstore 6, 2) := by decide +kernel
theorem dX0_start_36 : decode cX0_start 36 = .ok (.aload_n 0, 1) := by decide +kernel
theorem dX0_start_37 : decode cX0_start 37 = .ok (.aload_n 0, 1) := by decide +kernel
theorem dX0_start_38 : decode cX0_start 38 = .ok (.getfield 15, 3) := by decide +kernel
theorem dX0_start_41 : decode cX0_start 41 = .ok (.lload 4, 2) := by decide +kernel
theorem dX0_start_43 : decode cX0_start 43 = .ok (.ladd, 1) := by decide +kernel
theorem dX0_start_44 : decode cX0_start 44 = .ok (.lconst 1, 1) := by decide +kernel
theorem dX0_start_45 : decode cX0_start 45 = .ok (.lsub, 1) := by decide +kernel
theorem dX0_start_46 : decode cX0_start 46 = .ok (.lload 4, 2) := by decide +kernel
theorem dX0_start_48 : decode cX0_start 48 = .ok (.invokestatic 45, 3) := by decide +kernel
theorem dX0_start_51 : decode cX0_start 51 = .ok (.putfield 19, 3) := by decide +kernel
theorem dX0_start_54 : decode cX0_start 54 = .ok (.aload_n 0, 1) := by decide +kernel
theorem dX0_start_55 : decode cX0_start 55 = .ok (.aload_n 0, 1) := by decide +kernel
theorem dX0_start_56 : decode cX0_start 56 = .ok (.getfield 15, 3) := by decide +kernel
theorem dX0_start_59 : decode cX0_start 59 = .ok (.lload 6, 2) := by decide +kernel
theorem dX0_start_61 : decode cX0_start 61 = .ok (.invokestatic 45, 3) := by decide +kernel
theorem dX0_start_64 : decode cX0_start 64 = .ok (.putfield 22, 3) := by decide +kernel
theorem dX0_start_67 : decode cX0_start 67 = .ok (.return_, 1) := by decide +kernel
theorem dX0_add_0 : decode cX0_add 0 = .ok (.aload_n 0, 1) := by decide +kernel
theorem dX0_add_1 : decode cX0_add 1 = .ok (.getfield 35, 3) := by decide +kernel
theorem dX0_add_4 : decode cX0_add 4 = .ok (.ifCond .lt 33, 3) := by decide +kernel
theorem dX0_add_7 : decode cX0_add 7 = .ok (.aload_n 0, 1) := by decide +kernel
theorem dX0_add_8 : decode cX0_add 8 = .ok (.getfield 35, 3) := by decide +kernel
theorem dX0_add_11 : decode cX0_add 11 = .ok (.sipush 144, 3) := by decide +kernel
theorem dX0_add_14 : decode cX0_add 14 = .ok (.if_icmp .ge 23, 3) := by decide +kernel
theorem dX0_add_17 : decode cX0_add 17 = .ok (.aload_n 0, 1) := by decide +kernel
theorem dX0_add_18 : decode cX0_add 18 = .ok (.getfield 9, 3) := by decide +kernel
theorem dX0_add_21 : decode cX0_add 21 = .ok (.aload_n 0, 1) := by decide +kernel
theorem dX0_add_22 : decode cX0_add 22 = .ok (.getfield 35, 3) := by decide +kernel
theorem dX0_add_25 : decode cX0_add 25 = .ok (.iload_n 1, 1) := by decide +kernel
theorem dX0_add_26 : decode cX0_add 26 = .ok (.iastore, 1) := by decide +kernel
theorem dX0_add_27 : decode cX0_add 27 = .ok (.aload_n 0, 1) := by decide +kernel
theorem dX0_add_28 : decode cX0_add 28 = .ok (.dup, 1) := by decide +kernel
theorem dX0_add_29 : decode cX0_add 29 = .ok (.getfield 35, 3) := by decide +kernel
theorem dX0_add_32 : decode cX0_add 32 = .ok (.iconst 1, 1) := by decide +kernel
theorem dX0_add_33 : decode cX0_add 33 = .ok (.iadd, 1) := by decide +kernel
theorem dX0_add_34 : decode cX0_add 34 = .ok (.putfield 35, 3) := by decide +kernel
theorem dX0_add_37 : decode cX0_add 37 = .ok (.return_, 1) := by decide +kernel
theorem dX0_fillPair_0 : decode cX0_fillPair 0 = .ok (.aload_n 0, 1) := by decide +kernel
theorem dX0_fillPair_1 : decode cX0_fillPair 1 = .ok (.aload_n 1, 1) := by decide +kernel
theorem dX0_fillPair_2 : decode cX0_fillPair 2 = .ok (.iload_n 2, 1) := by decide +kernel
theorem dX0_fillPair_3 : decode cX0_fillPair 3 = .ok (.iload_n 3, 1) := by decide +kernel
theorem dX0_fillPair_4 : decode cX0_fillPair 4 = .ok (.invokevirtual 49, 3) := by decide +kernel
theorem dX0_fillPair_7 : decode cX0_fillPair 7 = .ok (.iconst 1, 1) := by decide +kernel
theorem dX0_fillPair_8 : decode cX0_fillPair 8 = .ok (.istore 4, 2) := by decide +kernel
theorem dX0_fillPair_10 : decode cX0_fillPair 10 = .ok (.iload 4, 2) := by decide +kernel
theorem dX0_fillPair_12 : decode cX0_fillPair 12 = .ok (.aload_n 1, 1) := by decide +kernel
theorem dX0_fillPair_13 : decode cX0_fillPair 13 = .ok (.getfield 53, 3) := by decide +kernel
theorem dX0_fillPair_16 : decode cX0_fillPair 16 = .ok (.if_icmp .gt 38, 3) := by decide +kernel
theorem dX0_fillPair_19 : decode cX0_fillPair 19 = .ok (.iconst 0, 1) := by decide +kernel
theorem dX0_fillPair_20 : decode cX0_fillPair 20 = .ok (.istore 5, 2) := by decide +kernel
theorem dX0_fillPair_22 : decode cX0_fillPair 22 = .ok (.iload 5, 2) := by decide +kernel
theorem dX0_fillPair_24 : decode cX0_fillPair 24 = .ok (.aload_n 1, 1) := by decide +kernel
theorem dX0_fillPair_25 : decode cX0_fillPair 25 = .ok (.getfield 53, 3) := by decide +kernel
theorem dX0_fillPair_28 : decode cX0_fillPair 28 = .ok (.if_icmp .gt 20, 3) := by decide +kernel
theorem dX0_fillPair_31 : decode cX0_fillPair 31 = .ok (.aload_n 0, 1) := by decide +kernel
theorem dX0_fillPair_32 : decode cX0_fillPair 32 = .ok (.aload_n 1, 1) := by decide +kernel
theorem dX0_fillPair_33 : decode cX0_fillPair 33 = .ok (.iload_n 2, 1) := by decide +kernel
theorem dX0_fillPair_34 : decode cX0_fillPair 34 = .ok (.iload_n 3, 1) := by decide +kernel
theorem dX0_fillPair_35 : decode cX0_fillPair 35 = .ok (.iload 4, 2) := by decide +kernel
theorem dX0_fillPair_37 : decode cX0_fillPair 37 = .ok (.iload 5, 2) := by decide +kernel
theorem dX0_fillPair_39 : decode cX0_fillPair 39 = .ok (.invokevirtual 56, 3) := by decide +kernel
theorem dX0_fillPair_42 : decode cX0_fillPair 42 = .ok (.iinc 5 1, 3) := by decide +kernel
theorem dX0_fillPair_45 : decode cX0_fillPair 45 = .ok (.goto (-23), 3) := by decide +kernel
theorem dX0_fillPair_48 : decode cX0_fillPair 48 = .ok (.iinc 4 1, 3) := by decide +kernel
theorem dX0_fillPair_51 : decode cX0_fillPair 51 = .ok (.goto (-41), 3) := by decide +kernel
theorem dX0_fillPair_54 : decode cX0_fillPair 54 = .ok (.return_, 1) := by decide +kernel
theorem dX0_addAllFor_0 : decode cX0_addAllFor 0 = .ok (.aload_n 1, 1) := by decide +kernel
theorem dX0_addAllFor_1 : decode cX0_addAllFor 1 = .ok (.iload_n 2, 1) := by decide +kernel
theorem dX0_addAllFor_2 : decode cX0_addAllFor 2 = .ok (.invokevirtual 60, 3) := by decide +kernel
theorem dX0_addAllFor_5 : decode cX0_addAllFor 5 = .ok (.istore 6, 2) := by decide +kernel
theorem dX0_addAllFor_7 : decode cX0_addAllFor 7 = .ok (.aload_n 1, 1) := by decide +kernel
theorem dX0_addAllFor_8 : decode cX0_addAllFor 8 = .ok (.iload_n 2, 1) := by decide +kernel
theorem dX0_addAllFor_9 : decode cX0_addAllFor 9 = .ok (.invokevirtual 63, 3) := by decide +kernel
theorem dX0_addAllFor_12 : decode cX0_addAllFor 12 = .ok (.istore 7, 2) := by decide +kernel
theorem dX0_addAllFor_14 : decode cX0_addAllFor 14 = .ok (.aload_n 1, 1) := by decide +kernel
theorem dX0_addAllFor_15 : decode cX0_addAllFor 15 = .ok (.iload_n 3, 1) := by decide +kernel
theorem dX0_addAllFor_16 : decode cX0_addAllFor 16 = .ok (.invokevirtual 60, 3) := by decide +kernel
theorem dX0_addAllFor_19 : decode cX0_addAllFor 19 = .ok (.aload_n 1, 1) := by decide +kernel
theorem dX0_addAllFor_20 : decode cX0_addAllFor 20 = .ok (.iload_n 3, 1) := by decide +kernel
theorem dX0_addAllFor_21 : decode cX0_addAllFor 21 = .ok (.invokevirtual 63, 3) := by decide +kernel
theorem dX0_addAllFor_24 : decode cX0_addAllFor 24 = .ok (.iload 4, 2) := by decide +kernel
theorem dX0_addAllFor_26 : decode cX0_addAllFor 26 = .ok (.iload 5, 2) := by decide +kernel
theorem dX0_addAllFor_28 : decode cX0_addAllFor 28 = .ok (.invokestatic 66, 3) := by decide +kernel
theorem dX0_addAllFor_31 : decode cX0_addAllFor 31 = .ok (.istore 8, 2) := by decide +kernel
theorem dX0_addAllFor_33 : decode cX0_addAllFor 33 = .ok (.aload_n 1, 1) := by decide +kernel
theorem dX0_addAllFor_34 : decode cX0_addAllFor 34 = .ok (.iload_n 3, 1) := by decide +kernel
theorem dX0_addAllFor_35 : decode cX0_addAllFor 35 = .ok (.invokevirtual 60, 3) := by decide +kernel
theorem dX0_addAllFor_38 : decode cX0_addAllFor 38 = .ok (.aload_n 1, 1) := by decide +kernel
theorem dX0_addAllFor_39 : decode cX0_addAllFor 39 = .ok (.iload_n 3, 1) := by decide +kernel
theorem dX0_addAllFor_40 : decode cX0_addAllFor 40 = .ok (.invokevirtual 63, 3) := by decide +kernel
theorem dX0_addAllFor_43 : decode cX0_addAllFor 43 = .ok (.iload 4, 2) := by decide +kernel
theorem dX0_addAllFor_45 : decode cX0_addAllFor 45 = .ok (.iload 5, 2) := by decide +kernel
theorem dX0_addAllFor_47 : decode cX0_addAllFor 47 = .ok (.invokestatic 70, 3) := by decide +kernel
theorem dX0_addAllFor_50 : decode cX0_addAllFor 50 = .ok (.istore 9, 2) := by decide +kernel
theorem dX0_addAllFor_52 : decode cX0_addAllFor 52 = .ok (.aload_n 1, 1) := by decide +kernel
theorem dX0_addAllFor_53 : decode cX0_addAllFor 53 = .ok (.getfield 53, 3) := by decide +kernel
theorem dX0_addAllFor_56 : decode cX0_addAllFor 56 = .ok (.ineg, 1) := by decide +kernel
theorem dX0_addAllFor_57 : decode cX0_addAllFor 57 = .ok (.istore 10, 2) := by decide +kernel
theorem dX0_addAllFor_59 : decode cX0_addAllFor 59 = .ok (.iload 10, 2) := by decide +kernel
theorem dX0_addAllFor_61 : decode cX0_addAllFor 61 = .ok (.aload_n 1, 1) := by decide +kernel
theorem dX0_addAllFor_62 : decode cX0_addAllFor 62 = .ok (.getfield 53, 3) := by decide +kernel
theorem dX0_addAllFor_65 : decode cX0_addAllFor 65 = .ok (.if_icmp .gt 88, 3) := by decide +kernel
theorem dX0_addAllFor_68 : decode cX0_addAllFor 68 = .ok (.aload_n 1, 1) := by decide +kernel
theorem dX0_addAllFor_69 : decode cX0_addAllFor 69 = .ok (.getfield 53, 3) := by decide +kernel
theorem dX0_addAllFor_72 : decode cX0_addAllFor 72 = .ok (.ineg, 1) := by decide +kernel
theorem dX0_addAllFor_73 : decode cX0_addAllFor 73 = .ok (.istore 11, 2) := by decide +kernel
theorem dX0_addAllFor_75 : decode cX0_addAllFor 75 = .ok (.iload 11, 2) := by decide +kernel
theorem dX0_addAllFor_77 : decode cX0_addAllFor 77 = .ok (.aload_n 1, 1) := by decide +kernel
theorem dX0_addAllFor_78 : decode cX0_addAllFor 78 = .ok (.getfield 53, 3) := by decide +kernel
theorem dX0_addAllFor_81 : decode cX0_addAllFor 81 = .ok (.if_icmp .gt 66, 3) := by decide +kernel
theorem dX0_addAllFor_84 : decode cX0_addAllFor 84 = .ok (.iload 10, 2) := by decide +kernel
theorem dX0_addAllFor_86 : decode cX0_addAllFor 86 = .ok (.ifCond .ne 8, 3) := by decide +kernel
theorem dX0_addAllFor_89 : decode cX0_addAllFor 89 = .ok (.iload 11, 2) := by decide +kernel
theorem dX0_addAllFor_91 : decode cX0_addAllFor 91 = .ok (.ifCond .eq 50, 3) := by decide +kernel
theorem dX0_addAllFor_94 : decode cX0_addAllFor 94 = .ok (.iload 8, 2) := by decide +kernel
theorem dX0_addAllFor_96 : decode cX0_addAllFor 96 = .ok (.iload 6, 2) := by decide +kernel
theorem dX0_addAllFor_98 : decode cX0_addAllFor 98 = .ok (.iload 7, 2) := by decide +kernel
theorem dX0_addAllFor_100 : decode cX0_addAllFor 100 = .ok (.iload 10, 2) := by decide +kernel
theorem dX0_addAllFor_102 : decode cX0_addAllFor 102 = .ok (.iload 11, 2) := by decide +kernel
theorem dX0_addAllFor_104 : decode cX0_addAllFor 104 = .ok (.invokestatic 66, 3) := by decide +kernel
theorem dX0_addAllFor_107 : decode cX0_addAllFor 107 = .ok (.isub, 1) := by decide +kernel
theorem dX0_addAllFor_108 : decode cX0_addAllFor 108 = .ok (.istore 12, 2) := by decide +kernel
theorem dX0_addAllFor_110 : decode cX0_addAllFor 110 = .ok (.iload 9, 2) := by decide +kernel
theorem dX0_addAllFor_112 : decode cX0_addAllFor 112 = .ok (.iload 6, 2) := by decide +kernel
theorem dX0_addAllFor_114 : decode cX0_addAllFor 114 = .ok (.iload 7, 2) := by decide +kernel
theorem dX0_addAllFor_116 : decode cX0_addAllFor 116 = .ok (.iload 10, 2) := by decide +kernel
theorem dX0_addAllFor_118 : decode cX0_addAllFor 118 = .ok (.iload 11, 2) := by decide +kernel
theorem dX0_addAllFor_120 : decode cX0_addAllFor 120 = .ok (.invokestatic 70, 3) := by decide +kernel
theorem dX0_addAllFor_123 : decode cX0_addAllFor 123 = .ok (.isub, 1) := by decide +kernel
theorem dX0_addAllFor_124 : decode cX0_addAllFor 124 = .ok (.istore 13, 2) := by decide +kernel
theorem dX0_addAllFor_126 : decode cX0_addAllFor 126 = .ok (.aload_n 0, 1) := by decide +kernel
theorem dX0_addAllFor_127 : decode cX0_addAllFor 127 = .ok (.iload 12, 2) := by decide +kernel
theorem dX0_addAllFor_129 : decode cX0_addAllFor 129 = .ok (.iload 12, 2) := by decide +kernel
theorem dX0_addAllFor_131 : decode cX0_addAllFor 131 = .ok (.imul, 1) := by decide +kernel
theorem dX0_addAllFor_132 : decode cX0_addAllFor 132 = .ok (.iload 13, 2) := by decide +kernel
theorem dX0_addAllFor_134 : decode cX0_addAllFor 134 = .ok (.iload 13, 2) := by decide +kernel
theorem dX0_addAllFor_136 : decode cX0_addAllFor 136 = .ok (.imul, 1) := by decide +kernel
theorem dX0_addAllFor_137 : decode cX0_addAllFor 137 = .ok (.iadd, 1) := by decide +kernel
theorem dX0_addAllFor_138 : decode cX0_addAllFor 138 = .ok (.invokevirtual 73, 3) := by decide +kernel
theorem dX0_addAllFor_141 : decode cX0_addAllFor 141 = .ok (.iinc 11 1, 3) := by decide +kernel
theorem dX0_addAllFor_144 : decode cX0_addAllFor 144 = .ok (.goto (-69), 3) := by decide +kernel
theorem dX0_addAllFor_147 : decode cX0_addAllFor 147 = .ok (.iinc 10 1, 3) := by decide +kernel
theorem dX0_addAllFor_150 : decode cX0_addAllFor 150 = .ok (.goto (-91), 3) := by decide +kernel
theorem dX0_addAllFor_153 : decode cX0_addAllFor 153 = .ok (.return_, 1) := by decide +kernel
theorem dX0_fillTriple_0 : decode cX0_fillTriple 0 = .ok (.aload_n 0, 1) := by decide +kernel
theorem dX0_fillTriple_1 : decode cX0_fillTriple 1 = .ok (.aload_n 1, 1) := by decide +kernel
theorem dX0_fillTriple_2 : decode cX0_fillTriple 2 = .ok (.aload_n 1, 1) := by decide +kernel
theorem dX0_fillTriple_3 : decode cX0_fillTriple 3 = .ok (.iload_n 2, 1) := by decide +kernel
theorem dX0_fillTriple_4 : decode cX0_fillTriple 4 = .ok (.invokevirtual 25, 3) := by decide +kernel
theorem dX0_fillTriple_7 : decode cX0_fillTriple 7 = .ok (.i2l, 1) := by decide +kernel
theorem dX0_fillTriple_8 : decode cX0_fillTriple 8 = .ok (.aload_n 1, 1) := by decide +kernel
theorem dX0_fillTriple_9 : decode cX0_fillTriple 9 = .ok (.iload_n 3, 1) := by decide +kernel
theorem dX0_fillTriple_10 : decode cX0_fillTriple 10 = .ok (.invokevirtual 25, 3) := by decide +kernel
theorem dX0_fillTriple_13 : decode cX0_fillTriple 13 = .ok (.i2l, 1) := by decide +kernel
theorem dX0_fillTriple_14 : decode cX0_fillTriple 14 = .ok (.lmul, 1) := by decide +kernel
theorem dX0_fillTriple_15 : decode cX0_fillTriple 15 = .ok (.aload_n 1, 1) := by decide +kernel
theorem dX0_fillTriple_16 : decode cX0_fillTriple 16 = .ok (.iload 4, 2) := by decide +kernel
theorem dX0_fillTriple_18 : decode cX0_fillTriple 18 = .ok (.invokevirtual 25, 3) := by decide +kernel
theorem dX0_fillTriple_21 : decode cX0_fillTriple 21 = .ok (.i2l, 1) := by decide +kernel
theorem dX0_fillTriple_22 : decode cX0_fillTriple 22 = .ok (.lmul, 1) := by decide +kernel
theorem dX0_fillTriple_23 : decode cX0_fillTriple 23 = .ok (.invokevirtual 31, 3) := by decide +kernel
theorem dX0_fillTriple_26 : decode cX0_fillTriple 26 = .ok (.aload_n 1, 1) := by decide +kernel
theorem dX0_fillTriple_27 : decode cX0_fillTriple 27 = .ok (.iload_n 3, 1) := by decide +kernel
theorem dX0_fillTriple_28 : decode cX0_fillTriple 28 = .ok (.iload 4, 2) := by decide +kernel
theorem dX0_fillTriple_30 : decode cX0_fillTriple 30 = .ok (.invokestatic 77, 3) := by decide +kernel
theorem dX0_fillTriple_33 : decode cX0_fillTriple 33 = .ok (.istore 5, 2) := by decide +kernel
theorem dX0_fillTriple_35 : decode cX0_fillTriple 35 = .ok (.aload_n 1, 1) := by decide +kernel
theorem dX0_fillTriple_36 : decode cX0_fillTriple 36 = .ok (.iload_n 3, 1) := by decide +kernel
theorem dX0_fillTriple_37 : decode cX0_fillTriple 37 = .ok (.iload 4, 2) := by decide +kernel
theorem dX0_fillTriple_39 : decode cX0_fillTriple 39 = .ok (.invokestatic 81, 3) := by decide +kernel
theorem dX0_fillTriple_42 : decode cX0_fillTriple 42 = .ok (.istore 6, 2) := by decide +kernel
theorem dX0_fillTriple_44 : decode cX0_fillTriple 44 = .ok (.aload_n 1, 1) := by decide +kernel
theorem dX0_fillTriple_45 : decode cX0_fillTriple 45 = .ok (.iload_n 2, 1) := by decide +kernel
theorem dX0_fillTriple_46 : decode cX0_fillTriple 46 = .ok (.iload 4, 2) := by decide +kernel
theorem dX0_fillTriple_48 : decode cX0_fillTriple 48 = .ok (.invokestatic 77, 3) := by decide +kernel
theorem dX0_fillTriple_51 : decode cX0_fillTriple 51 = .ok (.istore 7, 2) := by decide +kernel
theorem dX0_fillTriple_53 : decode cX0_fillTriple 53 = .ok (.aload_n 1, 1) := by decide +kernel
theorem dX0_fillTriple_54 : decode cX0_fillTriple 54 = .ok (.iload_n 2, 1) := by decide +kernel
theorem dX0_fillTriple_55 : decode cX0_fillTriple 55 = .ok (.iload 4, 2) := by decide +kernel
theorem dX0_fillTriple_57 : decode cX0_fillTriple 57 = .ok (.invokestatic 81, 3) := by decide +kernel
theorem dX0_fillTriple_60 : decode cX0_fillTriple 60 = .ok (.istore 8, 2) := by decide +kernel
theorem dX0_fillTriple_62 : decode cX0_fillTriple 62 = .ok (.aload_n 1, 1) := by decide +kernel
theorem dX0_fillTriple_63 : decode cX0_fillTriple 63 = .ok (.iload_n 2, 1) := by decide +kernel
theorem dX0_fillTriple_64 : decode cX0_fillTriple 64 = .ok (.iload_n 3, 1) := by decide +kernel
theorem dX0_fillTriple_65 : decode cX0_fillTriple 65 = .ok (.invokestatic 77, 3) := by decide +kernel
theorem dX0_fillTriple_68 : decode cX0_fillTriple 68 = .ok (.istore 9, 2) := by decide +kernel
theorem dX0_fillTriple_70 : decode cX0_fillTriple 70 = .ok (.aload_n 1, 1) := by decide +kernel
theorem dX0_fillTriple_71 : decode cX0_fillTriple 71 = .ok (.iload_n 2, 1) := by decide +kernel
theorem dX0_fillTriple_72 : decode cX0_fillTriple 72 = .ok (.iload_n 3, 1) := by decide +kernel
theorem dX0_fillTriple_73 : decode cX0_fillTriple 73 = .ok (.invokestatic 81, 3) := by decide +kernel
theorem dX0_fillTriple_76 : decode cX0_fillTriple 76 = .ok (.istore 10, 2) := by decide +kernel
theorem dX0_fillTriple_78 : decode cX0_fillTriple 78 = .ok (.iconst 0, 1) := by decide +kernel
theorem dX0_fillTriple_79 : decode cX0_fillTriple 79 = .ok (.istore 11, 2) := by decide +kernel
theorem dX0_fillTriple_81 : decode cX0_fillTriple 81 = .ok (.iload 11, 2) := by decide +kernel
theorem dX0_fillTriple_83 : decode cX0_fillTriple 83 = .ok (.iconst 4, 1) := by decide +kernel
theorem dX0_fillTriple_84 : decode cX0_fillTriple 84 = .ok (.if_icmp .ge 85, 3) := by decide +kernel
theorem dX0_fillTriple_87 : decode cX0_fillTriple 87 = .ok (.iconst 0, 1) := by decide +kernel
theorem dX0_fillTriple_88 : decode cX0_fillTriple 88 = .ok (.istore 12, 2) := by decide +kernel
theorem dX0_fillTriple_90 : decode cX0_fillTriple 90 = .ok (.iload 12, 2) := by decide +kernel
theorem dX0_fillTriple_92 : decode cX0_fillTriple 92 = .ok (.iconst 4, 1) := by decide +kernel
theorem dX0_fillTriple_93 : decode cX0_fillTriple 93 = .ok (.if_icmp .ge 57, 3) := by decide +kernel
theorem dX0_fillTriple_96 : decode cX0_fillTriple 96 = .ok (.iload 5, 2) := by decide +kernel
theorem dX0_fillTriple_98 : decode cX0_fillTriple 98 = .ok (.iload 7, 2) := by decide +kernel
theorem dX0_fillTriple_100 : decode cX0_fillTriple 100 = .ok (.iadd, 1) := by decide +kernel
theorem dX0_fillTriple_101 : decode cX0_fillTriple 101 = .ok (.iload 9, 2) := by decide +kernel
theorem dX0_fillTriple_103 : decode cX0_fillTriple 103 = .ok (.iadd, 1) := by decide +kernel
theorem dX0_fillTriple_104 : decode cX0_fillTriple 104 = .ok (.istore 13, 2) := by decide +kernel
theorem dX0_fillTriple_106 : decode cX0_fillTriple 106 = .ok (.iload 6, 2) := by decide +kernel
theorem dX0_fillTriple_108 : decode cX0_fillTriple 108 = .ok (.iload 8, 2) := by decide +kernel
theorem dX0_fillTriple_110 : decode cX0_fillTriple 110 = .ok (.iadd, 1) := by decide +kernel
theorem dX0_fillTriple_111 : decode cX0_fillTriple 111 = .ok (.iload 10, 2) := by decide +kernel
theorem dX0_fillTriple_113 : decode cX0_fillTriple 113 = .ok (.iadd, 1) := by decide +kernel
theorem dX0_fillTriple_114 : decode cX0_fillTriple 114 = .ok (.istore 14, 2) := by decide +kernel
theorem dX0_fillTriple_116 : decode cX0_fillTriple 116 = .ok (.aload_n 0, 1) := by decide +kernel
theorem dX0_fillTriple_117 : decode cX0_fillTriple 117 = .ok (.iload 13, 2) := by decide +kernel
theorem dX0_fillTriple_119 : decode cX0_fillTriple 119 = .ok (.iload 13, 2) := by decide +kernel
theorem dX0_fillTriple_121 : decode cX0_fillTriple 121 = .ok (.imul, 1) := by decide +kernel
theorem dX0_fillTriple_122 : decode cX0_fillTriple 122 = .ok (.iload 14, 2) := by decide +kernel
theorem dX0_fillTriple_124 : decode cX0_fillTriple 124 = .ok (.iload 14, 2) := by decide +kernel
theorem dX0_fillTriple_126 : decode cX0_fillTriple 126 = .ok (.imul, 1) := by decide +kernel
theorem dX0_fillTriple_127 : decode cX0_fillTriple 127 = .ok (.iadd, 1) := by decide +kernel
theorem dX0_fillTriple_128 : decode cX0_fillTriple 128 = .ok (.invokevirtual 73, 3) := by decide +kernel
theorem dX0_fillTriple_131 : decode cX0_fillTriple 131 = .ok (.iload 10, 2) := by decide +kernel
theorem dX0_fillTriple_133 : decode cX0_fillTriple 133 = .ok (.ineg, 1) := by decide +kernel
theorem dX0_fillTriple_134 : decode cX0_fillTriple 134 = .ok (.istore 15, 2) := by decide +kernel
theorem dX0_fillTriple_136 : decode cX0_fillTriple 136 = .ok (.iload 9, 2) := by decide +kernel
theorem dX0_fillTriple_138 : decode cX0_fillTriple 138 = .ok (.istore 10, 2) := by decide +kernel
theorem dX0_fillTriple_140 : decode cX0_fillTriple 140 = .ok (.iload 15, 2) := by decide +kernel
theorem dX0_fillTriple_142 : decode cX0_fillTriple 142 = .ok (.istore 9, 2) := by decide +kernel
theorem dX0_fillTriple_144 : decode cX0_fillTriple 144 = .ok (.iinc 12 1, 3) := by decide +kernel
theorem dX0_fillTriple_147 : decode cX0_fillTriple 147 = .ok (.goto (-57), 3) := by decide +kernel
theorem dX0_fillTriple_150 : decode cX0_fillTriple 150 = .ok (.iload 8, 2) := by decide +kernel
theorem dX0_fillTriple_152 : decode cX0_fillTriple 152 = .ok (.ineg, 1) := by decide +kernel
theorem dX0_fillTriple_153 : decode cX0_fillTriple 153 = .ok (.istore 12, 2) := by decide +kernel
theorem dX0_fillTriple_155 : decode cX0_fillTriple 155 = .ok (.iload 7, 2) := by decide +kernel
theorem dX0_fillTriple_157 : decode cX0_fillTriple 157 = .ok (.istore 8, 2) := by decide +kernel
theorem dX0_fillTriple_159 : decode cX0_fillTriple 159 = .ok (.iload 12, 2) := by decide +kernel
theorem dX0_fillTriple_161 : decode cX0_fillTriple 161 = .ok (.istore 7, 2) := by decide +kernel
theorem dX0_fillTriple_163 : decode cX0_fillTriple 163 = .ok (.iinc 11 1, 3) := by decide +kernel
theorem dX0_fillTriple_166 : decode cX0_fillTriple 166 = .ok (.goto (-85), 3) := by decide +kernel
theorem dX0_fillTriple_169 : decode cX0_fillTriple 169 = .ok (.return_, 1) := by decide +kernel
theorem dX0_productReal_0 : decode cX0_productReal 0 = .ok (.aload_n 0, 1) := by decide +kernel
theorem dX0_productReal_1 : decode cX0_productReal 1 = .ok (.iload_n 1, 1) := by decide +kernel
theorem dX0_productReal_2 : decode cX0_productReal 2 = .ok (.invokevirtual 60, 3) := by decide +kernel
theorem dX0_productReal_5 : decode cX0_productReal 5 = .ok (.aload_n 0, 1) := by decide +kernel
theorem dX0_productReal_6 : decode cX0_productReal 6 = .ok (.iload_n 2, 1) := by decide +kernel
theorem dX0_productReal_7 : decode cX0_productReal 7 = .ok (.invokevirtual 60, 3) := by decide +kernel
theorem dX0_productReal_10 : decode cX0_productReal 10 = .ok (.imul, 1) := by decide +kernel
theorem dX0_productReal_11 : decode cX0_productReal 11 = .ok (.aload_n 0, 1) := by decide +kernel
theorem dX0_productReal_12 : decode cX0_productReal 12 = .ok (.iload_n 1, 1) := by decide +kernel
theorem dX0_productReal_13 : decode cX0_productReal 13 = .ok (.invokevirtual 63, 3) := by decide +kernel
theorem dX0_productReal_16 : decode cX0_productReal 16 = .ok (.aload_n 0, 1) := by decide +kernel
theorem dX0_productReal_17 : decode cX0_productReal 17 = .ok (.iload_n 2, 1) := by decide +kernel
theorem dX0_productReal_18 : decode cX0_productReal 18 = .ok (.invokevirtual 63, 3) := by decide +kernel
theorem dX0_productReal_21 : decode cX0_productReal 21 = .ok (.imul, 1) := by decide +kernel
theorem dX0_productReal_22 : decode cX0_productReal 22 = .ok (.isub, 1) := by decide +kernel
theorem dX0_productReal_23 : decode cX0_productReal 23 = .ok (.ireturn, 1) := by decide +kernel
theorem dX0_productImaginary_0 : decode cX0_productImaginary 0 = .ok (.aload_n 0, 1) := by decide +kernel
theorem dX0_productImaginary_1 : decode cX0_productImaginary 1 = .ok (.iload_n 1, 1) := by decide +kernel
theorem dX0_productImaginary_2 : decode cX0_productImaginary 2 = .ok (.invokevirtual 60, 3) := by decide +kernel
theorem dX0_productImaginary_5 : decode cX0_productImaginary 5 = .ok (.aload_n 0, 1) := by decide +kernel
theorem dX0_productImaginary_6 : decode cX0_productImaginary 6 = .ok (.iload_n 2, 1) := by decide +kernel
theorem dX0_productImaginary_7 : decode cX0_productImaginary 7 = .ok (.invokevirtual 63, 3) := by decide +kernel
theorem dX0_productImaginary_10 : decode cX0_productImaginary 10 = .ok (.imul, 1) := by decide +kernel
theorem dX0_productImaginary_11 : decode cX0_productImaginary 11 = .ok (.aload_n 0, 1) := by decide +kernel
theorem dX0_productImaginary_12 : decode cX0_productImaginary 12 = .ok (.iload_n 1, 1) := by decide +kernel
theorem dX0_productImaginary_13 : decode cX0_productImaginary 13 = .ok (.invokevirtual 63, 3) := by decide +kernel
theorem dX0_productImaginary_16 : decode cX0_productImaginary 16 = .ok (.aload_n 0, 1) := by decide +kernel
theorem dX0_productImaginary_17 : decode cX0_productImaginary 17 = .ok (.iload_n 2, 1) := by decide +kernel
theorem dX0_productImaginary_18 : decode cX0_productImaginary 18 = .ok (.invokevirtual 60, 3) := by decide +kernel
theorem dX0_productImaginary_21 : decode cX0_productImaginary 21 = .ok (.imul, 1) := by decide +kernel
theorem dX0_productImaginary_22 : decode cX0_productImaginary 22 = .ok (.iadd, 1) := by decide +kernel
theorem dX0_productImaginary_23 : decode cX0_productImaginary 23 = .ok (.ireturn, 1) := by decide +kernel
theorem dX0_fillPlates_0 : decode cX0_fillPlates 0 = .ok (.iload_n 2, 1) := by decide +kernel
theorem dX0_fillPlates_1 : decode cX0_fillPlates 1 = .ok (.iconst 0, 1) := by decide +kernel
theorem dX0_fillPlates_2 : decode cX0_fillPlates 2 = .ok (.invokestatic 84, 3) := by decide +kernel
theorem dX0_fillPlates_5 : decode cX0_fillPlates 5 = .ok (.istore_n 3, 1) := by decide +kernel
theorem dX0_fillPlates_6 : decode cX0_fillPlates 6 = .ok (.iload_n 2, 1) := by decide +kernel
theorem dX0_fillPlates_7 : decode cX0_fillPlates 7 = .ok (.iload_n 3, 1) := by decide +kernel
theorem dX0_fillPlates_8 : decode cX0_fillPlates 8 = .ok (.iconst 1, 1) := by decide +kernel
theorem dX0_fillPlates_9 : decode cX0_fillPlates 9 = .ok (.iadd, 1) := by decide +kernel
theorem dX0_fillPlates_10 : decode cX0_fillPlates 10 = .ok (.invokestatic 84, 3) := by decide +kernel
theorem dX0_fillPlates_13 : decode cX0_fillPlates 13 = .ok (.istore 4, 2) := by decide +kernel
theorem dX0_fillPlates_15 : decode cX0_fillPlates 15 = .ok (.iload_n 2, 1) := by decide +kernel
theorem dX0_fillPlates_16 : decode cX0_fillPlates 16 = .ok (.iload 4, 2) := by decide +kernel
theorem dX0_fillPlates_18 : decode cX0_fillPlates 18 = .ok (.iconst 1, 1) := by decide +kernel
theorem dX0_fillPlates_19 : decode cX0_fillPlates 19 = .ok (.iadd, 1) := by decide +kernel
theorem dX0_fillPlates_20 : decode cX0_fillPlates 20 = .ok (.invokestatic 84, 3) := by decide +kernel
theorem dX0_fillPlates_23 : decode cX0_fillPlates 23 = .ok (.istore 5, 2) := by decide +kernel
theorem dX0_fillPlates_25 : decode cX0_fillPlates 25 = .ok (.iload 5, 2) := by decide +kernel
theorem dX0_fillPlates_27 : decode cX0_fillPlates 27 = .ok (.iconst 4, 1) := by decide +kernel
theorem dX0_fillPlates_28 : decode cX0_fillPlates 28 = .ok (.if_icmp .ge 16, 3) := by decide +kernel
theorem dX0_fillPlates_31 : decode cX0_fillPlates 31 = .ok (.aload_n 0, 1) := by decide +kernel
theorem dX0_fillPlates_32 : decode cX0_fillPlates 32 = .ok (.aload_n 1, 1) := by decide +kernel
theorem dX0_fillPlates_33 : decode cX0_fillPlates 33 = .ok (.iload_n 3, 1) := by decide +kernel
theorem dX0_fillPlates_34 : decode cX0_fillPlates 34 = .ok (.iload 4, 2) := by decide +kernel
theorem dX0_fillPlates_36 : decode cX0_fillPlates 36 = .ok (.iload 5, 2) := by decide +kernel
theorem dX0_fillPlates_38 : decode cX0_fillPlates 38 = .ok (.invokevirtual 88, 3) := by decide +kernel
theorem dX0_fillPlates_41 : decode cX0_fillPlates 41 = .ok (.goto 11, 3) := by decide +kernel
theorem dX0_fillPlates_44 : decode cX0_fillPlates 44 = .ok (.aload_n 0, 1) := by decide +kernel
theorem dX0_fillPlates_45 : decode cX0_fillPlates 45 = .ok (.aload_n 1, 1) := by decide +kernel
theorem dX0_fillPlates_46 : decode cX0_fillPlates 46 = .ok (.iload_n 3, 1) := by decide +kernel
theorem dX0_fillPlates_47 : decode cX0_fillPlates 47 = .ok (.iload 4, 2) := by decide +kernel
theorem dX0_fillPlates_49 : decode cX0_fillPlates 49 = .ok (.invokevirtual 92, 3) := by decide +kernel
theorem dX0_fillPlates_52 : decode cX0_fillPlates 52 = .ok (.return_, 1) := by decide +kernel
theorem dX0_firstPlate_0 : decode cX0_firstPlate 0 = .ok (.iload_n 1, 1) := by decide +kernel
theorem dX0_firstPlate_1 : decode cX0_firstPlate 1 = .ok (.istore_n 2, 1) := by decide +kernel
theorem dX0_firstPlate_2 : decode cX0_firstPlate 2 = .ok (.iload_n 2, 1) := by decide +kernel
theorem dX0_firstPlate_3 : decode cX0_firstPlate 3 = .ok (.iconst 4, 1) := by decide +kernel
theorem dX0_firstPlate_4 : decode cX0_firstPlate 4 = .ok (.if_icmp .ge 20, 3) := by decide +kernel
theorem dX0_firstPlate_7 : decode cX0_firstPlate 7 = .ok (.iload_n 0, 1) := by decide +kernel
theorem dX0_firstPlate_8 : decode cX0_firstPlate 8 = .ok (.iload_n 2, 1) := by decide +kernel
theorem dX0_firstPlate_9 : decode cX0_firstPlate 9 = .ok (.ishr, 1) := by decide +kernel
theorem dX0_firstPlate_10 : decode cX0_firstPlate 10 = .ok (.iconst 1, 1) := by decide +kernel
theorem dX0_firstPlate_11 : decode cX0_firstPlate 11 = .ok (.iand, 1) := by decide +kernel
theorem dX0_firstPlate_12 : decode cX0_firstPlate 12 = .ok (.iconst 1, 1) := by decide +kernel
theorem dX0_firstPlate_13 : decode cX0_firstPlate 13 = .ok (.if_icmp .ne 5, 3) := by decide +kernel
theorem dX0_firstPlate_16 : decode cX0_firstPlate 16 = .ok (.iload_n 2, 1) := by decide +kernel
theorem dX0_firstPlate_17 : decode cX0_firstPlate 17 = .ok (.ireturn, 1) := by decide +kernel
theorem dX0_firstPlate_18 : decode cX0_firstPlate 18 = .ok (.iinc 2 1, 3) := by decide +kernel
theorem dX0_firstPlate_21 : decode cX0_firstPlate 21 = .ok (.goto (-19), 3) := by decide +kernel
theorem dX0_firstPlate_24 : decode cX0_firstPlate 24 = .ok (.iconst 4, 1) := by decide +kernel
theorem dX0_firstPlate_25 : decode cX0_firstPlate 25 = .ok (.ireturn, 1) := by decide +kernel
theorem dX0_kindOf_0 : decode cX0_kindOf 0 = .ok (.iload_n 1, 1) := by decide +kernel
theorem dX0_kindOf_1 : decode cX0_kindOf 1 = .ok (.ifCond .ne 5, 3) := by decide +kernel
theorem dX0_kindOf_4 : decode cX0_kindOf 4 = .ok (.iconst 0, 1) := by decide +kernel
theorem dX0_kindOf_5 : decode cX0_kindOf 5 = .ok (.ireturn, 1) := by decide +kernel
theorem dX0_kindOf_6 : decode cX0_kindOf 6 = .ok (.iload_n 1, 1) := by decide +kernel
theorem dX0_kindOf_7 : decode cX0_kindOf 7 = .ok (.i2l, 1) := by decide +kernel
theorem dX0_kindOf_8 : decode cX0_kindOf 8 = .ok (.aload_n 0, 1) := by decide +kernel
theorem dX0_kindOf_9 : decode cX0_kindOf 9 = .ok (.getfield 19, 3) := by decide +kernel
theorem dX0_kindOf_12 : decode cX0_kindOf 12 = .ok (.lcmp, 1) := by decide +kernel
theorem dX0_kindOf_13 : decode cX0_kindOf 13 = .ok (.ifCond .lt 5, 3) := by decide +kernel
theorem dX0_kindOf_16 : decode cX0_kindOf 16 = .ok (.iconst 1, 1) := by decide +kernel
theorem dX0_kindOf_17 : decode cX0_kindOf 17 = .ok (.ireturn, 1) := by decide +kernel
theorem dX0_kindOf_18 : decode cX0_kindOf 18 = .ok (.iload_n 1, 1) := by decide +kernel
theorem dX0_kindOf_19 : decode cX0_kindOf 19 = .ok (.i2l, 1) := by decide +kernel
theorem dX0_kindOf_20 : decode cX0_kindOf 20 = .ok (.aload_n 0, 1) := by decide +kernel
theorem dX0_kindOf_21 : decode cX0_kindOf 21 = .ok (.getfield 22, 3) := by decide +kernel
theorem dX0_kindOf_24 : decode cX0_kindOf 24 = .ok (.lcmp, 1) := by decide +kernel
theorem dX0_kindOf_25 : decode cX0_kindOf 25 = .ok (.ifCond .gt 7, 3) := by decide +kernel
theorem dX0_kindOf_28 : decode cX0_kindOf 28 = .ok (.iconst 2, 1) := by decide +kernel
theorem dX0_kindOf_29 : decode cX0_kindOf 29 = .ok (.goto 4, 3) := by decide +kernel
theorem dX0_kindOf_32 : decode cX0_kindOf 32 = .ok (.iconst 3, 1) := by decide +kernel
theorem dX0_kindOf_33 : decode cX0_kindOf 33 = .ok (.ireturn, 1) := by decide +kernel
theorem dX0_bandCount_0 : decode cX0_bandCount 0 = .ok (.iconst 0, 1) := by decide +kernel
theorem dX0_bandCount_1 : decode cX0_bandCount 1 = .ok (.istore_n 1, 1) := by decide +kernel
theorem dX0_bandCount_2 : decode cX0_bandCount 2 = .ok (.iconst 0, 1) := by decide +kernel
theorem dX0_bandCount_3 : decode cX0_bandCount 3 = .ok (.istore_n 2, 1) := by decide +kernel
theorem dX0_bandCount_4 : decode cX0_bandCount 4 = .ok (.iload_n 2, 1) := by decide +kernel
theorem dX0_bandCount_5 : decode cX0_bandCount 5 = .ok (.aload_n 0, 1) := by decide +kernel
theorem dX0_bandCount_6 : decode cX0_bandCount 6 = .ok (.getfield 35, 3) := by decide +kernel
theorem dX0_bandCount_9 : decode cX0_bandCount 9 = .ok (.if_icmp .ge 33, 3) := by decide +kernel
theorem dX0_bandCount_12 : decode cX0_bandCount 12 = .ok (.iload_n 2, 1) := by decide +kernel
theorem dX0_bandCount_13 : decode cX0_bandCount 13 = .ok (.sipush 144, 3) := by decide +kernel
theorem dX0_bandCount_16 : decode cX0_bandCount 16 = .ok (.if_icmp .ge 26, 3) := by decide +kernel
theorem dX0_bandCount_19 : decode cX0_bandCount 19 = .ok (.aload_n 0, 1) := by decide +kernel
theorem dX0_bandCount_20 : decode cX0_bandCount 20 = .ok (.aload_n 0, 1) := by decide +kernel
theorem dX0_bandCount_21 : decode cX0_bandCount 21 = .ok (.getfield 9, 3) := by decide +kernel
theorem dX0_bandCount_24 : decode cX0_bandCount 24 = .ok (.iload_n 2, 1) := by decide +kernel
theorem dX0_bandCount_25 : decode cX0_bandCount 25 = .ok (.iaload, 1) := by decide +kernel
theorem dX0_bandCount_26 : decode cX0_bandCount 26 = .ok (.invokevirtual 95, 3) := by decide +kernel
theorem dX0_bandCount_29 : decode cX0_bandCount 29 = .ok (.iconst 3, 1) := by decide +kernel
theorem dX0_bandCount_30 : decode cX0_bandCount 30 = .ok (.if_icmp .ne 6, 3) := by decide +kernel
theorem dX0_bandCount_33 : decode cX0_bandCount 33 = .ok (.iinc 1 4, 3) := by decide +kernel
theorem dX0_bandCount_36 : decode cX0_bandCount 36 = .ok (.iinc 2 1, 3) := by decide +kernel
theorem dX0_bandCount_39 : decode cX0_bandCount 39 = .ok (.goto (-35), 3) := by decide +kernel
theorem dX0_bandCount_42 : decode cX0_bandCount 42 = .ok (.iload_n 1, 1) := by decide +kernel
theorem dX0_bandCount_43 : decode cX0_bandCount 43 = .ok (.ireturn, 1) := by decide +kernel
theorem dX0_worstPeriodFound_0 : decode cX0_worstPeriodFound 0 = .ok (.iconst 0, 1) := by decide +kernel
theorem dX0_worstPeriodFound_1 : decode cX0_worstPeriodFound 1 = .ok (.istore_n 1, 1) := by decide +kernel
theorem dX0_worstPeriodFound_2 : decode cX0_worstPeriodFound 2 = .ok (.iconst 0, 1) := by decide +kernel
theorem dX0_worstPeriodFound_3 : decode cX0_worstPeriodFound 3 = .ok (.istore_n 2, 1) := by decide +kernel
theorem dX0_worstPeriodFound_4 : decode cX0_worstPeriodFound 4 = .ok (.iload_n 2, 1) := by decide +kernel
theorem dX0_worstPeriodFound_5 : decode cX0_worstPeriodFound 5 = .ok (.aload_n 0, 1) := by decide +kernel
theorem dX0_worstPeriodFound_6 : decode cX0_worstPeriodFound 6 = .ok (.getfield 35, 3) := by decide +kernel
theorem dX0_worstPeriodFound_9 : decode cX0_worstPeriodFound 9 = .ok (.if_icmp .ge 51, 3) := by decide +kernel
theorem dX0_worstPeriodFound_12 : decode cX0_worstPeriodFound 12 = .ok (.iload_n 2, 1) := by decide +kernel
theorem dX0_worstPeriodFound_13 : decode cX0_worstPeriodFound 13 = .ok (.sipush 144, 3) := by decide +kernel
theorem dX0_worstPeriodFound_16 : decode cX0_worstPeriodFound 16 = .ok (.if_icmp .ge 44, 3) := by decide +kernel
theorem dX0_worstPeriodFound_19 : decode cX0_worstPeriodFound 19 = .ok (.aload_n 0, 1) := by decide +kernel
theorem dX0_worstPeriodFound_20 : decode cX0_worstPeriodFound 20 = .ok (.aload_n 0, 1) := by decide +kernel
theorem dX0_worstPeriodFound_21 : decode cX0_worstPeriodFound 21 = .ok (.getfield 9, 3) := by decide +kernel
theorem dX0_worstPeriodFound_24 : decode cX0_worstPeriodFound 24 = .ok (.iload_n 2, 1) := by decide +kernel
theorem dX0_worstPeriodFound_25 : decode cX0_worstPeriodFound 25 = .ok (.iaload, 1) := by decide +kernel
theorem dX0_worstPeriodFound_26 : decode cX0_worstPeriodFound 26 = .ok (.invokevirtual 95, 3) := by decide +kernel
theorem dX0_worstPeriodFound_29 : decode cX0_worstPeriodFound 29 = .ok (.iconst 3, 1) := by decide +kernel
theorem dX0_worstPeriodFound_30 : decode cX0_worstPeriodFound 30 = .ok (.if_icmp .ne 24, 3) := by decide +kernel
theorem dX0_worstPeriodFound_33 : decode cX0_worstPeriodFound 33 = .ok (.iload_n 1, 1) := by decide +kernel
theorem dX0_worstPeriodFound_34 : decode cX0_worstPeriodFound 34 = .ok (.ifCond .eq 13, 3) := by decide +kernel
theorem dX0_worstPeriodFound_37 : decode cX0_worstPeriodFound 37 = .ok (.aload_n 0, 1) := by decide +kernel
theorem dX0_worstPeriodFound_38 : decode cX0_worstPeriodFound 38 = .ok (.getfield 9, 3) := by decide +kernel
theorem dX0_worstPeriodFound_41 : decode cX0_worstPeriodFound 41 = .ok (.iload_n 2, 1) := by decide +kernel
theorem dX0_worstPeriodFound_42 : decode cX0_worstPeriodFound 42 = .ok (.iaload, 1) := by decide +kernel
theorem dX0_worstPeriodFound_43 : decode cX0_worstPeriodFound 43 = .ok (.iload_n 1, 1) := by decide +kernel
theorem dX0_worstPeriodFound_44 : decode cX0_worstPeriodFound 44 = .ok (.if_icmp .ge 10, 3) := by decide +kernel
theorem dX0_worstPeriodFound_47 : decode cX0_worstPeriodFound 47 = .ok (.aload_n 0, 1) := by decide +kernel
theorem dX0_worstPeriodFound_48 : decode cX0_worstPeriodFound 48 = .ok (.getfield 9, 3) := by decide +kernel
theorem dX0_worstPeriodFound_51 : decode cX0_worstPeriodFound 51 = .ok (.iload_n 2, 1) := by decide +kernel
theorem dX0_worstPeriodFound_52 : decode cX0_worstPeriodFound 52 = .ok (.iaload, 1) := by decide +kernel
theorem dX0_worstPeriodFound_53 : decode cX0_worstPeriodFound 53 = .ok (.istore_n 1, 1) := by decide +kernel
theorem dX0_worstPeriodFound_54 : decode cX0_worstPeriodFound 54 = .ok (.iinc 2 1, 3) := by decide +kernel
theorem dX0_worstPeriodFound_57 : decode cX0_worstPeriodFound 57 = .ok (.goto (-53), 3) := by decide +kernel
theorem dX0_worstPeriodFound_60 : decode cX0_worstPeriodFound 60 = .ok (.aload_n 0, 1) := by decide +kernel
theorem dX0_worstPeriodFound_61 : decode cX0_worstPeriodFound 61 = .ok (.iload_n 1, 1) := by decide +kernel
theorem dX0_worstPeriodFound_62 : decode cX0_worstPeriodFound 62 = .ok (.invokevirtual 98, 3) := by decide +kernel
theorem dX0_worstPeriodFound_65 : decode cX0_worstPeriodFound 65 = .ok (.ireturn, 1) := by decide +kernel
theorem dX0_combinationsWith_0 : decode cX0_combinationsWith 0 = .ok (.iconst 0, 1) := by decide +kernel
theorem dX0_combinationsWith_1 : decode cX0_combinationsWith 1 = .ok (.istore_n 2, 1) := by decide +kernel
theorem dX0_combinationsWith_2 : decode cX0_combinationsWith 2 = .ok (.iconst 0, 1) := by decide +kernel
theorem dX0_combinationsWith_3 : decode cX0_combinationsWith 3 = .ok (.istore_n 3, 1) := by decide +kernel
theorem dX0_combinationsWith_4 : decode cX0_combinationsWith 4 = .ok (.iload_n 3, 1) := by decide +kernel
theorem dX0_combinationsWith_5 : decode cX0_combinationsWith 5 = .ok (.aload_n 0, 1) := by decide +kernel
theorem dX0_combinationsWith_6 : decode cX0_combinationsWith 6 = .ok (.getfield 35, 3) := by decide +kernel
theorem dX0_combinationsWith_9 : decode cX0_combinationsWith 9 = .ok (.if_icmp .ge 29, 3) := by decide +kernel
theorem dX0_combinationsWith_12 : decode cX0_combinationsWith 12 = .ok (.iload_n 3, 1) := by decide +kernel
theorem dX0_combinationsWith_13 : decode cX0_combinationsWith 13 = .ok (.sipush 144, 3) := by decide +kernel
theorem dX0_combinationsWith_16 : decode cX0_combinationsWith 16 = .ok (.if_icmp .ge 22, 3) := by decide +kernel
theorem dX0_combinationsWith_19 : decode cX0_combinationsWith 19 = .ok (.aload_n 0, 1) := by decide +kernel
theorem dX0_combinationsWith_20 : decode cX0_combinationsWith 20 = .ok (.getfield 9, 3) := by decide +kernel
theorem dX0_combinationsWith_23 : decode cX0_combinationsWith 23 = .ok (.iload_n 3, 1) := by decide +kernel
theorem dX0_combinationsWith_24 : decode cX0_combinationsWith 24 = .ok (.iaload, 1) := by decide +kernel
theorem dX0_combinationsWith_25 : decode cX0_combinationsWith 25 = .ok (.iload_n 1, 1) := by decide +kernel
theorem dX0_combinationsWith_26 : decode cX0_combinationsWith 26 = .ok (.if_icmp .ne 6, 3) := by decide +kernel
theorem dX0_combinationsWith_29 : decode cX0_combinationsWith 29 = .ok (.iinc 2 4, 3) := by decide +kernel
theorem dX0_combinationsWith_32 : decode cX0_combinationsWith 32 = .ok (.iinc 3 1, 3) := by decide +kernel
theorem dX0_combinationsWith_35 : decode cX0_combinationsWith 35 = .ok (.goto (-31), 3) := by decide +kernel
theorem dX0_combinationsWith_38 : decode cX0_combinationsWith 38 = .ok (.iload_n 2, 1) := by decide +kernel
theorem dX0_combinationsWith_39 : decode cX0_combinationsWith 39 = .ok (.ireturn, 1) := by decide +kernel
theorem dX0_sort_0 : decode cX0_sort 0 = .ok (.iconst 1, 1) := by decide +kernel
theorem dX0_sort_1 : decode cX0_sort 1 = .ok (.istore_n 1, 1) := by decide +kernel
theorem dX0_sort_2 : decode cX0_sort 2 = .ok (.iload_n 1, 1) := by decide +kernel
theorem dX0_sort_3 : decode cX0_sort 3 = .ok (.aload_n 0, 1) := by decide +kernel
theorem dX0_sort_4 : decode cX0_sort 4 = .ok (.getfield 35, 3) := by decide +kernel
theorem dX0_sort_7 : decode cX0_sort 7 = .ok (.if_icmp .ge 68, 3) := by decide +kernel
theorem dX0_sort_10 : decode cX0_sort 10 = .ok (.iload_n 1, 1) := by decide +kernel
theorem dX0_sort_11 : decode cX0_sort 11 = .ok (.sipush 144, 3) := by decide +kernel
theorem dX0_sort_14 : decode cX0_sort 14 = .ok (.if_icmp .ge 61, 3) := by decide +kernel
theorem dX0_sort_17 : decode cX0_sort 17 = .ok (.aload_n 0, 1) := by decide +kernel
theorem dX0_sort_18 : decode cX0_sort 18 = .ok (.getfield 9, 3) := by decide +kernel
theorem dX0_sort_21 : decode cX0_sort 21 = .ok (.iload_n 1, 1) := by decide +kernel
theorem dX0_sort_22 : decode cX0_sort 22 = .ok (.iaload, 1) := by decide +kernel
theorem dX0_sort_23 : decode cX0_sort 23 = .ok (.istore_n 2, 1) := by decide +kernel
theorem dX0_sort_24 : decode cX0_sort 24 = .ok (.iload_n 1, 1) := by decide +kernel
theorem dX0_sort_25 : decode cX0_sort 25 = .ok (.istore_n 3, 1) := by decide +kernel
theorem dX0_sort_26 : decode cX0_sort 26 = .ok (.iload_n 3, 1) := by decide +kernel
theorem dX0_sort_27 : decode cX0_sort 27 = .ok (.ifCond .le 35, 3) := by decide +kernel
theorem dX0_sort_30 : decode cX0_sort 30 = .ok (.aload_n 0, 1) := by decide +kernel
theorem dX0_sort_31 : decode cX0_sort 31 = .ok (.getfield 9, 3) := by decide +kernel
theorem dX0_sort_34 : decode cX0_sort 34 = .ok (.iload_n 3, 1) := by decide +kernel
theorem dX0_sort_35 : decode cX0_sort 35 = .ok (.iconst 1, 1) := by decide +kernel
theorem dX0_sort_36 : decode cX0_sort 36 = .ok (.isub, 1) := by decide +kernel
theorem dX0_sort_37 : decode cX0_sort 37 = .ok (.iaload, 1) := by decide +kernel
theorem dX0_sort_38 : decode cX0_sort 38 = .ok (.iload_n 2, 1) := by decide +kernel
theorem dX0_sort_39 : decode cX0_sort 39 = .ok (.if_icmp .le 23, 3) := by decide +kernel
theorem dX0_sort_42 : decode cX0_sort 42 = .ok (.aload_n 0, 1) := by decide +kernel
theorem dX0_sort_43 : decode cX0_sort 43 = .ok (.getfield 9, 3) := by decide +kernel
theorem dX0_sort_46 : decode cX0_sort 46 = .ok (.iload_n 3, 1) := by decide +kernel
theorem dX0_sort_47 : decode cX0_sort 47 = .ok (.aload_n 0, 1) := by decide +kernel
theorem dX0_sort_48 : decode cX0_sort 48 = .ok (.getfield 9, 3) := by decide +kernel
theorem dX0_sort_51 : decode cX0_sort 51 = .ok (.iload_n 3, 1) := by decide +kernel
theorem dX0_sort_52 : decode cX0_sort 52 = .ok (.iconst 1, 1) := by decide +kernel
theorem dX0_sort_53 : decode cX0_sort 53 = .ok (.isub, 1) := by decide +kernel
theorem dX0_sort_54 : decode cX0_sort 54 = .ok (.iaload, 1) := by decide +kernel
theorem dX0_sort_55 : decode cX0_sort 55 = .ok (.iastore, 1) := by decide +kernel
theorem dX0_sort_56 : decode cX0_sort 56 = .ok (.iinc 3 (-1), 3) := by decide +kernel
theorem dX0_sort_59 : decode cX0_sort 59 = .ok (.goto (-33), 3) := by decide +kernel
theorem dX0_sort_62 : decode cX0_sort 62 = .ok (.aload_n 0, 1) := by decide +kernel
theorem dX0_sort_63 : decode cX0_sort 63 = .ok (.getfield 9, 3) := by decide +kernel
theorem dX0_sort_66 : decode cX0_sort 66 = .ok (.iload_n 3, 1) := by decide +kernel
theorem dX0_sort_67 : decode cX0_sort 67 = .ok (.iload_n 2, 1) := by decide +kernel
theorem dX0_sort_68 : decode cX0_sort 68 = .ok (.iastore, 1) := by decide +kernel
theorem dX0_sort_69 : decode cX0_sort 69 = .ok (.iinc 1 1, 3) := by decide +kernel
theorem dX0_sort_72 : decode cX0_sort 72 = .ok (.goto (-70), 3) := by decide +kernel
theorem dX0_sort_75 : decode cX0_sort 75 = .ok (.return_, 1) := by decide +kernel
theorem dX0_differentNorms_0 : decode cX0_differentNorms 0 = .ok (.iconst 0, 1) := by decide +kernel
theorem dX0_differentNorms_1 : decode cX0_differentNorms 1 = .ok (.istore_n 1, 1) := by decide +kernel
theorem dX0_differentNorms_2 : decode cX0_differentNorms 2 = .ok (.iconst 0, 1) := by decide +kernel
theorem dX0_differentNorms_3 : decode cX0_differentNorms 3 = .ok (.istore_n 2, 1) := by decide +kernel
theorem dX0_differentNorms_4 : decode cX0_differentNorms 4 = .ok (.iload_n 2, 1) := by decide +kernel
theorem dX0_differentNorms_5 : decode cX0_differentNorms 5 = .ok (.aload_n 0, 1) := by decide +kernel
theorem dX0_differentNorms_6 : decode cX0_differentNorms 6 = .ok (.getfield 35, 3) := by decide +kernel
theorem dX0_differentNorms_9 : decode cX0_differentNorms 9 = .ok (.if_icmp .ge 40, 3) := by decide +kernel
theorem dX0_differentNorms_12 : decode cX0_differentNorms 12 = .ok (.iload_n 2, 1) := by decide +kernel
theorem dX0_differentNorms_13 : decode cX0_differentNorms 13 = .ok (.sipush 144, 3) := by decide +kernel
theorem dX0_differentNorms_16 : decode cX0_differentNorms 16 = .ok (.if_icmp .ge 33, 3) := by decide +kernel
theorem dX0_differentNorms_19 : decode cX0_differentNorms 19 = .ok (.iload_n 2, 1) := by decide +kernel
theorem dX0_differentNorms_20 : decode cX0_differentNorms 20 = .ok (.ifCond .eq 20, 3) := by decide +kernel
theorem dX0_differentNorms_23 : decode cX0_differentNorms 23 = .ok (.aload_n 0, 1) := by decide +kernel
theorem dX0_differentNorms_24 : decode cX0_differentNorms 24 = .ok (.getfield 9, 3) := by decide +kernel
theorem dX0_differentNorms_27 : decode cX0_differentNorms 27 = .ok (.iload_n 2, 1) := by decide +kernel
theorem dX0_differentNorms_28 : decode cX0_differentNorms 28 = .ok (.iaload, 1) := by decide +kernel
theorem dX0_differentNorms_29 : decode cX0_differentNorms 29 = .ok (.aload_n 0, 1) := by decide +kernel
theorem dX0_differentNorms_30 : decode cX0_differentNorms 30 = .ok (.getfield 9, 3) := by decide +kernel
theorem dX0_differentNorms_33 : decode cX0_differentNorms 33 = .ok (.iload_n 2, 1) := by decide +kernel
theorem dX0_differentNorms_34 : decode cX0_differentNorms 34 = .ok (.iconst 1, 1) := by decide +kernel
theorem dX0_differentNorms_35 : decode cX0_differentNorms 35 = .ok (.isub, 1) := by decide +kernel
theorem dX0_differentNorms_36 : decode cX0_differentNorms 36 = .ok (.iaload, 1) := by decide +kernel
theorem dX0_differentNorms_37 : decode cX0_differentNorms 37 = .ok (.if_icmp .eq 6, 3) := by decide +kernel
theorem dX0_differentNorms_40 : decode cX0_differentNorms 40 = .ok (.iinc 1 1, 3) := by decide +kernel
theorem dX0_differentNorms_43 : decode cX0_differentNorms 43 = .ok (.iinc 2 1, 3) := by decide +kernel
theorem dX0_differentNorms_46 : decode cX0_differentNorms 46 = .ok (.goto (-42), 3) := by decide +kernel
theorem dX0_differentNorms_49 : decode cX0_differentNorms 49 = .ok (.iload_n 1, 1) := by decide +kernel
theorem dX0_differentNorms_50 : decode cX0_differentNorms 50 = .ok (.ireturn, 1) := by decide +kernel
theorem dX0_normAt_0 : decode cX0_normAt 0 = .ok (.iconst 0, 1) := by decide +kernel
theorem dX0_normAt_1 : decode cX0_normAt 1 = .ok (.istore_n 2, 1) := by decide +kernel
theorem dX0_normAt_2 : decode cX0_normAt 2 = .ok (.iconst 0, 1) := by decide +kernel
theorem dX0_normAt_3 : decode cX0_normAt 3 = .ok (.istore_n 3, 1) := by decide +kernel
theorem dX0_normAt_4 : decode cX0_normAt 4 = .ok (.iload_n 3, 1) := by decide +kernel
theorem dX0_normAt_5 : decode cX0_normAt 5 = .ok (.aload_n 0, 1) := by decide +kernel
theorem dX0_normAt_6 : decode cX0_normAt 6 = .ok (.getfield 35, 3) := by decide +kernel
theorem dX0_normAt_9 : decode cX0_normAt 9 = .ok (.if_icmp .ge 52, 3) := by decide +kernel
theorem dX0_normAt_12 : decode cX0_normAt 12 = .ok (.iload_n 3, 1) := by decide +kernel
theorem dX0_normAt_13 : decode cX0_normAt 13 = .ok (.sipush 144, 3) := by decide +kernel
theorem dX0_normAt_16 : decode cX0_normAt 16 = .ok (.if_icmp .ge 45, 3) := by decide +kernel
theorem dX0_normAt_19 : decode cX0_normAt 19 = .ok (.iload_n 3, 1) := by decide +kernel
theorem dX0_normAt_20 : decode cX0_normAt 20 = .ok (.ifCond .eq 20, 3) := by decide +kernel
theorem dX0_normAt_23 : decode cX0_normAt 23 = .ok (.aload_n 0, 1) := by decide +kernel
theorem dX0_normAt_24 : decode cX0_normAt 24 = .ok (.getfield 9, 3) := by decide +kernel
theorem dX0_normAt_27 : decode cX0_normAt 27 = .ok (.iload_n 3, 1) := by decide +kernel
theorem dX0_normAt_28 : decode cX0_normAt 28 = .ok (.iaload, 1) := by decide +kernel
theorem dX0_normAt_29 : decode cX0_normAt 29 = .ok (.aload_n 0, 1) := by decide +kernel
theorem dX0_normAt_30 : decode cX0_normAt 30 = .ok (.getfield 9, 3) := by decide +kernel
theorem dX0_normAt_33 : decode cX0_normAt 33 = .ok (.iload_n 3, 1) := by decide +kernel
theorem dX0_normAt_34 : decode cX0_normAt 34 = .ok (.iconst 1, 1) := by decide +kernel
theorem dX0_normAt_35 : decode cX0_normAt 35 = .ok (.isub, 1) := by decide +kernel
theorem dX0_normAt_36 : decode cX0_normAt 36 = .ok (.iaload, 1) := by decide +kernel
theorem dX0_normAt_37 : decode cX0_normAt 37 = .ok (.if_icmp .eq 18, 3) := by decide +kernel
theorem dX0_normAt_40 : decode cX0_normAt 40 = .ok (.iload_n 2, 1) := by decide +kernel
theorem dX0_normAt_41 : decode cX0_normAt 41 = .ok (.iload_n 1, 1) := by decide +kernel
theorem dX0_normAt_42 : decode cX0_normAt 42 = .ok (.if_icmp .ne 10, 3) := by decide +kernel
theorem dX0_normAt_45 : decode cX0_normAt 45 = .ok (.aload_n 0, 1) := by decide +kernel
theorem dX0_normAt_46 : decode cX0_normAt 46 = .ok (.getfield 9, 3) := by decide +kernel
theorem dX0_normAt_49 : decode cX0_normAt 49 = .ok (.iload_n 3, 1) := by decide +kernel
theorem dX0_normAt_50 : decode cX0_normAt 50 = .ok (.iaload, 1) := by decide +kernel
theorem dX0_normAt_51 : decode cX0_normAt 51 = .ok (.ireturn, 1) := by decide +kernel
theorem dX0_normAt_52 : decode cX0_normAt 52 = .ok (.iinc 2 1, 3) := by decide +kernel
theorem dX0_normAt_55 : decode cX0_normAt 55 = .ok (.iinc 3 1, 3) := by decide +kernel
theorem dX0_normAt_58 : decode cX0_normAt 58 = .ok (.goto (-54), 3) := by decide +kernel
theorem dX0_normAt_61 : decode cX0_normAt 61 = .ok (.bipush (-4), 2) := by decide +kernel
theorem dX0_normAt_63 : decode cX0_normAt 63 = .ok (.ireturn, 1) := by decide +kernel
theorem dX0_numerator_0 : decode cX0_numerator 0 = .ok (.iload_n 1, 1) := by decide +kernel
theorem dX0_numerator_1 : decode cX0_numerator 1 = .ok (.i2l, 1) := by decide +kernel
theorem dX0_numerator_2 : decode cX0_numerator 2 = .ok (.iload_n 1, 1) := by decide +kernel
theorem dX0_numerator_3 : decode cX0_numerator 3 = .ok (.i2l, 1) := by decide +kernel
theorem dX0_numerator_4 : decode cX0_numerator 4 = .ok (.aload_n 0, 1) := by decide +kernel
theorem dX0_numerator_5 : decode cX0_numerator 5 = .ok (.getfield 15, 3) := by decide +kernel
theorem dX0_numerator_8 : decode cX0_numerator 8 = .ok (.invokestatic 101, 3) := by decide +kernel
theorem dX0_numerator_11 : decode cX0_numerator 11 = .ok (.invokestatic 45, 3) := by decide +kernel
theorem dX0_numerator_14 : decode cX0_numerator 14 = .ok (.lreturn, 1) := by decide +kernel
theorem dX0_denominator_0 : decode cX0_denominator 0 = .ok (.aload_n 0, 1) := by decide +kernel
theorem dX0_denominator_1 : decode cX0_denominator 1 = .ok (.getfield 15, 3) := by decide +kernel
theorem dX0_denominator_4 : decode cX0_denominator 4 = .ok (.iload_n 1, 1) := by decide +kernel
theorem dX0_denominator_5 : decode cX0_denominator 5 = .ok (.i2l, 1) := by decide +kernel
theorem dX0_denominator_6 : decode cX0_denominator 6 = .ok (.aload_n 0, 1) := by decide +kernel
theorem dX0_denominator_7 : decode cX0_denominator 7 = .ok (.getfield 15, 3) := by decide +kernel
theorem dX0_denominator_10 : decode cX0_denominator 10 = .ok (.invokestatic 101, 3) := by decide +kernel
theorem dX0_denominator_13 : decode cX0_denominator 13 = .ok (.invokestatic 45, 3) := by decide +kernel
theorem dX0_denominator_16 : decode cX0_denominator 16 = .ok (.lreturn, 1) := by decide +kernel
theorem dX0_period_0 : decode cX0_period 0 = .ok (.aload_n 0, 1) := by decide +kernel
theorem dX0_period_1 : decode cX0_period 1 = .ok (.getfield 15, 3) := by decide +kernel
theorem dX0_period_4 : decode cX0_period 4 = .ok (.iload_n 1, 1) := by decide +kernel
theorem dX0_period_5 : decode cX0_period 5 = .ok (.i2l, 1) := by decide +kernel
theorem dX0_period_6 : decode cX0_period 6 = .ok (.invokestatic 45, 3) := by decide +kernel
theorem dX0_period_9 : decode cX0_period 9 = .ok (.invokestatic 104, 3) := by decide +kernel
theorem dX0_period_12 : decode cX0_period 12 = .ok (.ireturn, 1) := by decide +kernel
theorem dX1_init_0 : decode cX1_init 0 = .ok (.aload_n 0, 1) := by decide +kernel
theorem dX1_init_1 : decode cX1_init 1 = .ok (.invokespecial 3, 3) := by decide +kernel
theorem dX1_init_4 : decode cX1_init 4 = .ok (.aload_n 0, 1) := by decide +kernel
theorem dX1_init_5 : decode cX1_init 5 = .ok (.iconst 4, 1) := by decide +kernel
theorem dX1_init_6 : decode cX1_init 6 = .ok (.newarray .int, 2) := by decide +kernel
theorem dX1_init_8 : decode cX1_init 8 = .ok (.putfield 9, 3) := by decide +kernel
theorem dX1_init_11 : decode cX1_init 11 = .ok (.aload_n 0, 1) := by decide +kernel
theorem dX1_init_12 : decode cX1_init 12 = .ok (.iconst 4, 1) := by decide +kernel
theorem dX1_init_13 : decode cX1_init 13 = .ok (.newarray .int, 2) := by decide +kernel
theorem dX1_init_15 : decode cX1_init 15 = .ok (.putfield 15, 3) := by decide +kernel
theorem dX1_init_18 : decode cX1_init 18 = .ok (.aload_n 0, 1) := by decide +kernel
theorem dX1_init_19 : decode cX1_init 19 = .ok (.iconst 0, 1) := by decide +kernel
theorem dX1_init_20 : decode cX1_init 20 = .ok (.putfield 18, 3) := by decide +kernel
theorem dX1_init_23 : decode cX1_init 23 = .ok (.aload_n 0, 1) := by decide +kernel
theorem dX1_init_24 : decode cX1_init 24 = .ok (.iconst 1, 1) := by decide +kernel
theorem dX1_init_25 : decode cX1_init 25 = .ok (.putfield 22, 3) := by decide +kernel
theorem dX1_init_28 : decode cX1_init 28 = .ok (.aload_n 0, 1) := by decide +kernel
theorem dX1_init_29 : decode cX1_init 29 = .ok (.bipush 10, 2) := by decide +kernel
theorem dX1_init_31 : decode cX1_init 31 = .ok (.putfield 25, 3) := by decide +kernel
theorem dX1_init_34 : decode cX1_init 34 = .ok (.aload_n 0, 1) := by decide +kernel
theorem dX1_init_35 : decode cX1_init 35 = .ok (.sipush 500, 3) := by decide +kernel
theorem dX1_init_38 : decode cX1_init 38 = .ok (.putfield 28, 3) := by decide +kernel
theorem dX1_init_41 : decode cX1_init 41 = .ok (.return_, 1) := by decide +kernel
theorem dX1_has_0 : decode cX1_has 0 = .ok (.iload_n 1, 1) := by decide +kernel
theorem dX1_has_1 : decode cX1_has 1 = .ok (.ifCond .lt 20, 3) := by decide +kernel
theorem dX1_has_4 : decode cX1_has 4 = .ok (.iload_n 1, 1) := by decide +kernel
theorem dX1_has_5 : decode cX1_has 5 = .ok (.aload_n 0, 1) := by decide +kernel
theorem dX1_has_6 : decode cX1_has 6 = .ok (.getfield 18, 3) := by decide +kernel
theorem dX1_has_9 : decode cX1_has 9 = .ok (.if_icmp .ge 12, 3) := by decide +kernel
theorem dX1_has_12 : decode cX1_has 12 = .ok (.iload_n 1, 1) := by decide +kernel
theorem dX1_has_13 : decode cX1_has 13 = .ok (.iconst 4, 1) := by decide +kernel
theorem dX1_has_14 : decode cX1_has 14 = .ok (.if_icmp .ge 7, 3) := by decide +kernel
theorem dX1_has_17 : decode cX1_has 17 = .ok (.iconst 1, 1) := by decide +kernel
theorem dX1_has_18 : decode cX1_has 18 = .ok (.goto 4, 3) := by decide +kernel
theorem dX1_has_21 : decode cX1_has 21 = .ok (.iconst 0, 1) := by decide +kernel
theorem dX1_has_22 : decode cX1_has 22 = .ok (.ireturn, 1) := by decide +kernel
theorem dX1_hasPair_0 : decode cX1_hasPair 0 = .ok (.aload_n 0, 1) := by decide +kernel
theorem dX1_hasPair_1 : decode cX1_hasPair 1 = .ok (.iload_n 1, 1) := by decide +kernel
theorem dX1_hasPair_2 : decode cX1_hasPair 2 = .ok (.invokevirtual 31, 3) := by decide +kernel
theorem dX1_hasPair_5 : decode cX1_hasPair 5 = .ok (.ifCond .eq 20, 3) := by decide +kernel
theorem dX1_hasPair_8 : decode cX1_hasPair 8 = .ok (.aload_n 0, 1) := by decide +kernel
theorem dX1_hasPair_9 : decode cX1_hasPair 9 = .ok (.iload_n 2, 1) := by decide +kernel
theorem dX1_hasPair_10 : decode cX1_hasPair 10 = .ok (.invokevirtual 31, 3) := by decide +kernel
theorem dX1_hasPair_13 : decode cX1_hasPair 13 = .ok (.ifCond .eq 12, 3) := by decide +kernel
theorem dX1_hasPair_16 : decode cX1_hasPair 16 = .ok (.iload_n 1, 1) := by decide +kernel
theorem dX1_hasPair_17 : decode cX1_hasPair 17 = .ok (.iload_n 2, 1) := by decide +kernel
theorem dX1_hasPair_18 : decode cX1_hasPair 18 = .ok (.if_icmp .ge 7, 3) := by decide +kernel
theorem dX1_hasPair_21 : decode cX1_hasPair 21 = .ok (.iconst 1, 1) := by decide +kernel
theorem dX1_hasPair_22 : decode cX1_hasPair 22 = .ok (.goto 4, 3) := by decide +kernel
theorem dX1_hasPair_25 : decode cX1_hasPair 25 = .ok (.iconst 0, 1) := by decide +kernel
theorem dX1_hasPair_26 : decode cX1_hasPair 26 = .ok (.ireturn, 1) := by decide +kernel
theorem dX1_hasAll_0 : decode cX1_hasAll 0 = .ok (.iload_n 1, 1) := by decide +kernel
theorem dX1_hasAll_1 : decode cX1_hasAll 1 = .ok (.iconst 1, 1) := by decide +kernel
theorem dX1_hasAll_2 : decode cX1_hasAll 2 = .ok (.aload_n 0, 1) := by decide +kernel
theorem dX1_hasAll_3 : decode cX1_hasAll 3 = .ok (.getfield 18, 3) := by decide +kernel
theorem dX1_hasAll_6 : decode cX1_hasAll 6 = .ok (.ishl, 1) := by decide +kernel
theorem dX1_hasAll_7 : decode cX1_hasAll 7 = .ok (.if_icmp .ge 7, 3) := by decide +kernel
theorem dX1_hasAll_10 : decode cX1_hasAll 10 = .ok (.iconst 1, 1) := by decide +kernel
theorem dX1_hasAll_11 : decode cX1_hasAll 11 = .ok (.goto 4, 3) := by decide +kernel
theorem dX1_hasAll_14 : decode cX1_hasAll 14 = .ok (.iconst 0, 1) := by decide +kernel
theorem dX1_hasAll_15 : decode cX1_hasAll 15 = .ok (.ireturn, 1) := by decide +kernel
theorem dX1_isFactorPair_0 : decode cX1_isFactorPair 0 = .ok (.iload_n 1, 1) := by decide +kernel
theorem dX1_isFactorPair_1 : decode cX1_isFactorPair 1 = .ok (.aload_n 0, 1) := by decide +kernel
theorem dX1_isFactorPair_2 : decode cX1_isFactorPair 2 = .ok (.getfield 22, 3) := by decide +kernel
theorem dX1_isFactorPair_5 : decode cX1_isFactorPair 5 = .ok (.ineg, 1) := by decide +kernel
theorem dX1_isFactorPair_6 : decode cX1_isFactorPair 6 = .ok (.if_icmp .lt 40, 3) := by decide +kernel
theorem dX1_isFactorPair_9 : decode cX1_isFactorPair 9 = .ok (.iload_n 1, 1) := by decide +kernel
theorem dX1_isFactorPair_10 : decode cX1_isFactorPair 10 = .ok (.aload_n 0, 1) := by decide +kernel
theorem dX1_isFactorPair_11 : decode cX1_isFactorPair 11 = .ok (.getfield 22, 3) := by decide +kernel
theorem dX1_isFactorPair_14 : decode cX1_isFactorPair 14 = .ok (.if_icmp .gt 32, 3) := by decide +kernel
theorem dX1_isFactorPair_17 : decode cX1_isFactorPair 17 = .ok (.iload_n 2, 1) := by decide +kernel
theorem dX1_isFactorPair_18 : decode cX1_isFactorPair 18 = .ok (.aload_n 0, 1) := by decide +kernel
theorem dX1_isFactorPair_19 : decode cX1_isFactorPair 19 = .ok (.getfield 22, 3) := by decide +kernel
theorem dX1_isFactorPair_22 : decode cX1_isFactorPair 22 = .ok (.ineg, 1) := by decide +kernel
theorem dX1_isFactorPair_23 : decode cX1_isFactorPair 23 = .ok (.if_icmp .lt 23, 3) := by decide +kernel
theorem dX1_isFactorPair_26 : decode cX1_isFactorPair 26 = .ok (.iload_n 2, 1) := by decide +kernel
theorem dX1_isFactorPair_27 : decode cX1_isFactorPair 27 = .ok (.aload_n 0, 1) := by decide +kernel
theorem dX1_isFactorPair_28 : decode cX1_isFactorPair 28 = .ok (.getfield 22, 3) := by decide +kernel
theorem dX1_isFactorPair_31 : decode cX1_isFactorPair 31 = .ok (.if_icmp .gt 15, 3) := by decide +kernel
theorem dX1_isFactorPair_34 : decode cX1_isFactorPair 34 = .ok (.iload_n 1, 1) := by decide +kernel
theorem dX1_isFactorPair_35 : decode cX1_isFactorPair 35 = .ok (.ifCond .ne 7, 3) := by decide +kernel
theorem dX1_isFactorPair_38 : decode cX1_isFactorPair 38 = .ok (.iload_n 2, 1) := by decide +kernel
theorem dX1_isFactorPair_39 : decode cX1_isFactorPair 39 = .ok (.ifCond .eq 7, 3) := by decide +kernel
theorem dX1_isFactorPair_42 : decode cX1_isFactorPair 42 = .ok (.iconst 1, 1) := by decide +kernel
theorem dX1_isFactorPair_43 : decode cX1_isFactorPair 43 = .ok (.goto 4, 3) := by decide +kernel
theorem dX1_isFactorPair_46 : decode cX1_isFactorPair 46 = .ok (.iconst 0, 1) := by decide +kernel
theorem dX1_isFactorPair_47 : decode cX1_isFactorPair 47 = .ok (.ireturn, 1) := by decide +kernel
theorem dX1_pOf_0 : decode cX1_pOf 0 = .ok (.aload_n 0, 1) := by decide +kernel
theorem dX1_pOf_1 : decode cX1_pOf 1 = .ok (.iload_n 1, 1) := by decide +kernel
theorem dX1_pOf_2 : decode cX1_pOf 2 = .ok (.invokevirtual 31, 3) := by decide +kernel
theorem dX1_pOf_5 : decode cX1_pOf 5 = .ok (.ifCond .eq 12, 3) := by decide +kernel
theorem dX1_pOf_8 : decode cX1_pOf 8 = .ok (.aload_n 0, 1) := by decide +kernel
theorem dX1_pOf_9 : decode cX1_pOf 9 = .ok (.getfield 9, 3) := by decide +kernel
theorem dX1_pOf_12 : decode cX1_pOf 12 = .ok (.iload_n 1, 1) := by decide +kernel
theorem dX1_pOf_13 : decode cX1_pOf 13 = .ok (.iaload, 1) := by decide +kernel
theorem dX1_pOf_14 : decode cX1_pOf 14 = .ok (.goto 4, 3) := by decide +kernel
theorem dX1_pOf_17 : decode cX1_pOf 17 = .ok (.iconst 0, 1) := by decide +kernel
theorem dX1_pOf_18 : decode cX1_pOf 18 = .ok (.ireturn, 1) := by decide +kernel
theorem dX1_qOf_0 : decode cX1_qOf 0 = .ok (.aload_n 0, 1) := by decide +kernel
theorem dX1_qOf_1 : decode cX1_qOf 1 = .ok (.iload_n 1, 1) := by decide +kernel
theorem dX1_qOf_2 : decode cX1_qOf 2 = .ok (.invokevirtual 31, 3) := by decide +kernel
theorem dX1_qOf_5 : decode cX1_qOf 5 = .ok (.ifCond .eq 12, 3) := by decide +kernel
theorem dX1_qOf_8 : decode cX1_qOf 8 = .ok (.aload_n 0, 1) := by decide +kernel
theorem dX1_qOf_9 : decode cX1_qOf 9 = .ok (.getfield 15, 3) := by decide +kernel
theorem dX1_qOf_12 : decode cX1_qOf 12 = .ok (.iload_n 1, 1) := by decide +kernel
theorem dX1_qOf_13 : decode cX1_qOf 13 = .ok (.iaload, 1) := by decide +kernel
theorem dX1_qOf_14 : decode cX1_qOf 14 = .ok (.goto 4, 3) := by decide +kernel
theorem dX1_qOf_17 : decode cX1_qOf 17 = .ok (.iconst 0, 1) := by decide +kernel
theorem dX1_qOf_18 : decode cX1_qOf 18 = .ok (.ireturn, 1) := by decide +kernel
theorem dX1_areaOf_0 : decode cX1_areaOf 0 = .ok (.aload_n 0, 1) := by decide +kernel
theorem dX1_areaOf_1 : decode cX1_areaOf 1 = .ok (.iload_n 1, 1) := by decide +kernel
theorem dX1_areaOf_2 : decode cX1_areaOf 2 = .ok (.invokevirtual 35, 3) := by decide +kernel
theorem dX1_areaOf_5 : decode cX1_areaOf 5 = .ok (.aload_n 0, 1) := by decide +kernel
theorem dX1_areaOf_6 : decode cX1_areaOf 6 = .ok (.iload_n 1, 1) := by decide +kernel
theorem dX1_areaOf_7 : decode cX1_areaOf 7 = .ok (.invokevirtual 35, 3) := by decide +kernel
theorem dX1_areaOf_10 : decode cX1_areaOf 10 = .ok (.imul, 1) := by decide +kernel
theorem dX1_areaOf_11 : decode cX1_areaOf 11 = .ok (.aload_n 0, 1) := by decide +kernel
theorem dX1_areaOf_12 : decode cX1_areaOf 12 = .ok (.iload_n 1, 1) := by decide +kernel
theorem dX1_areaOf_13 : decode cX1_areaOf 13 = .ok (.invokevirtual 39, 3) := by decide +kernel
theorem dX1_areaOf_16 : decode cX1_areaOf 16 = .ok (.aload_n 0, 1) := by decide +kernel
theorem dX1_areaOf_17 : decode cX1_areaOf 17 = .ok (.iload_n 1, 1) := by decide +kernel
theorem dX1_areaOf_18 : decode cX1_areaOf 18 = .ok (.invokevirtual 39, 3) := by decide +kernel
theorem dX1_areaOf_21 : decode cX1_areaOf 21 = .ok (.imul, 1) := by decide +kernel
theorem dX1_areaOf_22 : decode cX1_areaOf 22 = .ok (.iadd, 1) := by decide +kernel
theorem dX1_areaOf_23 : decode cX1_areaOf 23 = .ok (.ireturn, 1) := by decide +kernel
theorem dX1_put_0 : decode cX1_put 0 = .ok (.aload_n 0, 1) := by decide +kernel
theorem dX1_put_1 : decode cX1_put 1 = .ok (.iload_n 1, 1) := by decide +kernel
theorem dX1_put_2 : decode cX1_put 2 = .ok (.invokevirtual 31, 3) := by decide +kernel
theorem dX1_put_5 : decode cX1_put 5 = .ok (.ifCond .eq 17, 3) := by decide +kernel
theorem dX1_put_8 : decode cX1_put 8 = .ok (.aload_n 0, 1) := by decide +kernel
theorem dX1_put_9 : decode cX1_put 9 = .ok (.getfield 9, 3) := by decide +kernel
theorem dX1_put_12 : decode cX1_put 12 = .ok (.iload_n 1, 1) := by decide +kernel
theorem dX1_put_13 : decode cX1_put 13 = .ok (.iload_n 2, 1) := by decide +kernel
theorem dX1_put_14 : decode cX1_put 14 = .ok (.iastore, 1) := by decide +kernel
theorem dX1_put_15 : decode cX1_put 15 = .ok (.aload_n 0, 1) := by decide +kernel
theorem dX1_put_16 : decode cX1_put 16 = .ok (.getfield 15, 3) := by decide +kernel
theorem dX1_put_19 : decode cX1_put 19 = .ok (.iload_n 1, 1) := by decide +kernel
theorem dX1_put_20 : decode cX1_put 20 = .ok (.iload_n 3, 1) := by decide +kernel
theorem dX1_put_21 : decode cX1_put 21 = .ok (.iastore, 1) := by decide +kernel
theorem dX1_put_22 : decode cX1_put 22 = .ok (.return_, 1) := by decide +kernel
theorem dX1_append_0 : decode cX1_append 0 = .ok (.aload_n 0, 1) := by decide +kernel
theorem dX1_append_1 : decode cX1_append 1 = .ok (.getfield 18, 3) := by decide +kernel
theorem dX1_append_4 : decode cX1_append 4 = .ok (.iconst 4, 1) := by decide +kernel
theorem dX1_append_5 : decode cX1_append 5 = .ok (.if_icmp .ge 25, 3) := by decide +kernel
theorem dX1_append_8 : decode cX1_append 8 = .ok (.aload_n 0, 1) := by decide +kernel
theorem dX1_append_9 : decode cX1_append 9 = .ok (.dup, 1) := by decide +kernel
theorem dX1_append_10 : decode cX1_append 10 = .ok (.getfield 18, 3) := by decide +kernel
theorem dX1_append_13 : decode cX1_append 13 = .ok (.iconst 1, 1) := by decide +kernel
theorem dX1_append_14 : decode cX1_append 14 = .ok (.iadd, 1) := by decide +kernel
theorem dX1_append_15 : decode cX1_append 15 = .ok (.putfield 18, 3) := by decide +kernel
theorem dX1_append_18 : decode cX1_append 18 = .ok (.aload_n 0, 1) := by decide +kernel
theorem dX1_append_19 : decode cX1_append 19 = .ok (.aload_n 0, 1) := by decide +kernel
theorem dX1_append_20 : decode cX1_append 20 = .ok (.getfield 18, 3) := by decide +kernel
theorem dX1_append_23 : decode cX1_append 23 = .ok (.iconst 1, 1) := by decide +kernel
theorem dX1_append_24 : decode cX1_append 24 = .ok (.isub, 1) := by decide +kernel
theorem dX1_append_25 : decode cX1_append 25 = .ok (.iload_n 1, 1) := by decide +kernel
theorem dX1_append_26 : decode cX1_append 26 = .ok (.iload_n 2, 1) := by decide +kernel
theorem dX1_append_27 : decode cX1_append 27 = .ok (.invokevirtual 42, 3) := by decide +kernel
theorem dX1_append_30 : decode cX1_append 30 = .ok (.return_, 1) := by decide +kernel
theorem dX1_drop_0 : decode cX1_drop 0 = .ok (.aload_n 0, 1) := by decide +kernel
theorem dX1_drop_1 : decode cX1_drop 1 = .ok (.iload_n 1, 1) := by decide +kernel
theorem dX1_drop_2 : decode cX1_drop 2 = .ok (.invokevirtual 31, 3) := by decide +kernel
theorem dX1_drop_5 : decode cX1_drop 5 = .ok (.ifCond .eq 50, 3) := by decide +kernel
theorem dX1_drop_8 : decode cX1_drop 8 = .ok (.iload_n 1, 1) := by decide +kernel
theorem dX1_drop_9 : decode cX1_drop 9 = .ok (.istore_n 2, 1) := by decide +kernel
theorem dX1_drop_10 : decode cX1_drop 10 = .ok (.iload_n 2, 1) := by decide +kernel
theorem dX1_drop_11 : decode cX1_drop 11 = .ok (.aload_n 0, 1) := by decide +kernel
theorem dX1_drop_12 : decode cX1_drop 12 = .ok (.getfield 18, 3) := by decide +kernel
theorem dX1_drop_15 : decode cX1_drop 15 = .ok (.iconst 1, 1) := by decide +kernel
theorem dX1_drop_16 : decode cX1_drop 16 = .ok (.isub, 1) := by decide +kernel
theorem dX1_drop_17 : decode cX1_drop 17 = .ok (.if_icmp .ge 28, 3) := by decide +kernel
theorem dX1_drop_20 : decode cX1_drop 20 = .ok (.aload_n 0, 1) := by decide +kernel
theorem dX1_drop_21 : decode cX1_drop 21 = .ok (.iload_n 2, 1) := by decide +kernel
theorem dX1_drop_22 : decode cX1_drop 22 = .ok (.aload_n 0, 1) := by decide +kernel
theorem dX1_drop_23 : decode cX1_drop 23 = .ok (.iload_n 2, 1) := by decide +kernel
theorem dX1_drop_24 : decode cX1_drop 24 = .ok (.iconst 1, 1) := by decide +kernel
theorem dX1_drop_25 : decode cX1_drop 25 = .ok (.iadd, 1) := by decide +kernel
theorem dX1_drop_26 : decode cX1_drop 26 = .ok (.invokevirtual 35, 3) := by decide +kernel
theorem dX1_drop_29 : decode cX1_drop 29 = .ok (.aload_n 0, 1) := by decide +kernel
theorem dX1_drop_30 : decode cX1_drop 30 = .ok (.iload_n 2, 1) := by decide +kernel
theorem dX1_drop_31 : decode cX1_drop 31 = .ok (.iconst 1, 1) := by decide +kernel
theorem dX1_drop_32 : decode cX1_drop 32 = .ok (.iadd, 1) := by decide +kernel
theorem dX1_drop_33 : decode cX1_drop 33 = .ok (.invokevirtual 39, 3) := by decide +kernel
theorem dX1_drop_36 : decode cX1_drop 36 = .ok (.invokevirtual 42, 3) := by decide +kernel
theorem dX1_drop_39 : decode cX1_drop 39 = .ok (.iinc 2 1, 3) := by decide +kernel
theorem dX1_drop_42 : decode cX1_drop 42 = .ok (.goto (-32), 3) := by decide +kernel
theorem dX1_drop_45 : decode cX1_drop 45 = .ok (.aload_n 0, 1) := by decide +kernel
theorem dX1_drop_46 : decode cX1_drop 46 = .ok (.dup, 1) := by decide +kernel
theorem dX1_drop_47 : decode cX1_drop 47 = .ok (.getfield 18, 3) := by decide +kernel
theorem dX1_drop_50 : decode cX1_drop 50 = .ok (.iconst 1, 1) := by decide +kernel
theorem dX1_drop_51 : decode cX1_drop 51 = .ok (.isub, 1) := by decide +kernel
theorem dX1_drop_52 : decode cX1_drop 52 = .ok (.putfield 18, 3) := by decide +kernel
theorem dX1_drop_55 : decode cX1_drop 55 = .ok (.return_, 1) := by decide +kernel
theorem dX1_pairNorm_0 : decode cX1_pairNorm 0 = .ok (.aload_n 0, 1) := by decide +kernel
theorem dX1_pairNorm_1 : decode cX1_pairNorm 1 = .ok (.iload_n 2, 1) := by decide +kernel
theorem dX1_pairNorm_2 : decode cX1_pairNorm 2 = .ok (.invokevirtual 35, 3) := by decide +kernel
theorem dX1_pairNorm_5 : decode cX1_pairNorm 5 = .ok (.aload_n 0, 1) := by decide +kernel
theorem dX1_pairNorm_6 : decode cX1_pairNorm 6 = .ok (.iload_n 2, 1) := by decide +kernel
theorem dX1_pairNorm_7 : decode cX1_pairNorm 7 = .ok (.invokevirtual 39, 3) := by decide +kernel
theorem dX1_pairNorm_10 : decode cX1_pairNorm 10 = .ok (.iload_n 3, 1) := by decide +kernel
theorem dX1_pairNorm_11 : decode cX1_pairNorm 11 = .ok (.iload 4, 2) := by decide +kernel
theorem dX1_pairNorm_13 : decode cX1_pairNorm 13 = .ok (.invokestatic 46, 3) := by decide +kernel
theorem dX1_pairNorm_16 : decode cX1_pairNorm 16 = .ok (.aload_n 0, 1) := by decide +kernel
theorem dX1_pairNorm_17 : decode cX1_pairNorm 17 = .ok (.iload_n 1, 1) := by decide +kernel
theorem dX1_pairNorm_18 : decode cX1_pairNorm 18 = .ok (.invokevirtual 35, 3) := by decide +kernel
theorem dX1_pairNorm_21 : decode cX1_pairNorm 21 = .ok (.aload_n 0, 1) := by decide +kernel
theorem dX1_pairNorm_22 : decode cX1_pairNorm 22 = .ok (.iload_n 1, 1) := by decide +kernel
theorem dX1_pairNorm_23 : decode cX1_pairNorm 23 = .ok (.invokevirtual 39, 3) := by decide +kernel
theorem dX1_pairNorm_26 : decode cX1_pairNorm 26 = .ok (.iload 5, 2) := by decide +kernel
theorem dX1_pairNorm_28 : decode cX1_pairNorm 28 = .ok (.iload 6, 2) := by decide +kernel
theorem dX1_pairNorm_30 : decode cX1_pairNorm 30 = .ok (.invokestatic 46, 3) := by decide +kernel
theorem dX1_pairNorm_33 : decode cX1_pairNorm 33 = .ok (.isub, 1) := by decide +kernel
theorem dX1_pairNorm_34 : decode cX1_pairNorm 34 = .ok (.istore 7, 2) := by decide +kernel
theorem dX1_pairNorm_36 : decode cX1_pairNorm 36 = .ok (.aload_n 0, 1) := by decide +kernel
theorem dX1_pairNorm_37 : decode cX1_pairNorm 37 = .ok (.iload_n 2, 1) := by decide +kernel
theorem dX1_pairNorm_38 : decode cX1_pairNorm 38 = .ok (.invokevirtual 35, 3) := by decide +kernel
theorem dX1_pairNorm_41 : decode cX1_pairNorm 41 = .ok (.aload_n 0, 1) := by decide +kernel
theorem dX1_pairNorm_42 : decode cX1_pairNorm 42 = .ok (.iload_n 2, 1) := by decide +kernel
theorem dX1_pairNorm_43 : decode cX1_pairNorm 43 = .ok (.invokevirtual 39, 3) := by decide +kernel
theorem dX1_pairNorm_46 : decode cX1_pairNorm 46 = .ok (.iload_n 3, 1) := by decide +kernel
theorem dX1_pairNorm_47 : decode cX1_pairNorm 47 = .ok (.iload 4, 2) := by decide +kernel
theorem dX1_pairNorm_49 : decode cX1_pairNorm 49 = .ok (.invokestatic 50, 3) := by decide +kernel
theorem dX1_pairNorm_52 : decode cX1_pairNorm 52 = .ok (.aload_n 0, 1) := by decide +kernel
theorem dX1_pairNorm_53 : decode cX1_pairNorm 53 = .ok (.iload_n 1, 1) := by decide +kernel
theorem dX1_pairNorm_54 : decode cX1_pairNorm 54 = .ok (.invokevirtual 35, 3) := by decide +kernel
theorem dX1_pairNorm_57 : decode cX1_pairNorm 57 = .ok (.aload_n 0, 1) := by decide +kernel
theorem dX1_pairNorm_58 : decode cX1_pairNorm 58 = .ok (.iload_n 1, 1) := by decide +kernel
theorem dX1_pairNorm_59 : decode cX1_pairNorm 59 = .ok (.invokevirtual 39, 3) := by decide +kernel
theorem dX1_pairNorm_62 : decode cX1_pairNorm 62 = .ok (.iload 5, 2) := by decide +kernel
theorem dX1_pairNorm_64 : decode cX1_pairNorm 64 = .ok (.iload 6, 2) := by decide +kernel
theorem dX1_pairNorm_66 : decode cX1_pairNorm 66 = .ok (.invokestatic 50, 3) := by decide +kernel
theorem dX1_pairNorm_69 : decode cX1_pairNorm 69 = .ok (.isub, 1) := by decide +kernel
theorem dX1_pairNorm_70 : decode cX1_pairNorm 70 = .ok (.istore 8, 2) := by decide +kernel
theorem dX1_pairNorm_72 : decode cX1_pairNorm 72 = .ok (.iload 7, 2) := by decide +kernel
theorem dX1_pairNorm_74 : decode cX1_pairNorm 74 = .ok (.iload 7, 2) := by decide +kernel
theorem dX1_pairNorm_76 : decode cX1_pairNorm 76 = .ok (.imul, 1) := by decide +kernel
theorem dX1_pairNorm_77 : decode cX1_pairNorm 77 = .ok (.iload 8, 2) := by decide +kernel
theorem dX1_pairNorm_79 : decode cX1_pairNorm 79 = .ok (.iload 8, 2) := by decide +kernel
theorem dX1_pairNorm_81 : decode cX1_pairNorm 81 = .ok (.imul, 1) := by decide +kernel
theorem dX1_pairNorm_82 : decode cX1_pairNorm 82 = .ok (.iadd, 1) := by decide +kernel
theorem dX1_pairNorm_83 : decode cX1_pairNorm 83 = .ok (.ireturn, 1) := by decide +kernel
theorem dJ9_abs_0f7a4_0 : decode cJ9_abs_0f7a4 0 = .ok (.iload_n 0, 1) := by decide +kernel
theorem dJ9_abs_0f7a4_1 : decode cJ9_abs_0f7a4 1 = .ok (.ifCond .ge 8, 3) := by decide +kernel
theorem dJ9_abs_0f7a4_4 : decode cJ9_abs_0f7a4 4 = .ok (.iload_n 0, 1) := by decide +kernel
theorem dJ9_abs_0f7a4_5 : decode cJ9_abs_0f7a4 5 = .ok (.ineg, 1) := by decide +kernel
theorem dJ9_abs_0f7a4_6 : decode cJ9_abs_0f7a4 6 = .ok (.goto 4, 3) := by decide +kernel
theorem dJ9_abs_0f7a4_9 : decode cJ9_abs_0f7a4 9 = .ok (.iload_n 0, 1) := by decide +kernel
theorem dJ9_abs_0f7a4_10 : decode cJ9_abs_0f7a4 10 = .ok (.ireturn, 1) := by decide +kernel
theorem dX2_init_0 : decode cX2_init 0 = .ok (.aload_n 0, 1) := by decide +kernel
theorem dX2_init_1 : decode cX2_init 1 = .ok (.invokespecial 1, 3) := by decide +kernel
theorem dX2_init_4 : decode cX2_init 4 = .ok (.aload_n 0, 1) := by decide +kernel
theorem dX2_init_5 : decode cX2_init 5 = .ok (.new 7, 3) := by decide +kernel
theorem dX2_init_8 : decode cX2_init 8 = .ok (.dup, 1) := by decide +kernel
theorem dX2_init_9 : decode cX2_init 9 = .ok (.invokespecial 9, 3) := by decide +kernel
theorem dX2_init_12 : decode cX2_init 12 = .ok (.putfield 10, 3) := by decide +kernel
theorem dX2_init_15 : decode cX2_init 15 = .ok (.aload_n 0, 1) := by decide +kernel
theorem dX2_init_16 : decode cX2_init 16 = .ok (.new 7, 3) := by decide +kernel
theorem dX2_init_19 : decode cX2_init 19 = .ok (.dup, 1) := by decide +kernel
theorem dX2_init_20 : decode cX2_init 20 = .ok (.invokespecial 9, 3) := by decide +kernel
theorem dX2_init_23 : decode cX2_init 23 = .ok (.putfield 16, 3) := by decide +kernel
theorem dX2_init_26 : decode cX2_init 26 = .ok (.aload_n 0, 1) := by decide +kernel
theorem dX2_init_27 : decode cX2_init 27 = .ok (.iconst 5, 1) := by decide +kernel
theorem dX2_init_28 : decode cX2_init 28 = .ok (.anewarray 7, 3) := by decide +kernel
theorem dX2_init_31 : decode cX2_init 31 = .ok (.putfield 19, 3) := by decide +kernel
theorem dX2_init_34 : decode cX2_init 34 = .ok (.aload_n 0, 1) := by decide +kernel
theorem dX2_init_35 : decode cX2_init 35 = .ok (.iconst 2, 1) := by decide +kernel
theorem dX2_init_36 : decode cX2_init 36 = .ok (.anewarray 7, 3) := by decide +kernel
theorem dX2_init_39 : decode cX2_init 39 = .ok (.putfield 23, 3) := by decide +kernel
theorem dX2_init_42 : decode cX2_init 42 = .ok (.aload_n 0, 1) := by decide +kernel
theorem dX2_init_43 : decode cX2_init 43 = .ok (.iconst 2, 1) := by decide +kernel
theorem dX2_init_44 : decode cX2_init 44 = .ok (.newarray .boolean, 2) := by decide +kernel
theorem dX2_init_46 : decode cX2_init 46 = .ok (.putfield 26, 3) := by decide +kernel
theorem dX2_init_49 : decode cX2_init 49 = .ok (.aload_n 0, 1) := by decide +kernel
theorem dX2_init_50 : decode cX2_init 50 = .ok (.new 30, 3) := by decide +kernel
theorem dX2_init_53 : decode cX2_init 53 = .ok (.dup, 1) := by decide +kernel
theorem dX2_init_54 : decode cX2_init 54 = .ok (.invokespecial 32, 3) := by decide +kernel
theorem dX2_init_57 : decode cX2_init 57 = .ok (.putfield 33, 3) := by decide +kernel
theorem dX2_init_60 : decode cX2_init 60 = .ok (.iconst 0, 1) := by decide +kernel
theorem dX2_init_61 : decode cX2_init 61 = .ok (.istore_n 1, 1) := by decide +kernel
theorem dX2_init_62 : decode cX2_init 62 = .ok (.iload_n 1, 1) := by decide +kernel
theorem dX2_init_63 : decode cX2_init 63 = .ok (.iconst 5, 1) := by decide +kernel
theorem dX2_init_64 : decode cX2_init 64 = .ok (.if_icmp .ge 22, 3) := by decide +kernel
theorem dX2_init_67 : decode cX2_init 67 = .ok (.aload_n 0, 1) := by decide +kernel
theorem dX2_init_68 : decode cX2_init 68 = .ok (.getfield 19, 3) := by decide +kernel
theorem dX2_init_71 : decode cX2_init 71 = .ok (.iload_n 1, 1) := by decide +kernel
theorem dX2_init_72 : decode cX2_init 72 = .ok (.new 7, 3) := by decide +kernel
theorem dX2_init_75 : decode cX2_init 75 = .ok (.dup, 1) := by decide +kernel
theorem dX2_init_76 : decode cX2_init 76 = .ok (.invokespecial 9, 3) := by decide +kernel
theorem dX2_init_79 : decode cX2_init 79 = .ok (.aastore, 1) := by decide +kernel
theorem dX2_init_80 : decode cX2_init 80 = .ok (.iinc 1 1, 3) := by decide +kernel
theorem dX2_init_83 : decode cX2_init 83 = .ok (.goto (-21), 3) := by decide +kernel
theorem dX2_init_86 : decode cX2_init 86 = .ok (.iconst 0, 1) := by decide +kernel
theorem dX2_init_87 : decode cX2_init 87 = .ok (.istore_n 1, 1) := by decide +kernel
theorem dX2_init_88 : decode cX2_init 88 = .ok (.iload_n 1, 1) := by decide +kernel
theorem dX2_init_89 : decode cX2_init 89 = .ok (.iconst 2, 1) := by decide +kernel
theorem dX2_init_90 : decode cX2_init 90 = .ok (.if_icmp .ge 22, 3) := by decide +kernel
theorem dX2_init_93 : decode cX2_init 93 = .ok (.aload_n 0, 1) := by decide +kernel
theorem dX2_init_94 : decode cX2_init 94 = .ok (.getfield 23, 3) := by decide +kernel
theorem dX2_init_97 : decode cX2_init 97 = .ok (.iload_n 1, 1) := by decide +kernel
theorem dX2_init_98 : decode cX2_init 98 = .ok (.new 7, 3) := by decide +kernel
theorem dX2_init_101 : decode cX2_init 101 = .ok (.dup, 1) := by decide +kernel
theorem dX2_init_102 : decode cX2_init 102 = .ok (.invokespecial 9, 3) := by decide +kernel
theorem dX2_init_105 : decode cX2_init 105 = .ok (.aastore, 1) := by decide +kernel
theorem dX2_init_106 : decode cX2_init 106 = .ok (.iinc 1 1, 3) := by decide +kernel
theorem dX2_init_109 : decode cX2_init 109 = .ok (.goto (-21), 3) := by decide +kernel
theorem dX2_init_112 : decode cX2_init 112 = .ok (.return_, 1) := by decide +kernel
theorem dX2_addPlate_0 : decode cX2_addPlate 0 = .ok (.iload_n 1, 1) := by decide +kernel
theorem dX2_addPlate_1 : decode cX2_addPlate 1 = .ok (.iload_n 2, 1) := by decide +kernel
theorem dX2_addPlate_2 : decode cX2_addPlate 2 = .ok (.invokestatic 37, 3) := by decide +kernel
theorem dX2_addPlate_5 : decode cX2_addPlate 5 = .ok (.ifCond .ne 5, 3) := by decide +kernel
theorem dX2_addPlate_8 : decode cX2_addPlate 8 = .ok (.iconst (-1), 1) := by decide +kernel
theorem dX2_addPlate_9 : decode cX2_addPlate 9 = .ok (.ireturn, 1) := by decide +kernel
theorem dX2_addPlate_10 : decode cX2_addPlate 10 = .ok (.aload_n 0, 1) := by decide +kernel
theorem dX2_addPlate_11 : decode cX2_addPlate 11 = .ok (.getfield 10, 3) := by decide +kernel
theorem dX2_addPlate_14 : decode cX2_addPlate 14 = .ok (.getfield 41, 3) := by decide +kernel
theorem dX2_addPlate_17 : decode cX2_addPlate 17 = .ok (.iconst 4, 1) := by decide +kernel
theorem dX2_addPlate_18 : decode cX2_addPlate 18 = .ok (.if_icmp .lt 6, 3) := by decide +kernel
theorem dX2_addPlate_21 : decode cX2_addPlate 21 = .ok (.bipush (-3), 2) := by decide +kernel
theorem dX2_addPlate_23 : decode cX2_addPlate 23 = .ok (.ireturn, 1) := by decide +kernel
theorem dX2_addPlate_24 : decode cX2_addPlate 24 = .ok (.aload_n 0, 1) := by decide +kernel
theorem dX2_addPlate_25 : decode cX2_addPlate 25 = .ok (.invokevirtual 45, 3) := by decide +kernel
theorem dX2_addPlate_28 : decode cX2_addPlate 28 = .ok (.aload_n 0, 1) := by decide +kernel
theorem dX2_addPlate_29 : decode cX2_addPlate 29 = .ok (.getfield 10, 3) := by decide +kernel
theorem dX2_addPlate_32 : decode cX2_addPlate 32 = .ok (.iload_n 1, 1) := by decide +kernel
theorem dX2_addPlate_33 : decode cX2_addPlate 33 = .ok (.iload_n 2, 1) := by decide +kernel
theorem dX2_addPlate_34 : decode cX2_addPlate 34 = .ok (.invokevirtual 48, 3) := by decide +kernel
theorem dX2_addPlate_37 : decode cX2_addPlate 37 = .ok (.aload_n 0, 1) := by decide +kernel
theorem dX2_addPlate_38 : decode cX2_addPlate 38 = .ok (.getfield 10, 3) := by decide +kernel
theorem dX2_addPlate_41 : decode cX2_addPlate 41 = .ok (.getfield 41, 3) := by decide +kernel
theorem dX2_addPlate_44 : decode cX2_addPlate 44 = .ok (.iconst 1, 1) := by decide +kernel
theorem dX2_addPlate_45 : decode cX2_addPlate 45 = .ok (.isub, 1) := by decide +kernel
theorem dX2_addPlate_46 : decode cX2_addPlate 46 = .ok (.ireturn, 1) := by decide +kernel
theorem dX2_setScreen_0 : decode cX2_setScreen 0 = .ok (.aload_n 0, 1) := by decide +kernel
theorem dX2_setScreen_1 : decode cX2_setScreen 1 = .ok (.getfield 10, 3) := by decide +kernel
theorem dX2_setScreen_4 : decode cX2_setScreen 4 = .ok (.iload_n 1, 1) := by decide +kernel
theorem dX2_setScreen_5 : decode cX2_setScreen 5 = .ok (.invokevirtual 52, 3) := by decide +kernel
theorem dX2_setScreen_8 : decode cX2_setScreen 8 = .ok (.ifCond .eq 11, 3) := by decide +kernel
theorem dX2_setScreen_11 : decode cX2_setScreen 11 = .ok (.iload_n 2, 1) := by decide +kernel
theorem dX2_setScreen_12 : decode cX2_setScreen 12 = .ok (.iload_n 3, 1) := by decide +kernel
theorem dX2_setScreen_13 : decode cX2_setScreen 13 = .ok (.invokestatic 37, 3) := by decide +kernel
theorem dX2_setScreen_16 : decode cX2_setScreen 16 = .ok (.ifCond .ne 5, 3) := by decide +kernel
theorem dX2_setScreen_19 : decode cX2_setScreen 19 = .ok (.iconst (-1), 1) := by decide +kernel
theorem dX2_setScreen_20 : decode cX2_setScreen 20 = .ok (.ireturn, 1) := by decide +kernel
theorem dX2_setScreen_21 : decode cX2_setScreen 21 = .ok (.aload_n 0, 1) := by decide +kernel
theorem dX2_setScreen_22 : decode cX2_setScreen 22 = .ok (.invokevirtual 45, 3) := by decide +kernel
theorem dX2_setScreen_25 : decode cX2_setScreen 25 = .ok (.aload_n 0, 1) := by decide +kernel
theorem dX2_setScreen_26 : decode cX2_setScreen 26 = .ok (.getfield 10, 3) := by decide +kernel
theorem dX2_setScreen_29 : decode cX2_setScreen 29 = .ok (.iload_n 1, 1) := by decide +kernel
theorem dX2_setScreen_30 : decode cX2_setScreen 30 = .ok (.invokevirtual 56, 3) := by decide +kernel
theorem dX2_setScreen_33 : decode cX2_setScreen 33 = .ok (.istore 4, 2) := by decide +kernel
theorem dX2_setScreen_35 : decode cX2_setScreen 35 = .ok (.aload_n 0, 1) := by decide +kernel
theorem dX2_setScreen_36 : decode cX2_setScreen 36 = .ok (.getfield 10, 3) := by decide +kernel
theorem dX2_setScreen_39 : decode cX2_setScreen 39 = .ok (.iload_n 1, 1) := by decide +kernel
theorem dX2_setScreen_40 : decode cX2_setScreen 40 = .ok (.iload_n 2, 1) := by decide +kernel
theorem dX2_setScreen_41 : decode cX2_setScreen 41 = .ok (.iload_n 3, 1) := by decide +kernel
theorem dX2_setScreen_42 : decode cX2_setScreen 42 = .ok (.invokevirtual 60, 3) := by decide +kernel
theorem dX2_setScreen_45 : decode cX2_setScreen 45 = .ok (.iload 4, 2) := by decide +kernel
theorem dX2_setScreen_47 : decode cX2_setScreen 47 = .ok (.ireturn, 1) := by decide +kernel
theorem dX2_removePlate_0 : decode cX2_removePlate 0 = .ok (.aload_n 0, 1) := by decide +kernel
theorem dX2_removePlate_1 : decode cX2_removePlate 1 = .ok (.getfield 10, 3) := by decide +kernel
theorem dX2_removePlate_4 : decode cX2_removePlate 4 = .ok (.iload_n 1, 1) := by decide +kernel
theorem dX2_removePlate_5 : decode cX2_removePlate 5 = .ok (.invokevirtual 52, 3) := by decide +kernel
theorem dX2_removePlate_8 : decode cX2_removePlate 8 = .ok (.ifCond .ne 5, 3) := by decide +kernel
theorem dX2_removePlate_11 : decode cX2_removePlate 11 = .ok (.iconst (-1), 1) := by decide +kernel
theorem dX2_removePlate_12 : decode cX2_removePlate 12 = .ok (.ireturn, 1) := by decide +kernel
theorem dX2_removePlate_13 : decode cX2_removePlate 13 = .ok (.aload_n 0, 1) := by decide +kernel
theorem dX2_removePlate_14 : decode cX2_removePlate 14 = .ok (.invokevirtual 45, 3) := by decide +kernel
theorem dX2_removePlate_17 : decode cX2_removePlate 17 = .ok (.aload_n 0, 1) := by decide +kernel
theorem dX2_removePlate_18 : decode cX2_removePlate 18 = .ok (.getfield 10, 3) := by decide +kernel
theorem dX2_removePlate_21 : decode cX2_removePlate 21 = .ok (.iload_n 1, 1) := by decide +kernel
theorem dX2_removePlate_22 : decode cX2_removePlate 22 = .ok (.invokevirtual 64, 3) := by decide +kernel
theorem dX2_removePlate_25 : decode cX2_removePlate 25 = .ok (.aload_n 0, 1) := by decide +kernel
theorem dX2_removePlate_26 : decode cX2_removePlate 26 = .ok (.getfield 10, 3) := by decide +kernel
theorem dX2_removePlate_29 : decode cX2_removePlate 29 = .ok (.getfield 41, 3) := by decide +kernel
theorem dX2_removePlate_32 : decode cX2_removePlate 32 = .ok (.ireturn, 1) := by decide +kernel
theorem dX2_plateCount_0 : decode cX2_plateCount 0 = .ok (.aload_n 0, 1) := by decide +kernel
theorem dX2_plateCount_1 : decode cX2_plateCount 1 = .ok (.getfield 10, 3) := by decide +kernel
theorem dX2_plateCount_4 : decode cX2_plateCount 4 = .ok (.getfield 41, 3) := by decide +kernel
theorem dX2_plateCount_7 : decode cX2_plateCount 7 = .ok (.ireturn, 1) := by decide +kernel
theorem dX2_cellP_0 : decode cX2_cellP 0 = .ok (.aload_n 0, 1) := by decide +kernel
theorem dX2_cellP_1 : decode cX2_cellP 1 = .ok (.getfield 10, 3) := by decide +kernel
theorem dX2_cellP_4 : decode cX2_cellP 4 = .ok (.iload_n 1, 1) := by decide +kernel
theorem dX2_cellP_5 : decode cX2_cellP 5 = .ok (.invokevirtual 52, 3) := by decide +kernel
theorem dX2_cellP_8 : decode cX2_cellP 8 = .ok (.ifCond .eq 14, 3) := by decide +kernel
theorem dX2_cellP_11 : decode cX2_cellP 11 = .ok (.aload_n 0, 1) := by decide +kernel
theorem dX2_cellP_12 : decode cX2_cellP 12 = .ok (.getfield 10, 3) := by decide +kernel
theorem dX2_cellP_15 : decode cX2_cellP 15 = .ok (.iload_n 1, 1) := by decide +kernel
theorem dX2_cellP_16 : decode cX2_cellP 16 = .ok (.invokevirtual 68, 3) := by decide +kernel
theorem dX2_cellP_19 : decode cX2_cellP 19 = .ok (.goto 4, 3) := by decide +kernel
theorem dX2_cellP_22 : decode cX2_cellP 22 = .ok (.iconst (-1), 1) := by decide +kernel
theorem dX2_cellP_23 : decode cX2_cellP 23 = .ok (.ireturn, 1) := by decide +kernel
theorem dX2_cellQ_0 : decode cX2_cellQ 0 = .ok (.aload_n 0, 1) := by decide +kernel
theorem dX2_cellQ_1 : decode cX2_cellQ 1 = .ok (.getfield 10, 3) := by decide +kernel
theorem dX2_cellQ_4 : decode cX2_cellQ 4 = .ok (.iload_n 1, 1) := by decide +kernel
theorem dX2_cellQ_5 : decode cX2_cellQ 5 = .ok (.invokevirtual 52, 3) := by decide +kernel
theorem dX2_cellQ_8 : decode cX2_cellQ 8 = .ok (.ifCond .eq 14, 3) := by decide +kernel
theorem dX2_cellQ_11 : decode cX2_cellQ 11 = .ok (.aload_n 0, 1) := by decide +kernel
theorem dX2_cellQ_12 : decode cX2_cellQ 12 = .ok (.getfield 10, 3) := by decide +kernel
theorem dX2_cellQ_15 : decode cX2_cellQ 15 = .ok (.iload_n 1, 1) := by decide +kernel
theorem dX2_cellQ_16 : decode cX2_cellQ 16 = .ok (.invokevirtual 71, 3) := by decide +kernel
theorem dX2_cellQ_19 : decode cX2_cellQ 19 = .ok (.goto 4, 3) := by decide +kernel
theorem dX2_cellQ_22 : decode cX2_cellQ 22 = .ok (.iconst (-1), 1) := by decide +kernel
theorem dX2_cellQ_23 : decode cX2_cellQ 23 = .ok (.ireturn, 1) := by decide +kernel
theorem dX2_cellArea_0 : decode cX2_cellArea 0 = .ok (.aload_n 0, 1) := by decide +kernel
theorem dX2_cellArea_1 : decode cX2_cellArea 1 = .ok (.getfield 10, 3) := by decide +kernel
theorem dX2_cellArea_4 : decode cX2_cellArea 4 = .ok (.iload_n 1, 1) := by decide +kernel
theorem dX2_cellArea_5 : decode cX2_cellArea 5 = .ok (.invokevirtual 52, 3) := by decide +kernel
theorem dX2_cellArea_8 : decode cX2_cellArea 8 = .ok (.ifCond .eq 14, 3) := by decide +kernel
theorem dX2_cellArea_11 : decode cX2_cellArea 11 = .ok (.aload_n 0, 1) := by decide +kernel
theorem dX2_cellArea_12 : decode cX2_cellArea 12 = .ok (.getfield 10, 3) := by decide +kernel
theorem dX2_cellArea_15 : decode cX2_cellArea 15 = .ok (.iload_n 1, 1) := by decide +kernel
theorem dX2_cellArea_16 : decode cX2_cellArea 16 = .ok (.invokevirtual 56, 3) := by decide +kernel
theorem dX2_cellArea_19 : decode cX2_cellArea 19 = .ok (.goto 4, 3) := by decide +kernel
theorem dX2_cellArea_22 : decode cX2_cellArea 22 = .ok (.iconst (-1), 1) := by decide +kernel
theorem dX2_cellArea_23 : decode cX2_cellArea 23 = .ok (.ireturn, 1) := by decide +kernel
theorem dX2_tile_0 : decode cX2_tile 0 = .ok (.aload_n 0, 1) := by decide +kernel
theorem dX2_tile_1 : decode cX2_tile 1 = .ok (.getfield 10, 3) := by decide +kernel
theorem dX2_tile_4 : decode cX2_tile 4 = .ok (.iload_n 1, 1) := by decide +kernel
theorem dX2_tile_5 : decode cX2_tile 5 = .ok (.invokevirtual 52, 3) := by decide +kernel
theorem dX2_tile_8 : decode cX2_tile 8 = .ok (.ifCond .eq 12, 3) := by decide +kernel
theorem dX2_tile_11 : decode cX2_tile 11 = .ok (.aload_n 0, 1) := by decide +kernel
theorem dX2_tile_12 : decode cX2_tile 12 = .ok (.iload_n 1, 1) := by decide +kernel
theorem dX2_tile_13 : decode cX2_tile 13 = .ok (.invokevirtual 74, 3) := by decide +kernel
theorem dX2_tile_16 : decode cX2_tile 16 = .ok (.l2i, 1) := by decide +kernel
theorem dX2_tile_17 : decode cX2_tile 17 = .ok (.goto 4, 3) := by decide +kernel
theorem dX2_tile_20 : decode cX2_tile 20 = .ok (.iconst (-1), 1) := by decide +kernel
theorem dX2_tile_21 : decode cX2_tile 21 = .ok (.ireturn, 1) := by decide +kernel
theorem dX2_commonTile_0 : decode cX2_commonTile 0 = .ok (.lconst 1, 1) := by decide +kernel
theorem dX2_commonTile_1 : decode cX2_commonTile 1 = .ok (.lstore_n 1, 1) := by decide +kernel
theorem dX2_commonTile_2 : decode cX2_commonTile 2 = .ok (.iconst 0, 1) := by decide +kernel
theorem dX2_commonTile_3 : decode cX2_commonTile 3 = .ok (.istore_n 3, 1) := by decide +kernel
theorem dX2_commonTile_4 : decode cX2_commonTile 4 = .ok (.iload_n 3, 1) := by decide +kernel
theorem dX2_commonTile_5 : decode cX2_commonTile 5 = .ok (.aload_n 0, 1) := by decide +kernel
theorem dX2_commonTile_6 : decode cX2_commonTile 6 = .ok (.getfield 10, 3) := by decide +kernel
theorem dX2_commonTile_9 : decode cX2_commonTile 9 = .ok (.getfield 41, 3) := by decide +kernel
theorem dX2_commonTile_12 : decode cX2_commonTile 12 = .ok (.if_icmp .ge 30, 3) := by decide +kernel
theorem dX2_commonTile_15 : decode cX2_commonTile 15 = .ok (.aload_n 0, 1) := by decide +kernel
theorem dX2_commonTile_16 : decode cX2_commonTile 16 = .ok (.iload_n 3, 1) := by decide +kernel
theorem dX2_commonTile_17 : decode cX2_commonTile 17 = .ok (.invokevirtual 74, 3) := by decide +kernel
theorem dX2_commonTile_20 : decode cX2_commonTile 20 = .ok (.lstore 4, 2) := by decide +kernel
theorem dX2_commonTile_22 : decode cX2_commonTile 22 = .ok (.lload_n 1, 1) := by decide +kernel
theorem dX2_commonTile_23 : decode cX2_commonTile 23 = .ok (.lload_n 1, 1) := by decide +kernel
theorem dX2_commonTile_24 : decode cX2_commonTile 24 = .ok (.lload 4, 2) := by decide +kernel
theorem dX2_commonTile_26 : decode cX2_commonTile 26 = .ok (.invokestatic 78, 3) := by decide +kernel
theorem dX2_commonTile_29 : decode cX2_commonTile 29 = .ok (.invokestatic 82, 3) := by decide +kernel
theorem dX2_commonTile_32 : decode cX2_commonTile 32 = .ok (.lload 4, 2) := by decide +kernel
theorem dX2_commonTile_34 : decode cX2_commonTile 34 = .ok (.lmul, 1) := by decide +kernel
theorem dX2_commonTile_35 : decode cX2_commonTile 35 = .ok (.lstore_n 1, 1) := by decide +kernel
theorem dX2_commonTile_36 : decode cX2_commonTile 36 = .ok (.iinc 3 1, 3) := by decide +kernel
theorem dX2_commonTile_39 : decode cX2_commonTile 39 = .ok (.goto (-35), 3) := by decide +kernel
theorem dX2_commonTile_42 : decode cX2_commonTile 42 = .ok (.lload_n 1, 1) := by decide +kernel
theorem dX2_commonTile_43 : decode cX2_commonTile 43 = .ok (.lreturn, 1) := by decide +kernel
theorem dX2_byAngle_0 : decode cX2_byAngle 0 = .ok (.iload_n 1, 1) := by decide +kernel
theorem dX2_byAngle_1 : decode cX2_byAngle 1 = .ok (.ifCond .ge 5, 3) := by decide +kernel
theorem dX2_byAngle_4 : decode cX2_byAngle 4 = .ok (.iconst (-1), 1) := by decide +kernel
theorem dX2_byAngle_5 : decode cX2_byAngle 5 = .ok (.ireturn, 1) := by decide +kernel
theorem dX2_byAngle_6 : decode cX2_byAngle 6 = .ok (.iconst 0, 1) := by decide +kernel
theorem dX2_byAngle_7 : decode cX2_byAngle 7 = .ok (.istore_n 2, 1) := by decide +kernel
theorem dX2_byAngle_8 : decode cX2_byAngle 8 = .ok (.iload_n 2, 1) := by decide +kernel
theorem dX2_byAngle_9 : decode cX2_byAngle 9 = .ok (.aload_n 0, 1) := by decide +kernel
theorem dX2_byAngle_10 : decode cX2_byAngle 10 = .ok (.getfield 10, 3) := by decide +kernel
theorem dX2_byAngle_13 : decode cX2_byAngle 13 = .ok (.getfield 41, 3) := by decide +kernel
theorem dX2_byAngle_16 : decode cX2_byAngle 16 = .ok (.if_icmp .ge 20, 3) := by decide +kernel
theorem dX2_byAngle_19 : decode cX2_byAngle 19 = .ok (.aload_n 0, 1) := by decide +kernel
theorem dX2_byAngle_20 : decode cX2_byAngle 20 = .ok (.iload_n 2, 1) := by decide +kernel
theorem dX2_byAngle_21 : decode cX2_byAngle 21 = .ok (.invokevirtual 85, 3) := by decide +kernel
theorem dX2_byAngle_24 : decode cX2_byAngle 24 = .ok (.iload_n 1, 1) := by decide +kernel
theorem dX2_byAngle_25 : decode cX2_byAngle 25 = .ok (.if_icmp .ne 5, 3) := by decide +kernel
theorem dX2_byAngle_28 : decode cX2_byAngle 28 = .ok (.iload_n 2, 1) := by decide +kernel
theorem dX2_byAngle_29 : decode cX2_byAngle 29 = .ok (.ireturn, 1) := by decide +kernel
theorem dX2_byAngle_30 : decode cX2_byAngle 30 = .ok (.iinc 2 1, 3) := by decide +kernel
theorem dX2_byAngle_33 : decode cX2_byAngle 33 = .ok (.goto (-25), 3) := by decide +kernel
theorem dX2_byAngle_36 : decode cX2_byAngle 36 = .ok (.bipush (-4), 2) := by decide +kernel
theorem dX2_byAngle_38 : decode cX2_byAngle 38 = .ok (.ireturn, 1) := by decide +kernel
theorem dX2_tileOf_0 : decode cX2_tileOf 0 = .ok (.aload_n 0, 1) := by decide +kernel
theorem dX2_tileOf_1 : decode cX2_tileOf 1 = .ok (.getfield 10, 3) := by decide +kernel
theorem dX2_tileOf_4 : decode cX2_tileOf 4 = .ok (.iload_n 1, 1) := by decide +kernel
theorem dX2_tileOf_5 : decode cX2_tileOf 5 = .ok (.invokevirtual 56, 3) := by decide +kernel
theorem dX2_tileOf_8 : decode cX2_tileOf 8 = .ok (.i2l, 1) := by decide +kernel
theorem dX2_tileOf_9 : decode cX2_tileOf 9 = .ok (.aload_n 0, 1) := by decide +kernel
theorem dX2_tileOf_10 : decode cX2_tileOf 10 = .ok (.getfield 10, 3) := by decide +kernel
theorem dX2_tileOf_13 : decode cX2_tileOf 13 = .ok (.iload_n 1, 1) := by decide +kernel
theorem dX2_tileOf_14 : decode cX2_tileOf 14 = .ok (.invokevirtual 68, 3) := by decide +kernel
theorem dX2_tileOf_17 : decode cX2_tileOf 17 = .ok (.i2l, 1) := by decide +kernel
theorem dX2_tileOf_18 : decode cX2_tileOf 18 = .ok (.aload_n 0, 1) := by decide +kernel
theorem dX2_tileOf_19 : decode cX2_tileOf 19 = .ok (.getfield 10, 3) := by decide +kernel
theorem dX2_tileOf_22 : decode cX2_tileOf 22 = .ok (.iload_n 1, 1) := by decide +kernel
theorem dX2_tileOf_23 : decode cX2_tileOf 23 = .ok (.invokevirtual 71, 3) := by decide +kernel
theorem dX2_tileOf_26 : decode cX2_tileOf 26 = .ok (.i2l, 1) := by decide +kernel
theorem dX2_tileOf_27 : decode cX2_tileOf 27 = .ok (.invokestatic 78, 3) := by decide +kernel
theorem dX2_tileOf_30 : decode cX2_tileOf 30 = .ok (.invokestatic 82, 3) := by decide +kernel
theorem dX2_tileOf_33 : decode cX2_tileOf 33 = .ok (.lreturn, 1) := by decide +kernel
theorem dX2_platesBefore_0 : decode cX2_platesBefore 0 = .ok (.iconst 0, 1) := by decide +kernel
theorem dX2_platesBefore_1 : decode cX2_platesBefore 1 = .ok (.istore_n 2, 1) := by decide +kernel
theorem dX2_platesBefore_2 : decode cX2_platesBefore 2 = .ok (.iconst 0, 1) := by decide +kernel
theorem dX2_platesBefore_3 : decode cX2_platesBefore 3 = .ok (.istore_n 3, 1) := by decide +kernel
theorem dX2_platesBefore_4 : decode cX2_platesBefore 4 = .ok (.iload_n 3, 1) := by decide +kernel
theorem dX2_platesBefore_5 : decode cX2_platesBefore 5 = .ok (.aload_n 0, 1) := by decide +kernel
theorem dX2_platesBefore_6 : decode cX2_platesBefore 6 = .ok (.getfield 10, 3) := by decide +kernel
theorem dX2_platesBefore_9 : decode cX2_platesBefore 9 = .ok (.getfield 41, 3) := by decide +kernel
theorem dX2_platesBefore_12 : decode cX2_platesBefore 12 = .ok (.if_icmp .ge 69, 3) := by decide +kernel
theorem dX2_platesBefore_15 : decode cX2_platesBefore 15 = .ok (.aload_n 0, 1) := by decide +kernel
theorem dX2_platesBefore_16 : decode cX2_platesBefore 16 = .ok (.getfield 10, 3) := by decide +kernel
theorem dX2_platesBefore_19 : decode cX2_platesBefore 19 = .ok (.iload_n 3, 1) := by decide +kernel
theorem dX2_platesBefore_20 : decode cX2_platesBefore 20 = .ok (.invokevirtual 71, 3) := by decide +kernel
theorem dX2_platesBefore_23 : decode cX2_platesBefore 23 = .ok (.aload_n 0, 1) := by decide +kernel
theorem dX2_platesBefore_24 : decode cX2_platesBefore 24 = .ok (.getfield 10, 3) := by decide +kernel
theorem dX2_platesBefore_27 : decode cX2_platesBefore 27 = .ok (.iload_n 1, 1) := by decide +kernel
theorem dX2_platesBefore_28 : decode cX2_platesBefore 28 = .ok (.invokevirtual 68, 3) := by decide +kernel
theorem dX2_platesBefore_31 : decode cX2_platesBefore 31 = .ok (.imul, 1) := by decide +kernel
theorem dX2_platesBefore_32 : decode cX2_platesBefore 32 = .ok (.istore 4, 2) := by decide +kernel
theorem dX2_platesBefore_34 : decode cX2_platesBefore 34 = .ok (.aload_n 0, 1) := by decide +kernel
theorem dX2_platesBefore_35 : decode cX2_platesBefore 35 = .ok (.getfield 10, 3) := by decide +kernel
theorem dX2_platesBefore_38 : decode cX2_platesBefore 38 = .ok (.iload_n 1, 1) := by decide +kernel
theorem dX2_platesBefore_39 : decode cX2_platesBefore 39 = .ok (.invokevirtual 71, 3) := by decide +kernel
theorem dX2_platesBefore_42 : decode cX2_platesBefore 42 = .ok (.aload_n 0, 1) := by decide +kernel
theorem dX2_platesBefore_43 : decode cX2_platesBefore 43 = .ok (.getfield 10, 3) := by decide +kernel
theorem dX2_platesBefore_46 : decode cX2_platesBefore 46 = .ok (.iload_n 3, 1) := by decide +kernel
theorem dX2_platesBefore_47 : decode cX2_platesBefore 47 = .ok (.invokevirtual 68, 3) := by decide +kernel
theorem dX2_platesBefore_50 : decode cX2_platesBefore 50 = .ok (.imul, 1) := by decide +kernel
theorem dX2_platesBefore_51 : decode cX2_platesBefore 51 = .ok (.istore 5, 2) := by decide +kernel
theorem dX2_platesBefore_53 : decode cX2_platesBefore 53 = .ok (.iload 4, 2) := by decide +kernel
theorem dX2_platesBefore_55 : decode cX2_platesBefore 55 = .ok (.iload 5, 2) := by decide +kernel
theorem dX2_platesBefore_57 : decode cX2_platesBefore 57 = .ok (.if_icmp .lt 15, 3) := by decide +kernel
theorem dX2_platesBefore_60 : decode cX2_platesBefore 60 = .ok (.iload 4, 2) := by decide +kernel
theorem dX2_platesBefore_62 : decode cX2_platesBefore 62 = .ok (.iload 5, 2) := by decide +kernel
theorem dX2_platesBefore_64 : decode cX2_platesBefore 64 = .ok (.if_icmp .ne 11, 3) := by decide +kernel
theorem dX2_platesBefore_67 : decode cX2_platesBefore 67 = .ok (.iload_n 3, 1) := by decide +kernel
theorem dX2_platesBefore_68 : decode cX2_platesBefore 68 = .ok (.iload_n 1, 1) := by decide +kernel
theorem dX2_platesBefore_69 : decode cX2_platesBefore 69 = .ok (.if_icmp .ge 6, 3) := by decide +kernel
theorem dX2_platesBefore_72 : decode cX2_platesBefore 72 = .ok (.iinc 2 1, 3) := by decide +kernel
theorem dX2_platesBefore_75 : decode cX2_platesBefore 75 = .ok (.iinc 3 1, 3) := by decide +kernel
theorem dX2_platesBefore_78 : decode cX2_platesBefore 78 = .ok (.goto (-74), 3) := by decide +kernel
theorem dX2_platesBefore_81 : decode cX2_platesBefore 81 = .ok (.iload_n 2, 1) := by decide +kernel
theorem dX2_platesBefore_82 : decode cX2_platesBefore 82 = .ok (.ireturn, 1) := by decide +kernel
theorem dX2_isScreen_0 : decode cX2_isScreen 0 = .ok (.iload_n 0, 1) := by decide +kernel
theorem dX2_isScreen_1 : decode cX2_isScreen 1 = .ok (.iconst 1, 1) := by decide +kernel
theorem dX2_isScreen_2 : decode cX2_isScreen 2 = .ok (.if_icmp .lt 23, 3) := by decide +kernel
theorem dX2_isScreen_5 : decode cX2_isScreen 5 = .ok (.iload_n 0, 1) := by decide +kernel
theorem dX2_isScreen_6 : decode cX2_isScreen 6 = .ok (.bipush 20, 2) := by decide +kernel
theorem dX2_isScreen_8 : decode cX2_isScreen 8 = .ok (.if_icmp .gt 17, 3) := by decide +kernel
theorem dX2_isScreen_11 : decode cX2_isScreen 11 = .ok (.iload_n 1, 1) := by decide +kernel
theorem dX2_isScreen_12 : decode cX2_isScreen 12 = .ok (.ifCond .lt 13, 3) := by decide +kernel
theorem dX2_isScreen_15 : decode cX2_isScreen 15 = .ok (.iload_n 1, 1) := by decide +kernel
theorem dX2_isScreen_16 : decode cX2_isScreen 16 = .ok (.bipush 20, 2) := by decide +kernel
theorem dX2_isScreen_18 : decode cX2_isScreen 18 = .ok (.if_icmp .gt 7, 3) := by decide +kernel
theorem dX2_isScreen_21 : decode cX2_isScreen 21 = .ok (.iconst 1, 1) := by decide +kernel
theorem dX2_isScreen_22 : decode cX2_isScreen 22 = .ok (.goto 4, 3) := by decide +kernel
theorem dX2_isScreen_25 : decode cX2_isScreen 25 = .ok (.iconst 0, 1) := by decide +kernel
theorem dX2_isScreen_26 : decode cX2_isScreen 26 = .ok (.ireturn, 1) := by decide +kernel
theorem dX2_setOrder_0 : decode cX2_setOrder 0 = .ok (.iload_n 1, 1) := by decide +kernel
theorem dX2_setOrder_1 : decode cX2_setOrder 1 = .ok (.iconst 1, 1) := by decide +kernel
theorem dX2_setOrder_2 : decode cX2_setOrder 2 = .ok (.if_icmp .lt 8, 3) := by decide +kernel
theorem dX2_setOrder_5 : decode cX2_setOrder 5 = .ok (.iload_n 1, 1) := by decide +kernel
theorem dX2_setOrder_6 : decode cX2_setOrder 6 = .ok (.iconst 2, 1) := by decide +kernel
theorem dX2_setOrder_7 : decode cX2_setOrder 7 = .ok (.if_icmp .le 5, 3) := by decide +kernel
theorem dX2_setOrder_10 : decode cX2_setOrder 10 = .ok (.iconst (-1), 1) := by decide +kernel
theorem dX2_setOrder_11 : decode cX2_setOrder 11 = .ok (.ireturn, 1) := by decide +kernel
theorem dX2_setOrder_12 : decode cX2_setOrder 12 = .ok (.aload_n 0, 1) := by decide +kernel
theorem dX2_setOrder_13 : decode cX2_setOrder 13 = .ok (.invokevirtual 45, 3) := by decide +kernel
theorem dX2_setOrder_16 : decode cX2_setOrder 16 = .ok (.aload_n 0, 1) := by decide +kernel
theorem dX2_setOrder_17 : decode cX2_setOrder 17 = .ok (.getfield 10, 3) := by decide +kernel
theorem dX2_setOrder_20 : decode cX2_setOrder 20 = .ok (.getfield 88, 3) := by decide +kernel
theorem dX2_setOrder_23 : decode cX2_setOrder 23 = .ok (.istore_n 2, 1) := by decide +kernel
theorem dX2_setOrder_24 : decode cX2_setOrder 24 = .ok (.aload_n 0, 1) := by decide +kernel
theorem dX2_setOrder_25 : decode cX2_setOrder 25 = .ok (.getfield 10, 3) := by decide +kernel
theorem dX2_setOrder_28 : decode cX2_setOrder 28 = .ok (.iload_n 1, 1) := by decide +kernel
theorem dX2_setOrder_29 : decode cX2_setOrder 29 = .ok (.putfield 88, 3) := by decide +kernel
theorem dX2_setOrder_32 : decode cX2_setOrder 32 = .ok (.iload_n 2, 1) := by decide +kernel
theorem dX2_setOrder_33 : decode cX2_setOrder 33 = .ok (.ireturn, 1) := by decide +kernel
theorem dX2_setLimits_0 : decode cX2_setLimits 0 = .ok (.iload_n 1, 1) := by decide +kernel
theorem dX2_setLimits_1 : decode cX2_setLimits 1 = .ok (.iconst 1, 1) := by decide +kernel
theorem dX2_setLimits_2 : decode cX2_setLimits 2 = .ok (.if_icmp .lt 22, 3) := by decide +kernel
theorem dX2_setLimits_5 : decode cX2_setLimits 5 = .ok (.iload_n 1, 1) := by decide +kernel
theorem dX2_setLimits_6 : decode cX2_setLimits 6 = .ok (.sipush 1000, 3) := by decide +kernel
theorem dX2_setLimits_9 : decode cX2_setLimits 9 = .ok (.if_icmp .gt 15, 3) := by decide +kernel
theorem dX2_setLimits_12 : decode cX2_setLimits 12 = .ok (.iload_n 2, 1) := by decide +kernel
theorem dX2_setLimits_13 : decode cX2_setLimits 13 = .ok (.iload_n 1, 1) := by decide +kernel
theorem dX2_setLimits_14 : decode cX2_setLimits 14 = .ok (.if_icmp .le 10, 3) := by decide +kernel
theorem dX2_setLimits_17 : decode cX2_setLimits 17 = .ok (.iload_n 2, 1) := by decide +kernel
theorem dX2_setLimits_18 : decode cX2_setLimits 18 = .ok (.sipush 10000, 3) := by decide +kernel
theorem dX2_setLimits_21 : decode cX2_setLimits 21 = .ok (.if_icmp .le 5, 3) := by decide +kernel
theorem dX2_setLimits_24 : decode cX2_setLimits 24 = .ok (.iconst (-1), 1) := by decide +kernel
theorem dX2_setLimits_25 : decode cX2_setLimits 25 = .ok (.ireturn, 1) := by decide +kernel
theorem dX2_setLimits_26 : decode cX2_setLimits 26 = .ok (.aload_n 0, 1) := by decide +kernel
theorem dX2_setLimits_27 : decode cX2_setLimits 27 = .ok (.invokevirtual 45, 3) := by decide +kernel
theorem dX2_setLimits_30 : decode cX2_setLimits 30 = .ok (.aload_n 0, 1) := by decide +kernel
theorem dX2_setLimits_31 : decode cX2_setLimits 31 = .ok (.getfield 10, 3) := by decide +kernel
theorem dX2_setLimits_34 : decode cX2_setLimits 34 = .ok (.getfield 91, 3) := by decide +kernel
theorem dX2_setLimits_37 : decode cX2_setLimits 37 = .ok (.istore_n 3, 1) := by decide +kernel
theorem dX2_setLimits_38 : decode cX2_setLimits 38 = .ok (.aload_n 0, 1) := by decide +kernel
theorem dX2_setLimits_39 : decode cX2_setLimits 39 = .ok (.getfield 10, 3) := by decide +kernel
theorem dX2_setLimits_42 : decode cX2_setLimits 42 = .ok (.iload_n 1, 1) := by decide +kernel
theorem dX2_setLimits_43 : decode cX2_setLimits 43 = .ok (.putfield 91, 3) := by decide +kernel
theorem dX2_setLimits_46 : decode cX2_setLimits 46 = .ok (.aload_n 0, 1) := by decide +kernel
theorem dX2_setLimits_47 : decode cX2_setLimits 47 = .ok (.getfield 10, 3) := by decide +kernel
theorem dX2_setLimits_50 : decode cX2_setLimits 50 = .ok (.iload_n 2, 1) := by decide +kernel
theorem dX2_setLimits_51 : decode cX2_setLimits 51 = .ok (.putfield 94, 3) := by decide +kernel
theorem dX2_setLimits_54 : decode cX2_setLimits 54 = .ok (.iload_n 3, 1) := by decide +kernel
theorem dX2_setLimits_55 : decode cX2_setLimits 55 = .ok (.ireturn, 1) := by decide +kernel
theorem dX2_longLimit_0 : decode cX2_longLimit 0 = .ok (.aload_n 0, 1) := by decide +kernel
theorem dX2_longLimit_1 : decode cX2_longLimit 1 = .ok (.getfield 10, 3) := by decide +kernel
theorem dX2_longLimit_4 : decode cX2_longLimit 4 = .ok (.getfield 94, 3) := by decide +kernel
theorem dX2_longLimit_7 : decode cX2_longLimit 7 = .ok (.ireturn, 1) := by decide +kernel
theorem dX2_squareNumerator_0 : decode cX2_squareNumerator 0 = .ok (.aload_n 0, 1) := by decide +kernel
theorem dX2_squareNumerator_1 : decode cX2_squareNumerator 1 = .ok (.iload_n 1, 1) := by decide +kernel
theorem dX2_squareNumerator_2 : decode cX2_squareNumerator 2 = .ok (.iload_n 2, 1) := by decide +kernel
theorem dX2_squareNumerator_3 : decode cX2_squareNumerator 3 = .ok (.iload_n 3, 1) := by decide +kernel
theorem dX2_squareNumerator_4 : decode cX2_squareNumerator 4 = .ok (.iload 4, 2) := by decide +kernel
theorem dX2_squareNumerator_6 : decode cX2_squareNumerator 6 = .ok (.iload 5, 2) := by decide +kernel
theorem dX2_squareNumerator_8 : decode cX2_squareNumerator 8 = .ok (.iload 6, 2) := by decide +kernel
theorem dX2_squareNumerator_10 : decode cX2_squareNumerator 10 = .ok (.invokevirtual 97, 3) := by decide +kernel
theorem dX2_squareNumerator_13 : decode cX2_squareNumerator 13 = .ok (.ifCond .ne 7, 3) := by decide +kernel
theorem dX2_squareNumerator_16 : decode cX2_squareNumerator 16 = .ok (.ldc2_w 101, 3) := by decide +kernel
theorem dX2_squareNumerator_19 : decode cX2_squareNumerator 19 = .ok (.lreturn, 1) := by decide +kernel
theorem dX2_squareNumerator_20 : decode cX2_squareNumerator 20 = .ok (.aload_n 0, 1) := by decide +kernel
theorem dX2_squareNumerator_21 : decode cX2_squareNumerator 21 = .ok (.getfield 33, 3) := by decide +kernel
theorem dX2_squareNumerator_24 : decode cX2_squareNumerator 24 = .ok (.aload_n 0, 1) := by decide +kernel
theorem dX2_squareNumerator_25 : decode cX2_squareNumerator 25 = .ok (.getfield 10, 3) := by decide +kernel
theorem dX2_squareNumerator_28 : decode cX2_squareNumerator 28 = .ok (.iload_n 1, 1) := by decide +kernel
theorem dX2_squareNumerator_29 : decode cX2_squareNumerator 29 = .ok (.iload_n 2, 1) := by decide +kernel
theorem dX2_squareNumerator_30 : decode cX2_squareNumerator 30 = .ok (.invokevirtual 103, 3) := by decide +kernel
theorem dX2_squareNumerator_33 : decode cX2_squareNumerator 33 = .ok (.aload_n 0, 1) := by decide +kernel
theorem dX2_squareNumerator_34 : decode cX2_squareNumerator 34 = .ok (.getfield 33, 3) := by decide +kernel
theorem dX2_squareNumerator_37 : decode cX2_squareNumerator 37 = .ok (.aload_n 0, 1) := by decide +kernel
theorem dX2_squareNumerator_38 : decode cX2_squareNumerator 38 = .ok (.getfield 10, 3) := by decide +kernel
theorem dX2_squareNumerator_41 : decode cX2_squareNumerator 41 = .ok (.iload_n 1, 1) := by decide +kernel
theorem dX2_squareNumerator_42 : decode cX2_squareNumerator 42 = .ok (.iload_n 2, 1) := by decide +kernel
theorem dX2_squareNumerator_43 : decode cX2_squareNumerator 43 = .ok (.iload_n 3, 1) := by decide +kernel
theorem dX2_squareNumerator_44 : decode cX2_squareNumerator 44 = .ok (.iload 4, 2) := by decide +kernel
theorem dX2_squareNumerator_46 : decode cX2_squareNumerator 46 = .ok (.iload 5, 2) := by decide +kernel
theorem dX2_squareNumerator_48 : decode cX2_squareNumerator 48 = .ok (.iload 6, 2) := by decide +kernel
theorem dX2_squareNumerator_50 : decode cX2_squareNumerator 50 = .ok (.invokevirtual 107, 3) := by decide +kernel
theorem dX2_squareNumerator_53 : decode cX2_squareNumerator 53 = .ok (.invokevirtual 111, 3) := by decide +kernel
theorem dX2_squareNumerator_56 : decode cX2_squareNumerator 56 = .ok (.lreturn, 1) := by decide +kernel
theorem dX2_squareDenominator_0 : decode cX2_squareDenominator 0 = .ok (.aload_n 0, 1) := by decide +kernel
theorem dX2_squareDenominator_1 : decode cX2_squareDenominator 1 = .ok (.iload_n 1, 1) := by decide +kernel
theorem dX2_squareDenominator_2 : decode cX2_squareDenominator 2 = .ok (.iload_n 2, 1) := by decide +kernel
theorem dX2_squareDenominator_3 : decode cX2_squareDenominator 3 = .ok (.iload_n 3, 1) := by decide +kernel
theorem dX2_squareDenominator_4 : decode cX2_squareDenominator 4 = .ok (.iload 4, 2) := by decide +kernel
theorem dX2_squareDenominator_6 : decode cX2_squareDenominator 6 = .ok (.iload 5, 2) := by decide +kernel
theorem dX2_squareDenominator_8 : decode cX2_squareDenominator 8 = .ok (.iload 6, 2) := by decide +kernel
theorem dX2_squareDenominator_10 : decode cX2_squareDenominator 10 = .ok (.invokevirtual 97, 3) := by decide +kernel
theorem dX2_squareDenominator_13 : decode cX2_squareDenominator 13 = .ok (.ifCond .ne 7, 3) := by decide +kernel
theorem dX2_squareDenominator_16 : decode cX2_squareDenominator 16 = .ok (.ldc2_w 101, 3) := by decide +kernel
theorem dX2_squareDenominator_19 : decode cX2_squareDenominator 19 = .ok (.lreturn, 1) := by decide +kernel
theorem dX2_squareDenominator_20 : decode cX2_squareDenominator 20 = .ok (.aload_n 0, 1) := by decide +kernel
theorem dX2_squareDenominator_21 : decode cX2_squareDenominator 21 = .ok (.getfield 33, 3) := by decide +kernel
theorem dX2_squareDenominator_24 : decode cX2_squareDenominator 24 = .ok (.aload_n 0, 1) := by decide +kernel
theorem dX2_squareDenominator_25 : decode cX2_squareDenominator 25 = .ok (.getfield 10, 3) := by decide +kernel
theorem dX2_squareDenominator_28 : decode cX2_squareDenominator 28 = .ok (.iload_n 1, 1) := by decide +kernel
theorem dX2_squareDenominator_29 : decode cX2_squareDenominator 29 = .ok (.iload_n 2, 1) := by decide +kernel
theorem dX2_squareDenominator_30 : decode cX2_squareDenominator 30 = .ok (.invokevirtual 103, 3) := by decide +kernel
theorem dX2_squareDenominator_33 : decode cX2_squareDenominator 33 = .ok (.aload_n 0, 1) := by decide +kernel
theorem dX2_squareDenominator_34 : decode cX2_squareDenominator 34 = .ok (.getfield 33, 3) := by decide +kernel
theorem dX2_squareDenominator_37 : decode cX2_squareDenominator 37 = .ok (.aload_n 0, 1) := by decide +kernel
theorem dX2_squareDenominator_38 : decode cX2_squareDenominator 38 = .ok (.getfield 10, 3) := by decide +kernel
theorem dX2_squareDenominator_41 : decode cX2_squareDenominator 41 = .ok (.iload_n 1, 1) := by decide +kernel
theorem dX2_squareDenominator_42 : decode cX2_squareDenominator 42 = .ok (.iload_n 2, 1) := by decide +kernel
theorem dX2_squareDenominator_43 : decode cX2_squareDenominator 43 = .ok (.iload_n 3, 1) := by decide +kernel
theorem dX2_squareDenominator_44 : decode cX2_squareDenominator 44 = .ok (.iload 4, 2) := by decide +kernel
theorem dX2_squareDenominator_46 : decode cX2_squareDenominator 46 = .ok (.iload 5, 2) := by decide +kernel
theorem dX2_squareDenominator_48 : decode cX2_squareDenominator 48 = .ok (.iload 6, 2) := by decide +kernel
theorem dX2_squareDenominator_50 : decode cX2_squareDenominator 50 = .ok (.invokevirtual 107, 3) := by decide +kernel
theorem dX2_squareDenominator_53 : decode cX2_squareDenominator 53 = .ok (.invokevirtual 114, 3) := by decide +kernel
theorem dX2_squareDenominator_56 : decode cX2_squareDenominator 56 = .ok (.lreturn, 1) := by decide +kernel
theorem dX2_kind_0 : decode cX2_kind 0 = .ok (.aload_n 0, 1) := by decide +kernel
theorem dX2_kind_1 : decode cX2_kind 1 = .ok (.iload_n 1, 1) := by decide +kernel
theorem dX2_kind_2 : decode cX2_kind 2 = .ok (.iload_n 2, 1) := by decide +kernel
theorem dX2_kind_3 : decode cX2_kind 3 = .ok (.iload_n 3, 1) := by decide +kernel
theorem dX2_kind_4 : decode cX2_kind 4 = .ok (.iload 4, 2) := by decide +kernel
theorem dX2_kind_6 : decode cX2_kind 6 = .ok (.iload 5, 2) := by decide +kernel
theorem dX2_kind_8 : decode cX2_kind 8 = .ok (.iload 6, 2) := by decide +kernel
theorem dX2_kind_10 : decode cX2_kind 10 = .ok (.invokevirtual 97, 3) := by decide +kernel
theorem dX2_kind_13 : decode cX2_kind 13 = .ok (.ifCond .ne 5, 3) := by decide +kernel
theorem dX2_kind_16 : decode cX2_kind 16 = .ok (.iconst (-1), 1) := by decide +kernel
theorem dX2_kind_17 : decode cX2_kind 17 = .ok (.ireturn, 1) := by decide +kernel
theorem dX2_kind_18 : decode cX2_kind 18 = .ok (.aload_n 0, 1) := by decide +kernel
theorem dX2_kind_19 : decode cX2_kind 19 = .ok (.getfield 33, 3) := by decide +kernel
theorem dX2_kind_22 : decode cX2_kind 22 = .ok (.aload_n 0, 1) := by decide +kernel
theorem dX2_kind_23 : decode cX2_kind 23 = .ok (.getfield 10, 3) := by decide +kernel
theorem dX2_kind_26 : decode cX2_kind 26 = .ok (.iload_n 1, 1) := by decide +kernel
theorem dX2_kind_27 : decode cX2_kind 27 = .ok (.iload_n 2, 1) := by decide +kernel
theorem dX2_kind_28 : decode cX2_kind 28 = .ok (.invokevirtual 103, 3) := by decide +kernel
theorem dX2_kind_31 : decode cX2_kind 31 = .ok (.aload_n 0, 1) := by decide +kernel
theorem dX2_kind_32 : decode cX2_kind 32 = .ok (.getfield 33, 3) := by decide +kernel
theorem dX2_kind_35 : decode cX2_kind 35 = .ok (.aload_n 0, 1) := by decide +kernel
theorem dX2_kind_36 : decode cX2_kind 36 = .ok (.getfield 10, 3) := by decide +kernel
theorem dX2_kind_39 : decode cX2_kind 39 = .ok (.iload_n 1, 1) := by decide +kernel
theorem dX2_kind_40 : decode cX2_kind 40 = .ok (.iload_n 2, 1) := by decide +kernel
theorem dX2_kind_41 : decode cX2_kind 41 = .ok (.iload_n 3, 1) := by decide +kernel
theorem dX2_kind_42 : decode cX2_kind 42 = .ok (.iload 4, 2) := by decide +kernel
theorem dX2_kind_44 : decode cX2_kind 44 = .ok (.iload 5, 2) := by decide +kernel
theorem dX2_kind_46 : decode cX2_kind 46 = .ok (.iload 6, 2) := by decide +kernel
theorem dX2_kind_48 : decode cX2_kind 48 = .ok (.invokevirtual 107, 3) := by decide +kernel
theorem dX2_kind_51 : decode cX2_kind 51 = .ok (.invokevirtual 117, 3) := by decide +kernel
theorem dX2_kind_54 : decode cX2_kind 54 = .ok (.ireturn, 1) := by decide +kernel
theorem dX2_beatCount_0 : decode cX2_beatCount 0 = .ok (.aload_n 0, 1) := by decide +kernel
theorem dX2_beatCount_1 : decode cX2_beatCount 1 = .ok (.getfield 10, 3) := by decide +kernel
theorem dX2_beatCount_4 : decode cX2_beatCount 4 = .ok (.iload_n 1, 1) := by decide +kernel
theorem dX2_beatCount_5 : decode cX2_beatCount 5 = .ok (.iload_n 2, 1) := by decide +kernel
theorem dX2_beatCount_6 : decode cX2_beatCount 6 = .ok (.invokevirtual 120, 3) := by decide +kernel
theorem dX2_beatCount_9 : decode cX2_beatCount 9 = .ok (.ifCond .ne 5, 3) := by decide +kernel
theorem dX2_beatCount_12 : decode cX2_beatCount 12 = .ok (.iconst (-1), 1) := by decide +kernel
theorem dX2_beatCount_13 : decode cX2_beatCount 13 = .ok (.ireturn, 1) := by decide +kernel
theorem dX2_beatCount_14 : decode cX2_beatCount 14 = .ok (.aload_n 0, 1) := by decide +kernel
theorem dX2_beatCount_15 : decode cX2_beatCount 15 = .ok (.getfield 33, 3) := by decide +kernel
theorem dX2_beatCount_18 : decode cX2_beatCount 18 = .ok (.aload_n 0, 1) := by decide +kernel
theorem dX2_beatCount_19 : decode cX2_beatCount 19 = .ok (.getfield 10, 3) := by decide +kernel
theorem dX2_beatCount_22 : decode cX2_beatCount 22 = .ok (.iload_n 1, 1) := by decide +kernel
theorem dX2_beatCount_23 : decode cX2_beatCount 23 = .ok (.iload_n 2, 1) := by decide +kernel
theorem dX2_beatCount_24 : decode cX2_beatCount 24 = .ok (.invokevirtual 123, 3) := by decide +kernel
theorem dX2_beatCount_27 : decode cX2_beatCount 27 = .ok (.aload_n 0, 1) := by decide +kernel
theorem dX2_beatCount_28 : decode cX2_beatCount 28 = .ok (.getfield 33, 3) := by decide +kernel
theorem dX2_beatCount_31 : decode cX2_beatCount 31 = .ok (.invokevirtual 126, 3) := by decide +kernel
theorem dX2_beatCount_34 : decode cX2_beatCount 34 = .ok (.aload_n 0, 1) := by decide +kernel
theorem dX2_beatCount_35 : decode cX2_beatCount 35 = .ok (.getfield 33, 3) := by decide +kernel
theorem dX2_beatCount_38 : decode cX2_beatCount 38 = .ok (.invokevirtual 129, 3) := by decide +kernel
theorem dX2_beatCount_41 : decode cX2_beatCount 41 = .ok (.ireturn, 1) := by decide +kernel
theorem dX2_beatNumerator_0 : decode cX2_beatNumerator 0 = .ok (.aload_n 0, 1) := by decide +kernel
theorem dX2_beatNumerator_1 : decode cX2_beatNumerator 1 = .ok (.iload_n 1, 1) := by decide +kernel
theorem dX2_beatNumerator_2 : decode cX2_beatNumerator 2 = .ok (.iload_n 2, 1) := by decide +kernel
theorem dX2_beatNumerator_3 : decode cX2_beatNumerator 3 = .ok (.iload_n 3, 1) := by decide +kernel
theorem dX2_beatNumerator_4 : decode cX2_beatNumerator 4 = .ok (.invokevirtual 133, 3) := by decide +kernel
theorem dX2_beatNumerator_7 : decode cX2_beatNumerator 7 = .ok (.istore 4, 2) := by decide +kernel
theorem dX2_beatNumerator_9 : decode cX2_beatNumerator 9 = .ok (.iload 4, 2) := by decide +kernel
theorem dX2_beatNumerator_11 : decode cX2_beatNumerator 11 = .ok (.ifCond .ge 9, 3) := by decide +kernel
theorem dX2_beatNumerator_14 : decode cX2_beatNumerator 14 = .ok (.iload 4, 2) := by decide +kernel
theorem dX2_beatNumerator_16 : decode cX2_beatNumerator 16 = .ok (.i2l, 1) := by decide +kernel
theorem dX2_beatNumerator_17 : decode cX2_beatNumerator 17 = .ok (.goto 12, 3) := by decide +kernel
theorem dX2_beatNumerator_20 : decode cX2_beatNumerator 20 = .ok (.aload_n 0, 1) := by decide +kernel
theorem dX2_beatNumerator_21 : decode cX2_beatNumerator 21 = .ok (.getfield 33, 3) := by decide +kernel
theorem dX2_beatNumerator_24 : decode cX2_beatNumerator 24 = .ok (.iload 4, 2) := by decide +kernel
theorem dX2_beatNumerator_26 : decode cX2_beatNumerator 26 = .ok (.invokevirtual 111, 3) := by decide +kernel
theorem dX2_beatNumerator_29 : decode cX2_beatNumerator 29 = .ok (.lreturn, 1) := by decide +kernel
theorem dX2_beatDenominator_0 : decode cX2_beatDenominator 0 = .ok (.aload_n 0, 1) := by decide +kernel
theorem dX2_beatDenominator_1 : decode cX2_beatDenominator 1 = .ok (.iload_n 1, 1) := by decide +kernel
theorem dX2_beatDenominator_2 : decode cX2_beatDenominator 2 = .ok (.iload_n 2, 1) := by decide +kernel
theorem dX2_beatDenominator_3 : decode cX2_beatDenominator 3 = .ok (.iload_n 3, 1) := by decide +kernel
theorem dX2_beatDenominator_4 : decode cX2_beatDenominator 4 = .ok (.invokevirtual 133, 3) := by decide +kernel
theorem dX2_beatDenominator_7 : decode cX2_beatDenominator 7 = .ok (.istore 4, 2) := by decide +kernel
theorem dX2_beatDenominator_9 : decode cX2_beatDenominator 9 = .ok (.iload 4, 2) := by decide +kernel
theorem dX2_beatDenominator_11 : decode cX2_beatDenominator 11 = .ok (.ifCond .ge 9, 3) := by decide +kernel
theorem dX2_beatDenominator_14 : decode cX2_beatDenominator 14 = .ok (.iload 4, 2) := by decide +kernel
theorem dX2_beatDenominator_16 : decode cX2_beatDenominator 16 = .ok (.i2l, 1) := by decide +kernel
theorem dX2_beatDenominator_17 : decode cX2_beatDenominator 17 = .ok (.goto 12, 3) := by decide +kernel
theorem dX2_beatDenominator_20 : decode cX2_beatDenominator 20 = .ok (.aload_n 0, 1) := by decide +kernel
theorem dX2_beatDenominator_21 : decode cX2_beatDenominator 21 = .ok (.getfield 33, 3) := by decide +kernel
theorem dX2_beatDenominator_24 : decode cX2_beatDenominator 24 = .ok (.iload 4, 2) := by decide +kernel
theorem dX2_beatDenominator_26 : decode cX2_beatDenominator 26 = .ok (.invokevirtual 114, 3) := by decide +kernel
theorem dX2_beatDenominator_29 : decode cX2_beatDenominator 29 = .ok (.lreturn, 1) := by decide +kernel
theorem dX2_beatFrequency_0 : decode cX2_beatFrequency 0 = .ok (.aload_n 0, 1) := by decide +kernel
theorem dX2_beatFrequency_1 : decode cX2_beatFrequency 1 = .ok (.iload_n 1, 1) := by decide +kernel
theorem dX2_beatFrequency_2 : decode cX2_beatFrequency 2 = .ok (.iload_n 2, 1) := by decide +kernel
theorem dX2_beatFrequency_3 : decode cX2_beatFrequency 3 = .ok (.iload_n 3, 1) := by decide +kernel
theorem dX2_beatFrequency_4 : decode cX2_beatFrequency 4 = .ok (.invokevirtual 133, 3) := by decide +kernel
theorem dX2_beatFrequency_7 : decode cX2_beatFrequency 7 = .ok (.istore 4, 2) := by decide +kernel
theorem dX2_beatFrequency_9 : decode cX2_beatFrequency 9 = .ok (.iload 4, 2) := by decide +kernel
theorem dX2_beatFrequency_11 : decode cX2_beatFrequency 11 = .ok (.ifCond .ge 8, 3) := by decide +kernel
theorem dX2_beatFrequency_14 : decode cX2_beatFrequency 14 = .ok (.iload 4, 2) := by decide +kernel
theorem dX2_beatFrequency_16 : decode cX2_beatFrequency 16 = .ok (.goto 12, 3) := by decide +kernel
theorem dX2_beatFrequency_19 : decode cX2_beatFrequency 19 = .ok (.aload_n 0, 1) := by decide +kernel
theorem dX2_beatFrequency_20 : decode cX2_beatFrequency 20 = .ok (.getfield 33, 3) := by decide +kernel
theorem dX2_beatFrequency_23 : decode cX2_beatFrequency 23 = .ok (.iload 4, 2) := by decide +kernel
theorem dX2_beatFrequency_25 : decode cX2_beatFrequency 25 = .ok (.invokevirtual 137, 3) := by decide +kernel
theorem dX2_beatFrequency_28 : decode cX2_beatFrequency 28 = .ok (.ireturn, 1) := by decide +kernel
theorem dX2_beatPeriod_0 : decode cX2_beatPeriod 0 = .ok (.aload_n 0, 1) := by decide +kernel
theorem dX2_beatPeriod_1 : decode cX2_beatPeriod 1 = .ok (.iload_n 1, 1) := by decide +kernel
theorem dX2_beatPeriod_2 : decode cX2_beatPeriod 2 = .ok (.iload_n 2, 1) := by decide +kernel
theorem dX2_beatPeriod_3 : decode cX2_beatPeriod 3 = .ok (.iload_n 3, 1) := by decide +kernel
theorem dX2_beatPeriod_4 : decode cX2_beatPeriod 4 = .ok (.invokevirtual 133, 3) := by decide +kernel
theorem dX2_beatPeriod_7 : decode cX2_beatPeriod 7 = .ok (.istore 4, 2) := by decide +kernel
theorem dX2_beatPeriod_9 : decode cX2_beatPeriod 9 = .ok (.iload 4, 2) := by decide +kernel
theorem dX2_beatPeriod_11 : decode cX2_beatPeriod 11 = .ok (.ifCond .ge 6, 3) := by decide +kernel
theorem dX2_beatPeriod_14 : decode cX2_beatPeriod 14 = .ok (.iload 4, 2) := by decide +kernel
theorem dX2_beatPeriod_16 : decode cX2_beatPeriod 16 = .ok (.ireturn, 1) := by decide +kernel
theorem dX2_beatPeriod_17 : decode cX2_beatPeriod 17 = .ok (.iload 4, 2) := by decide +kernel
theorem dX2_beatPeriod_19 : decode cX2_beatPeriod 19 = .ok (.ifCond .ne 8, 3) := by decide +kernel
theorem dX2_beatPeriod_22 : decode cX2_beatPeriod 22 = .ok (.bipush (-4), 2) := by decide +kernel
theorem dX2_beatPeriod_24 : decode cX2_beatPeriod 24 = .ok (.goto 12, 3) := by decide +kernel
theorem dX2_beatPeriod_27 : decode cX2_beatPeriod 27 = .ok (.aload_n 0, 1) := by decide +kernel
theorem dX2_beatPeriod_28 : decode cX2_beatPeriod 28 = .ok (.getfield 33, 3) := by decide +kernel
theorem dX2_beatPeriod_31 : decode cX2_beatPeriod 31 = .ok (.iload 4, 2) := by decide +kernel
theorem dX2_beatPeriod_33 : decode cX2_beatPeriod 33 = .ok (.invokevirtual 140, 3) := by decide +kernel
theorem dX2_beatPeriod_36 : decode cX2_beatPeriod 36 = .ok (.ireturn, 1) := by decide +kernel
theorem dX2_locked_0 : decode cX2_locked 0 = .ok (.aload_n 0, 1) := by decide +kernel
theorem dX2_locked_1 : decode cX2_locked 1 = .ok (.getfield 10, 3) := by decide +kernel
theorem dX2_locked_4 : decode cX2_locked 4 = .ok (.iload_n 1, 1) := by decide +kernel
theorem dX2_locked_5 : decode cX2_locked 5 = .ok (.iload_n 2, 1) := by decide +kernel
theorem dX2_locked_6 : decode cX2_locked 6 = .ok (.invokevirtual 120, 3) := by decide +kernel
theorem dX2_locked_9 : decode cX2_locked 9 = .ok (.ifCond .ne 5, 3) := by decide +kernel
theorem dX2_locked_12 : decode cX2_locked 12 = .ok (.iconst (-1), 1) := by decide +kernel
theorem dX2_locked_13 : decode cX2_locked 13 = .ok (.ireturn, 1) := by decide +kernel
theorem dX2_locked_14 : decode cX2_locked 14 = .ok (.aload_n 0, 1) := by decide +kernel
theorem dX2_locked_15 : decode cX2_locked 15 = .ok (.getfield 33, 3) := by decide +kernel
theorem dX2_locked_18 : decode cX2_locked 18 = .ok (.aload_n 0, 1) := by decide +kernel
theorem dX2_locked_19 : decode cX2_locked 19 = .ok (.getfield 10, 3) := by decide +kernel
theorem dX2_locked_22 : decode cX2_locked 22 = .ok (.iload_n 1, 1) := by decide +kernel
theorem dX2_locked_23 : decode cX2_locked 23 = .ok (.iload_n 2, 1) := by decide +kernel
theorem dX2_locked_24 : decode cX2_locked 24 = .ok (.invokevirtual 123, 3) := by decide +kernel
theorem dX2_locked_27 : decode cX2_locked 27 = .ok (.aload_n 0, 1) := by decide +kernel
theorem dX2_locked_28 : decode cX2_locked 28 = .ok (.getfield 33, 3) := by decide +kernel
theorem dX2_locked_31 : decode cX2_locked 31 = .ok (.iconst 0, 1) := by decide +kernel
theorem dX2_locked_32 : decode cX2_locked 32 = .ok (.invokevirtual 137, 3) := by decide +kernel
theorem dX2_locked_35 : decode cX2_locked 35 = .ok (.ireturn, 1) := by decide +kernel
theorem dX2_bands_0 : decode cX2_bands 0 = .ok (.aload_n 0, 1) := by decide +kernel
theorem dX2_bands_1 : decode cX2_bands 1 = .ok (.getfield 10, 3) := by decide +kernel
theorem dX2_bands_4 : decode cX2_bands 4 = .ok (.iload_n 1, 1) := by decide +kernel
theorem dX2_bands_5 : decode cX2_bands 5 = .ok (.iload_n 2, 1) := by decide +kernel
theorem dX2_bands_6 : decode cX2_bands 6 = .ok (.invokevirtual 120, 3) := by decide +kernel
theorem dX2_bands_9 : decode cX2_bands 9 = .ok (.ifCond .eq 12, 3) := by decide +kernel
theorem dX2_bands_12 : decode cX2_bands 12 = .ok (.aload_n 0, 1) := by decide +kernel
theorem dX2_bands_13 : decode cX2_bands 13 = .ok (.iload_n 1, 1) := by decide +kernel
theorem dX2_bands_14 : decode cX2_bands 14 = .ok (.iload_n 2, 1) := by decide +kernel
theorem dX2_bands_15 : decode cX2_bands 15 = .ok (.invokevirtual 143, 3) := by decide +kernel
theorem dX2_bands_18 : decode cX2_bands 18 = .ok (.goto 4, 3) := by decide +kernel
theorem dX2_bands_21 : decode cX2_bands 21 = .ok (.iconst (-1), 1) := by decide +kernel
theorem dX2_bands_22 : decode cX2_bands 22 = .ok (.ireturn, 1) := by decide +kernel
theorem dX2_isCombination_0 : decode cX2_isCombination 0 = .ok (.aload_n 0, 1) := by decide +kernel
theorem dX2_isCombination_1 : decode cX2_isCombination 1 = .ok (.getfield 10, 3) := by decide +kernel
theorem dX2_isCombination_4 : decode cX2_isCombination 4 = .ok (.iload_n 1, 1) := by decide +kernel
theorem dX2_isCombination_5 : decode cX2_isCombination 5 = .ok (.iload_n 2, 1) := by decide +kernel
theorem dX2_isCombination_6 : decode cX2_isCombination 6 = .ok (.invokevirtual 120, 3) := by decide +kernel
theorem dX2_isCombination_9 : decode cX2_isCombination 9 = .ok (.ifCond .eq 34, 3) := by decide +kernel
theorem dX2_isCombination_12 : decode cX2_isCombination 12 = .ok (.aload_n 0, 1) := by decide +kernel
theorem dX2_isCombination_13 : decode cX2_isCombination 13 = .ok (.getfield 10, 3) := by decide +kernel
theorem dX2_isCombination_16 : decode cX2_isCombination 16 = .ok (.iload_n 3, 1) := by decide +kernel
theorem dX2_isCombination_17 : decode cX2_isCombination 17 = .ok (.iload 4, 2) := by decide +kernel
theorem dX2_isCombination_19 : decode cX2_isCombination 19 = .ok (.invokevirtual 147, 3) := by decide +kernel
theorem dX2_isCombination_22 : decode cX2_isCombination 22 = .ok (.ifCond .eq 21, 3) := by decide +kernel
theorem dX2_isCombination_25 : decode cX2_isCombination 25 = .ok (.aload_n 0, 1) := by decide +kernel
theorem dX2_isCombination_26 : decode cX2_isCombination 26 = .ok (.getfield 10, 3) := by decide +kernel
theorem dX2_isCombination_29 : decode cX2_isCombination 29 = .ok (.iload 5, 2) := by decide +kernel
theorem dX2_isCombination_31 : decode cX2_isCombination 31 = .ok (.iload 6, 2) := by decide +kernel
theorem dX2_isCombination_33 : decode cX2_isCombination 33 = .ok (.invokevirtual 147, 3) := by decide +kernel
theorem dX2_isCombination_36 : decode cX2_isCombination 36 = .ok (.ifCond .eq 7, 3) := by decide +kernel
theorem dX2_isCombination_39 : decode cX2_isCombination 39 = .ok (.iconst 1, 1) := by decide +kernel
theorem dX2_isCombination_40 : decode cX2_isCombination 40 = .ok (.goto 4, 3) := by decide +kernel
theorem dX2_isCombination_43 : decode cX2_isCombination 43 = .ok (.iconst 0, 1) := by decide +kernel
theorem dX2_isCombination_44 : decode cX2_isCombination 44 = .ok (.ireturn, 1) := by decide +kernel
theorem dX2_normOfRank_0 : decode cX2_normOfRank 0 = .ok (.aload_n 0, 1) := by decide +kernel
theorem dX2_normOfRank_1 : decode cX2_normOfRank 1 = .ok (.getfield 10, 3) := by decide +kernel
theorem dX2_normOfRank_4 : decode cX2_normOfRank 4 = .ok (.iload_n 1, 1) := by decide +kernel
theorem dX2_normOfRank_5 : decode cX2_normOfRank 5 = .ok (.iload_n 2, 1) := by decide +kernel
theorem dX2_normOfRank_6 : decode cX2_normOfRank 6 = .ok (.invokevirtual 120, 3) := by decide +kernel
theorem dX2_normOfRank_9 : decode cX2_normOfRank 9 = .ok (.ifCond .eq 7, 3) := by decide +kernel
theorem dX2_normOfRank_12 : decode cX2_normOfRank 12 = .ok (.iload_n 3, 1) := by decide +kernel
theorem dX2_normOfRank_13 : decode cX2_normOfRank 13 = .ok (.ifCond .ge 5, 3) := by decide +kernel
theorem dX2_normOfRank_16 : decode cX2_normOfRank 16 = .ok (.iconst (-1), 1) := by decide +kernel
theorem dX2_normOfRank_17 : decode cX2_normOfRank 17 = .ok (.ireturn, 1) := by decide +kernel
theorem dX2_normOfRank_18 : decode cX2_normOfRank 18 = .ok (.aload_n 0, 1) := by decide +kernel
theorem dX2_normOfRank_19 : decode cX2_normOfRank 19 = .ok (.getfield 33, 3) := by decide +kernel
theorem dX2_normOfRank_22 : decode cX2_normOfRank 22 = .ok (.aload_n 0, 1) := by decide +kernel
theorem dX2_normOfRank_23 : decode cX2_normOfRank 23 = .ok (.getfield 10, 3) := by decide +kernel
theorem dX2_normOfRank_26 : decode cX2_normOfRank 26 = .ok (.iload_n 1, 1) := by decide +kernel
theorem dX2_normOfRank_27 : decode cX2_normOfRank 27 = .ok (.iload_n 2, 1) := by decide +kernel
theorem dX2_normOfRank_28 : decode cX2_normOfRank 28 = .ok (.invokevirtual 123, 3) := by decide +kernel
theorem dX2_normOfRank_31 : decode cX2_normOfRank 31 = .ok (.aload_n 0, 1) := by decide +kernel
theorem dX2_normOfRank_32 : decode cX2_normOfRank 32 = .ok (.getfield 33, 3) := by decide +kernel
theorem dX2_normOfRank_35 : decode cX2_normOfRank 35 = .ok (.invokevirtual 126, 3) := by decide +kernel
theorem dX2_normOfRank_38 : decode cX2_normOfRank 38 = .ok (.aload_n 0, 1) := by decide +kernel
theorem dX2_normOfRank_39 : decode cX2_normOfRank 39 = .ok (.getfield 33, 3) := by decide +kernel
theorem dX2_normOfRank_42 : decode cX2_normOfRank 42 = .ok (.iload_n 3, 1) := by decide +kernel
theorem dX2_normOfRank_43 : decode cX2_normOfRank 43 = .ok (.invokevirtual 150, 3) := by decide +kernel
theorem dX2_normOfRank_46 : decode cX2_normOfRank 46 = .ok (.ireturn, 1) := by decide +kernel
theorem dX2_pairBands_0 : decode cX2_pairBands 0 = .ok (.aload_n 0, 1) := by decide +kernel
theorem dX2_pairBands_1 : decode cX2_pairBands 1 = .ok (.getfield 33, 3) := by decide +kernel
theorem dX2_pairBands_4 : decode cX2_pairBands 4 = .ok (.aload_n 0, 1) := by decide +kernel
theorem dX2_pairBands_5 : decode cX2_pairBands 5 = .ok (.getfield 10, 3) := by decide +kernel
theorem dX2_pairBands_8 : decode cX2_pairBands 8 = .ok (.iload_n 1, 1) := by decide +kernel
theorem dX2_pairBands_9 : decode cX2_pairBands 9 = .ok (.iload_n 2, 1) := by decide +kernel
theorem dX2_pairBands_10 : decode cX2_pairBands 10 = .ok (.invokevirtual 123, 3) := by decide +kernel
theorem dX2_pairBands_13 : decode cX2_pairBands 13 = .ok (.aload_n 0, 1) := by decide +kernel
theorem dX2_pairBands_14 : decode cX2_pairBands 14 = .ok (.getfield 33, 3) := by decide +kernel
theorem dX2_pairBands_17 : decode cX2_pairBands 17 = .ok (.invokevirtual 153, 3) := by decide +kernel
theorem dX2_pairBands_20 : decode cX2_pairBands 20 = .ok (.ireturn, 1) := by decide +kernel
theorem dX2_tripleBands_0 : decode cX2_tripleBands 0 = .ok (.aload_n 0, 1) := by decide +kernel
theorem dX2_tripleBands_1 : decode cX2_tripleBands 1 = .ok (.getfield 10, 3) := by decide +kernel
theorem dX2_tripleBands_4 : decode cX2_tripleBands 4 = .ok (.iload_n 1, 1) := by decide +kernel
theorem dX2_tripleBands_5 : decode cX2_tripleBands 5 = .ok (.iload_n 2, 1) := by decide +kernel
theorem dX2_tripleBands_6 : decode cX2_tripleBands 6 = .ok (.invokevirtual 120, 3) := by decide +kernel
theorem dX2_tripleBands_9 : decode cX2_tripleBands 9 = .ok (.ifCond .eq 15, 3) := by decide +kernel
theorem dX2_tripleBands_12 : decode cX2_tripleBands 12 = .ok (.aload_n 0, 1) := by decide +kernel
theorem dX2_tripleBands_13 : decode cX2_tripleBands 13 = .ok (.getfield 10, 3) := by decide +kernel
theorem dX2_tripleBands_16 : decode cX2_tripleBands 16 = .ok (.iload_n 2, 1) := by decide +kernel
theorem dX2_tripleBands_17 : decode cX2_tripleBands 17 = .ok (.iload_n 3, 1) := by decide +kernel
theorem dX2_tripleBands_18 : decode cX2_tripleBands 18 = .ok (.invokevirtual 120, 3) := by decide +kernel
theorem dX2_tripleBands_21 : decode cX2_tripleBands 21 = .ok (.ifCond .ne 5, 3) := by decide +kernel
theorem dX2_tripleBands_24 : decode cX2_tripleBands 24 = .ok (.iconst (-1), 1) := by decide +kernel
theorem dX2_tripleBands_25 : decode cX2_tripleBands 25 = .ok (.ireturn, 1) := by decide +kernel
theorem dX2_tripleBands_26 : decode cX2_tripleBands 26 = .ok (.aload_n 0, 1) := by decide +kernel
theorem dX2_tripleBands_27 : decode cX2_tripleBands 27 = .ok (.getfield 33, 3) := by decide +kernel
theorem dX2_tripleBands_30 : decode cX2_tripleBands 30 = .ok (.aload_n 0, 1) := by decide +kernel
theorem dX2_tripleBands_31 : decode cX2_tripleBands 31 = .ok (.getfield 10, 3) := by decide +kernel
theorem dX2_tripleBands_34 : decode cX2_tripleBands 34 = .ok (.iload_n 1, 1) := by decide +kernel
theorem dX2_tripleBands_35 : decode cX2_tripleBands 35 = .ok (.iload_n 2, 1) := by decide +kernel
theorem dX2_tripleBands_36 : decode cX2_tripleBands 36 = .ok (.iload_n 3, 1) := by decide +kernel
theorem dX2_tripleBands_37 : decode cX2_tripleBands 37 = .ok (.invokevirtual 156, 3) := by decide +kernel
theorem dX2_tripleBands_40 : decode cX2_tripleBands 40 = .ok (.aload_n 0, 1) := by decide +kernel
theorem dX2_tripleBands_41 : decode cX2_tripleBands 41 = .ok (.getfield 33, 3) := by decide +kernel
theorem dX2_tripleBands_44 : decode cX2_tripleBands 44 = .ok (.invokevirtual 153, 3) := by decide +kernel
theorem dX2_tripleBands_47 : decode cX2_tripleBands 47 = .ok (.ireturn, 1) := by decide +kernel
theorem dX2_allBands_0 : decode cX2_allBands 0 = .ok (.aload_n 0, 1) := by decide +kernel
theorem dX2_allBands_1 : decode cX2_allBands 1 = .ok (.aload_n 0, 1) := by decide +kernel
theorem dX2_allBands_2 : decode cX2_allBands 2 = .ok (.getfield 10, 3) := by decide +kernel
theorem dX2_allBands_5 : decode cX2_allBands 5 = .ok (.iconst 0, 1) := by decide +kernel
theorem dX2_allBands_6 : decode cX2_allBands 6 = .ok (.invokevirtual 160, 3) := by decide +kernel
theorem dX2_allBands_9 : decode cX2_allBands 9 = .ok (.ireturn, 1) := by decide +kernel
theorem dX2_worstPlates_0 : decode cX2_worstPlates 0 = .ok (.bipush (-4), 2) := by decide +kernel
theorem dX2_worstPlates_2 : decode cX2_worstPlates 2 = .ok (.istore_n 1, 1) := by decide +kernel
theorem dX2_worstPlates_3 : decode cX2_worstPlates 3 = .ok (.iconst 0, 1) := by decide +kernel
theorem dX2_worstPlates_4 : decode cX2_worstPlates 4 = .ok (.istore_n 2, 1) := by decide +kernel
theorem dX2_worstPlates_5 : decode cX2_worstPlates 5 = .ok (.iconst 0, 1) := by decide +kernel
theorem dX2_worstPlates_6 : decode cX2_worstPlates 6 = .ok (.istore_n 3, 1) := by decide +kernel
theorem dX2_worstPlates_7 : decode cX2_worstPlates 7 = .ok (.iload_n 3, 1) := by decide +kernel
theorem dX2_worstPlates_8 : decode cX2_worstPlates 8 = .ok (.getstatic 164, 3) := by decide +kernel
theorem dX2_worstPlates_11 : decode cX2_worstPlates 11 = .ok (.arraylength, 1) := by decide +kernel
theorem dX2_worstPlates_12 : decode cX2_worstPlates 12 = .ok (.if_icmp .ge 35, 3) := by decide +kernel
theorem dX2_worstPlates_15 : decode cX2_worstPlates 15 = .ok (.aload_n 0, 1) := by decide +kernel
theorem dX2_worstPlates_16 : decode cX2_worstPlates 16 = .ok (.getstatic 164, 3) := by decide +kernel
theorem dX2_worstPlates_19 : decode cX2_worstPlates 19 = .ok (.iload_n 3, 1) := by decide +kernel
theorem dX2_worstPlates_20 : decode cX2_worstPlates 20 = .ok (.iaload, 1) := by decide +kernel
theorem dX2_worstPlates_21 : decode cX2_worstPlates 21 = .ok (.invokevirtual 168, 3) := by decide +kernel
theorem dX2_worstPlates_24 : decode cX2_worstPlates 24 = .ok (.istore 4, 2) := by decide +kernel
theorem dX2_worstPlates_26 : decode cX2_worstPlates 26 = .ok (.iload 4, 2) := by decide +kernel
theorem dX2_worstPlates_28 : decode cX2_worstPlates 28 = .ok (.iload_n 2, 1) := by decide +kernel
theorem dX2_worstPlates_29 : decode cX2_worstPlates 29 = .ok (.if_icmp .le 12, 3) := by decide +kernel
theorem dX2_worstPlates_32 : decode cX2_worstPlates 32 = .ok (.iload 4, 2) := by decide +kernel
theorem dX2_worstPlates_34 : decode cX2_worstPlates 34 = .ok (.istore_n 2, 1) := by decide +kernel
theorem dX2_worstPlates_35 : decode cX2_worstPlates 35 = .ok (.getstatic 164, 3) := by decide +kernel
theorem dX2_worstPlates_38 : decode cX2_worstPlates 38 = .ok (.iload_n 3, 1) := by decide +kernel
theorem dX2_worstPlates_39 : decode cX2_worstPlates 39 = .ok (.iaload, 1) := by decide +kernel
theorem dX2_worstPlates_40 : decode cX2_worstPlates 40 = .ok (.istore_n 1, 1) := by decide +kernel
theorem dX2_worstPlates_41 : decode cX2_worstPlates 41 = .ok (.iinc 3 1, 3) := by decide +kernel
theorem dX2_worstPlates_44 : decode cX2_worstPlates 44 = .ok (.goto (-37), 3) := by decide +kernel
theorem dX2_worstPlates_47 : decode cX2_worstPlates 47 = .ok (.iload_n 1, 1) := by decide +kernel
theorem dX2_worstPlates_48 : decode cX2_worstPlates 48 = .ok (.ireturn, 1) := by decide +kernel
theorem dX2_worstPeriod_0 : decode cX2_worstPeriod 0 = .ok (.aload_n 0, 1) := by decide +kernel
theorem dX2_worstPeriod_1 : decode cX2_worstPeriod 1 = .ok (.invokevirtual 171, 3) := by decide +kernel
theorem dX2_worstPeriod_4 : decode cX2_worstPeriod 4 = .ok (.istore_n 1, 1) := by decide +kernel
theorem dX2_worstPeriod_5 : decode cX2_worstPeriod 5 = .ok (.iload_n 1, 1) := by decide +kernel
theorem dX2_worstPeriod_6 : decode cX2_worstPeriod 6 = .ok (.bipush (-4), 2) := by decide +kernel
theorem dX2_worstPeriod_8 : decode cX2_worstPeriod 8 = .ok (.if_icmp .ne 8, 3) := by decide +kernel
theorem dX2_worstPeriod_11 : decode cX2_worstPeriod 11 = .ok (.bipush (-4), 2) := by decide +kernel
theorem dX2_worstPeriod_13 : decode cX2_worstPeriod 13 = .ok (.goto 8, 3) := by decide +kernel
theorem dX2_worstPeriod_16 : decode cX2_worstPeriod 16 = .ok (.aload_n 0, 1) := by decide +kernel
theorem dX2_worstPeriod_17 : decode cX2_worstPeriod 17 = .ok (.iload_n 1, 1) := by decide +kernel
theorem dX2_worstPeriod_18 : decode cX2_worstPeriod 18 = .ok (.invokevirtual 168, 3) := by decide +kernel
theorem dX2_worstPeriod_21 : decode cX2_worstPeriod 21 = .ok (.ireturn, 1) := by decide +kernel
theorem dX2_worstPair_0 : decode cX2_worstPair 0 = .ok (.bipush (-4), 2) := by decide +kernel
theorem dX2_worstPair_2 : decode cX2_worstPair 2 = .ok (.istore_n 1, 1) := by decide +kernel
theorem dX2_worstPair_3 : decode cX2_worstPair 3 = .ok (.iconst (-1), 1) := by decide +kernel
theorem dX2_worstPair_4 : decode cX2_worstPair 4 = .ok (.istore_n 2, 1) := by decide +kernel
theorem dX2_worstPair_5 : decode cX2_worstPair 5 = .ok (.iconst 0, 1) := by decide +kernel
theorem dX2_worstPair_6 : decode cX2_worstPair 6 = .ok (.istore_n 3, 1) := by decide +kernel
theorem dX2_worstPair_7 : decode cX2_worstPair 7 = .ok (.iload_n 3, 1) := by decide +kernel
theorem dX2_worstPair_8 : decode cX2_worstPair 8 = .ok (.aload_n 0, 1) := by decide +kernel
theorem dX2_worstPair_9 : decode cX2_worstPair 9 = .ok (.getfield 10, 3) := by decide +kernel
theorem dX2_worstPair_12 : decode cX2_worstPair 12 = .ok (.getfield 41, 3) := by decide +kernel
theorem dX2_worstPair_15 : decode cX2_worstPair 15 = .ok (.if_icmp .ge 58, 3) := by decide +kernel
theorem dX2_worstPair_18 : decode cX2_worstPair 18 = .ok (.iload_n 3, 1) := by decide +kernel
theorem dX2_worstPair_19 : decode cX2_worstPair 19 = .ok (.iconst 1, 1) := by decide +kernel
theorem dX2_worstPair_20 : decode cX2_worstPair 20 = .ok (.iadd, 1) := by decide +kernel
theorem dX2_worstPair_21 : decode cX2_worstPair 21 = .ok (.istore 4, 2) := by decide +kernel
theorem dX2_worstPair_23 : decode cX2_worstPair 23 = .ok (.iload 4, 2) := by decide +kernel
theorem dX2_worstPair_25 : decode cX2_worstPair 25 = .ok (.aload_n 0, 1) := by decide +kernel
theorem dX2_worstPair_26 : decode cX2_worstPair 26 = .ok (.getfield 10, 3) := by decide +kernel
theorem dX2_worstPair_29 : decode cX2_worstPair 29 = .ok (.getfield 41, 3) := by decide +kernel
theorem dX2_worstPair_32 : decode cX2_worstPair 32 = .ok (.if_icmp .ge 35, 3) := by decide +kernel
theorem dX2_worstPair_35 : decode cX2_worstPair 35 = .ok (.aload_n 0, 1) := by decide +kernel
theorem dX2_worstPair_36 : decode cX2_worstPair 36 = .ok (.iload_n 3, 1) := by decide +kernel
theorem dX2_worstPair_37 : decode cX2_worstPair 37 = .ok (.iload 4, 2) := by decide +kernel
theorem dX2_worstPair_39 : decode cX2_worstPair 39 = .ok (.invokevirtual 143, 3) := by decide +kernel
theorem dX2_worstPair_42 : decode cX2_worstPair 42 = .ok (.istore 5, 2) := by decide +kernel
theorem dX2_worstPair_44 : decode cX2_worstPair 44 = .ok (.iload 5, 2) := by decide +kernel
theorem dX2_worstPair_46 : decode cX2_worstPair 46 = .ok (.iload_n 2, 1) := by decide +kernel
theorem dX2_worstPair_47 : decode cX2_worstPair 47 = .ok (.if_icmp .le 14, 3) := by decide +kernel
theorem dX2_worstPair_50 : decode cX2_worstPair 50 = .ok (.iload 5, 2) := by decide +kernel
theorem dX2_worstPair_52 : decode cX2_worstPair 52 = .ok (.istore_n 2, 1) := by decide +kernel
theorem dX2_worstPair_53 : decode cX2_worstPair 53 = .ok (.bipush 10, 2) := by decide +kernel
theorem dX2_worstPair_55 : decode cX2_worstPair 55 = .ok (.iload_n 3, 1) := by decide +kernel
theorem dX2_worstPair_56 : decode cX2_worstPair 56 = .ok (.imul, 1) := by decide +kernel
theorem dX2_worstPair_57 : decode cX2_worstPair 57 = .ok (.iload 4, 2) := by decide +kernel
theorem dX2_worstPair_59 : decode cX2_worstPair 59 = .ok (.iadd, 1) := by decide +kernel
theorem dX2_worstPair_60 : decode cX2_worstPair 60 = .ok (.istore_n 1, 1) := by decide +kernel
theorem dX2_worstPair_61 : decode cX2_worstPair 61 = .ok (.iinc 4 1, 3) := by decide +kernel
theorem dX2_worstPair_64 : decode cX2_worstPair 64 = .ok (.goto (-41), 3) := by decide +kernel
theorem dX2_worstPair_67 : decode cX2_worstPair 67 = .ok (.iinc 3 1, 3) := by decide +kernel
theorem dX2_worstPair_70 : decode cX2_worstPair 70 = .ok (.goto (-63), 3) := by decide +kernel
theorem dX2_worstPair_73 : decode cX2_worstPair 73 = .ok (.iload_n 1, 1) := by decide +kernel
theorem dX2_worstPair_74 : decode cX2_worstPair 74 = .ok (.ireturn, 1) := by decide +kernel
theorem dX2_worstPeriodOf_0 : decode cX2_worstPeriodOf 0 = .ok (.aload_n 0, 1) := by decide +kernel
theorem dX2_worstPeriodOf_1 : decode cX2_worstPeriodOf 1 = .ok (.getfield 10, 3) := by decide +kernel
theorem dX2_worstPeriodOf_4 : decode cX2_worstPeriodOf 4 = .ok (.iload_n 1, 1) := by decide +kernel
theorem dX2_worstPeriodOf_5 : decode cX2_worstPeriodOf 5 = .ok (.invokevirtual 174, 3) := by decide +kernel
theorem dX2_worstPeriodOf_8 : decode cX2_worstPeriodOf 8 = .ok (.ifCond .ne 5, 3) := by decide +kernel
theorem dX2_worstPeriodOf_11 : decode cX2_worstPeriodOf 11 = .ok (.iconst 0, 1) := by decide +kernel
theorem dX2_worstPeriodOf_12 : decode cX2_worstPeriodOf 12 = .ok (.ireturn, 1) := by decide +kernel
theorem dX2_worstPeriodOf_13 : decode cX2_worstPeriodOf 13 = .ok (.aload_n 0, 1) := by decide +kernel
theorem dX2_worstPeriodOf_14 : decode cX2_worstPeriodOf 14 = .ok (.getfield 33, 3) := by decide +kernel
theorem dX2_worstPeriodOf_17 : decode cX2_worstPeriodOf 17 = .ok (.aload_n 0, 1) := by decide +kernel
theorem dX2_worstPeriodOf_18 : decode cX2_worstPeriodOf 18 = .ok (.getfield 10, 3) := by decide +kernel
theorem dX2_worstPeriodOf_21 : decode cX2_worstPeriodOf 21 = .ok (.iload_n 1, 1) := by decide +kernel
theorem dX2_worstPeriodOf_22 : decode cX2_worstPeriodOf 22 = .ok (.invokevirtual 177, 3) := by decide +kernel
theorem dX2_worstPeriodOf_25 : decode cX2_worstPeriodOf 25 = .ok (.aload_n 0, 1) := by decide +kernel
theorem dX2_worstPeriodOf_26 : decode cX2_worstPeriodOf 26 = .ok (.getfield 33, 3) := by decide +kernel
theorem dX2_worstPeriodOf_29 : decode cX2_worstPeriodOf 29 = .ok (.invokevirtual 181, 3) := by decide +kernel
theorem dX2_worstPeriodOf_32 : decode cX2_worstPeriodOf 32 = .ok (.ireturn, 1) := by decide +kernel
theorem dX2_bandsOfGroups_0 : decode cX2_bandsOfGroups 0 = .ok (.iconst 0, 1) := by decide +kernel
theorem dX2_bandsOfGroups_1 : decode cX2_bandsOfGroups 1 = .ok (.istore_n 3, 1) := by decide +kernel
theorem dX2_bandsOfGroups_2 : decode cX2_bandsOfGroups 2 = .ok (.iconst 0, 1) := by decide +kernel
theorem dX2_bandsOfGroups_3 : decode cX2_bandsOfGroups 3 = .ok (.istore 4, 2) := by decide +kernel
theorem dX2_bandsOfGroups_5 : decode cX2_bandsOfGroups 5 = .ok (.iload 4, 2) := by decide +kernel
theorem dX2_bandsOfGroups_7 : decode cX2_bandsOfGroups 7 = .ok (.getstatic 164, 3) := by decide +kernel
theorem dX2_bandsOfGroups_10 : decode cX2_bandsOfGroups 10 = .ok (.arraylength, 1) := by decide +kernel
theorem dX2_bandsOfGroups_11 : decode cX2_bandsOfGroups 11 = .ok (.if_icmp .ge 54, 3) := by decide +kernel
theorem dX2_bandsOfGroups_14 : decode cX2_bandsOfGroups 14 = .ok (.getstatic 164, 3) := by decide +kernel
theorem dX2_bandsOfGroups_17 : decode cX2_bandsOfGroups 17 = .ok (.iload 4, 2) := by decide +kernel
theorem dX2_bandsOfGroups_19 : decode cX2_bandsOfGroups 19 = .ok (.iaload, 1) := by decide +kernel
theorem dX2_bandsOfGroups_20 : decode cX2_bandsOfGroups 20 = .ok (.istore 5, 2) := by decide +kernel
theorem dX2_bandsOfGroups_22 : decode cX2_bandsOfGroups 22 = .ok (.aload_n 1, 1) := by decide +kernel
theorem dX2_bandsOfGroups_23 : decode cX2_bandsOfGroups 23 = .ok (.iload 5, 2) := by decide +kernel
theorem dX2_bandsOfGroups_25 : decode cX2_bandsOfGroups 25 = .ok (.invokevirtual 174, 3) := by decide +kernel
theorem dX2_bandsOfGroups_28 : decode cX2_bandsOfGroups 28 = .ok (.ifCond .eq 31, 3) := by decide +kernel
theorem dX2_bandsOfGroups_31 : decode cX2_bandsOfGroups 31 = .ok (.iload 5, 2) := by decide +kernel
theorem dX2_bandsOfGroups_33 : decode cX2_bandsOfGroups 33 = .ok (.iload_n 2, 1) := by decide +kernel
theorem dX2_bandsOfGroups_34 : decode cX2_bandsOfGroups 34 = .ok (.iand, 1) := by decide +kernel
theorem dX2_bandsOfGroups_35 : decode cX2_bandsOfGroups 35 = .ok (.iload_n 2, 1) := by decide +kernel
theorem dX2_bandsOfGroups_36 : decode cX2_bandsOfGroups 36 = .ok (.if_icmp .ne 23, 3) := by decide +kernel
theorem dX2_bandsOfGroups_39 : decode cX2_bandsOfGroups 39 = .ok (.aload_n 0, 1) := by decide +kernel
theorem dX2_bandsOfGroups_40 : decode cX2_bandsOfGroups 40 = .ok (.getfield 33, 3) := by decide +kernel
theorem dX2_bandsOfGroups_43 : decode cX2_bandsOfGroups 43 = .ok (.aload_n 1, 1) := by decide +kernel
theorem dX2_bandsOfGroups_44 : decode cX2_bandsOfGroups 44 = .ok (.iload 5, 2) := by decide +kernel
theorem dX2_bandsOfGroups_46 : decode cX2_bandsOfGroups 46 = .ok (.invokevirtual 177, 3) := by decide +kernel
theorem dX2_bandsOfGroups_49 : decode cX2_bandsOfGroups 49 = .ok (.iload_n 3, 1) := by decide +kernel
theorem dX2_bandsOfGroups_50 : decode cX2_bandsOfGroups 50 = .ok (.aload_n 0, 1) := by decide +kernel
theorem dX2_bandsOfGroups_51 : decode cX2_bandsOfGroups 51 = .ok (.getfield 33, 3) := by decide +kernel
theorem dX2_bandsOfGroups_54 : decode cX2_bandsOfGroups 54 = .ok (.invokevirtual 153, 3) := by decide +kernel
theorem dX2_bandsOfGroups_57 : decode cX2_bandsOfGroups 57 = .ok (.iadd, 1) := by decide +kernel
theorem dX2_bandsOfGroups_58 : decode cX2_bandsOfGroups 58 = .ok (.istore_n 3, 1) := by decide +kernel
theorem dX2_bandsOfGroups_59 : decode cX2_bandsOfGroups 59 = .ok (.iinc 4 1, 3) := by decide +kernel
theorem dX2_bandsOfGroups_62 : decode cX2_bandsOfGroups 62 = .ok (.goto (-57), 3) := by decide +kernel
theorem dX2_bandsOfGroups_65 : decode cX2_bandsOfGroups 65 = .ok (.iload_n 3, 1) := by decide +kernel
theorem dX2_bandsOfGroups_66 : decode cX2_bandsOfGroups 66 = .ok (.ireturn, 1) := by decide +kernel
theorem dX2_bestScreen_0 : decode cX2_bestScreen 0 = .ok (.aload_n 0, 1) := by decide +kernel
theorem dX2_bestScreen_1 : decode cX2_bestScreen 1 = .ok (.getfield 10, 3) := by decide +kernel
theorem dX2_bestScreen_4 : decode cX2_bestScreen 4 = .ok (.iload_n 1, 1) := by decide +kernel
theorem dX2_bestScreen_5 : decode cX2_bestScreen 5 = .ok (.invokevirtual 52, 3) := by decide +kernel
theorem dX2_bestScreen_8 : decode cX2_bestScreen 8 = .ok (.ifCond .eq 20, 3) := by decide +kernel
theorem dX2_bestScreen_11 : decode cX2_bestScreen 11 = .ok (.iload_n 2, 1) := by decide +kernel
theorem dX2_bestScreen_12 : decode cX2_bestScreen 12 = .ok (.iconst 1, 1) := by decide +kernel
theorem dX2_bestScreen_13 : decode cX2_bestScreen 13 = .ok (.if_icmp .lt 15, 3) := by decide +kernel
theorem dX2_bestScreen_16 : decode cX2_bestScreen 16 = .ok (.iload_n 3, 1) := by decide +kernel
theorem dX2_bestScreen_17 : decode cX2_bestScreen 17 = .ok (.iload_n 2, 1) := by decide +kernel
theorem dX2_bestScreen_18 : decode cX2_bestScreen 18 = .ok (.if_icmp .lt 10, 3) := by decide +kernel
theorem dX2_bestScreen_21 : decode cX2_bestScreen 21 = .ok (.iload_n 3, 1) := by decide +kernel
theorem dX2_bestScreen_22 : decode cX2_bestScreen 22 = .ok (.sipush 800, 3) := by decide +kernel
theorem dX2_bestScreen_25 : decode cX2_bestScreen 25 = .ok (.if_icmp .le 5, 3) := by decide +kernel
theorem dX2_bestScreen_28 : decode cX2_bestScreen 28 = .ok (.iconst (-1), 1) := by decide +kernel
theorem dX2_bestScreen_29 : decode cX2_bestScreen 29 = .ok (.ireturn, 1) := by decide +kernel
theorem dX2_bestScreen_30 : decode cX2_bestScreen 30 = .ok (.aload_n 0, 1) := by decide +kernel
theorem dX2_bestScreen_31 : decode cX2_bestScreen 31 = .ok (.iload_n 1, 1) := by decide +kernel
theorem dX2_bestScreen_32 : decode cX2_bestScreen 32 = .ok (.iload_n 2, 1) := by decide +kernel
theorem dX2_bestScreen_33 : decode cX2_bestScreen 33 = .ok (.iload_n 3, 1) := by decide +kernel
theorem dX2_bestScreen_34 : decode cX2_bestScreen 34 = .ok (.invokevirtual 184, 3) := by decide +kernel
theorem dX2_bestScreen_37 : decode cX2_bestScreen 37 = .ok (.ireturn, 1) := by decide +kernel
theorem dX2_bandsWithBest_0 : decode cX2_bandsWithBest 0 = .ok (.aload_n 0, 1) := by decide +kernel
theorem dX2_bandsWithBest_1 : decode cX2_bandsWithBest 1 = .ok (.iload_n 1, 1) := by decide +kernel
theorem dX2_bandsWithBest_2 : decode cX2_bandsWithBest 2 = .ok (.iload_n 2, 1) := by decide +kernel
theorem dX2_bandsWithBest_3 : decode cX2_bandsWithBest 3 = .ok (.iload_n 3, 1) := by decide +kernel
theorem dX2_bandsWithBest_4 : decode cX2_bandsWithBest 4 = .ok (.invokevirtual 187, 3) := by decide +kernel
theorem dX2_bandsWithBest_7 : decode cX2_bandsWithBest 7 = .ok (.istore 4, 2) := by decide +kernel
theorem dX2_bandsWithBest_9 : decode cX2_bandsWithBest 9 = .ok (.iload 4, 2) := by decide +kernel
theorem dX2_bandsWithBest_11 : decode cX2_bandsWithBest 11 = .ok (.ifCond .ge 6, 3) := by decide +kernel
theorem dX2_bandsWithBest_14 : decode cX2_bandsWithBest 14 = .ok (.iload 4, 2) := by decide +kernel
theorem dX2_bandsWithBest_16 : decode cX2_bandsWithBest 16 = .ok (.ireturn, 1) := by decide +kernel
theorem dX2_bandsWithBest_17 : decode cX2_bandsWithBest 17 = .ok (.aload_n 0, 1) := by decide +kernel
theorem dX2_bandsWithBest_18 : decode cX2_bandsWithBest 18 = .ok (.getfield 10, 3) := by decide +kernel
theorem dX2_bandsWithBest_21 : decode cX2_bandsWithBest 21 = .ok (.aload_n 0, 1) := by decide +kernel
theorem dX2_bandsWithBest_22 : decode cX2_bandsWithBest 22 = .ok (.getfield 16, 3) := by decide +kernel
theorem dX2_bandsWithBest_25 : decode cX2_bandsWithBest 25 = .ok (.invokestatic 190, 3) := by decide +kernel
theorem dX2_bandsWithBest_28 : decode cX2_bandsWithBest 28 = .ok (.aload_n 0, 1) := by decide +kernel
theorem dX2_bandsWithBest_29 : decode cX2_bandsWithBest 29 = .ok (.getfield 16, 3) := by decide +kernel
theorem dX2_bandsWithBest_32 : decode cX2_bandsWithBest 32 = .ok (.iload_n 1, 1) := by decide +kernel
theorem dX2_bandsWithBest_33 : decode cX2_bandsWithBest 33 = .ok (.iload 4, 2) := by decide +kernel
theorem dX2_bandsWithBest_35 : decode cX2_bandsWithBest 35 = .ok (.bipush 100, 2) := by decide +kernel
theorem dX2_bandsWithBest_37 : decode cX2_bandsWithBest 37 = .ok (.idiv, 1) := by decide +kernel
theorem dX2_bandsWithBest_38 : decode cX2_bandsWithBest 38 = .ok (.iload 4, 2) := by decide +kernel
theorem dX2_bandsWithBest_40 : decode cX2_bandsWithBest 40 = .ok (.bipush 100, 2) := by decide +kernel
theorem dX2_bandsWithBest_42 : decode cX2_bandsWithBest 42 = .ok (.irem, 1) := by decide +kernel
theorem dX2_bandsWithBest_43 : decode cX2_bandsWithBest 43 = .ok (.invokevirtual 60, 3) := by decide +kernel
theorem dX2_bandsWithBest_46 : decode cX2_bandsWithBest 46 = .ok (.aload_n 0, 1) := by decide +kernel
theorem dX2_bandsWithBest_47 : decode cX2_bandsWithBest 47 = .ok (.aload_n 0, 1) := by decide +kernel
theorem dX2_bandsWithBest_48 : decode cX2_bandsWithBest 48 = .ok (.getfield 16, 3) := by decide +kernel
theorem dX2_bandsWithBest_51 : decode cX2_bandsWithBest 51 = .ok (.iconst 0, 1) := by decide +kernel
theorem dX2_bandsWithBest_52 : decode cX2_bandsWithBest 52 = .ok (.invokevirtual 160, 3) := by decide +kernel
theorem dX2_bandsWithBest_55 : decode cX2_bandsWithBest 55 = .ok (.ireturn, 1) := by decide +kernel
theorem dX2_search_0 : decode cX2_search 0 = .ok (.aload_n 0, 1) := by decide +kernel
theorem dX2_search_1 : decode cX2_search 1 = .ok (.getfield 10, 3) := by decide +kernel
theorem dX2_search_4 : decode cX2_search 4 = .ok (.aload_n 0, 1) := by decide +kernel
theorem dX2_search_5 : decode cX2_search 5 = .ok (.getfield 16, 3) := by decide +kernel
theorem dX2_search_8 : decode cX2_search 8 = .ok (.invokestatic 190, 3) := by decide +kernel
theorem dX2_search_11 : decode cX2_search 11 = .ok (.bipush (-4), 2) := by decide +kernel
theorem dX2_search_13 : decode cX2_search 13 = .ok (.istore 4, 2) := by decide +kernel
theorem dX2_search_15 : decode cX2_search 15 = .ok (.iconst 0, 1) := by decide +kernel
theorem dX2_search_16 : decode cX2_search 16 = .ok (.istore 5, 2) := by decide +kernel
theorem dX2_search_18 : decode cX2_search 18 = .ok (.iconst 0, 1) := by decide +kernel
theorem dX2_search_19 : decode cX2_search 19 = .ok (.istore 6, 2) := by decide +kernel
theorem dX2_search_21 : decode cX2_search 21 = .ok (.iconst 1, 1) := by decide +kernel
theorem dX2_search_22 : decode cX2_search 22 = .ok (.istore 7, 2) := by decide +kernel
theorem dX2_search_24 : decode cX2_search 24 = .ok (.iload 7, 2) := by decide +kernel
theorem dX2_search_26 : decode cX2_search 26 = .ok (.bipush 20, 2) := by decide +kernel
theorem dX2_search_28 : decode cX2_search 28 = .ok (.if_icmp .gt 140, 3) := by decide +kernel
theorem dX2_search_31 : decode cX2_search 31 = .ok (.iconst 0, 1) := by decide +kernel
theorem dX2_search_32 : decode cX2_search 32 = .ok (.istore 8, 2) := by decide +kernel
theorem dX2_search_34 : decode cX2_search 34 = .ok (.iload 8, 2) := by decide +kernel
theorem dX2_search_36 : decode cX2_search 36 = .ok (.bipush 20, 2) := by decide +kernel
theorem dX2_search_38 : decode cX2_search 38 = .ok (.if_icmp .gt 124, 3) := by decide +kernel
theorem dX2_search_41 : decode cX2_search 41 = .ok (.iload 7, 2) := by decide +kernel
theorem dX2_search_43 : decode cX2_search 43 = .ok (.iload 7, 2) := by decide +kernel
theorem dX2_search_45 : decode cX2_search 45 = .ok (.imul, 1) := by decide +kernel
theorem dX2_search_46 : decode cX2_search 46 = .ok (.iload 8, 2) := by decide +kernel
theorem dX2_search_48 : decode cX2_search 48 = .ok (.iload 8, 2) := by decide +kernel
theorem dX2_search_50 : decode cX2_search 50 = .ok (.imul, 1) := by decide +kernel
theorem dX2_search_51 : decode cX2_search 51 = .ok (.iadd, 1) := by decide +kernel
theorem dX2_search_52 : decode cX2_search 52 = .ok (.istore 9, 2) := by decide +kernel
theorem dX2_search_54 : decode cX2_search 54 = .ok (.iload 9, 2) := by decide +kernel
theorem dX2_search_56 : decode cX2_search 56 = .ok (.iload_n 2, 1) := by decide +kernel
theorem dX2_search_57 : decode cX2_search 57 = .ok (.if_icmp .lt 99, 3) := by decide +kernel
theorem dX2_search_60 : decode cX2_search 60 = .ok (.iload 9, 2) := by decide +kernel
theorem dX2_search_62 : decode cX2_search 62 = .ok (.iload_n 3, 1) := by decide +kernel
theorem dX2_search_63 : decode cX2_search 63 = .ok (.if_icmp .le 6, 3) := by decide +kernel
theorem dX2_search_66 : decode cX2_search 66 = .ok (.goto 90, 3) := by decide +kernel
theorem dX2_search_69 : decode cX2_search 69 = .ok (.aload_n 0, 1) := by decide +kernel
theorem dX2_search_70 : decode cX2_search 70 = .ok (.getfield 16, 3) := by decide +kernel
theorem dX2_search_73 : decode cX2_search 73 = .ok (.iload_n 1, 1) := by decide +kernel
theorem dX2_search_74 : decode cX2_search 74 = .ok (.iload 7, 2) := by decide +kernel
theorem dX2_search_76 : decode cX2_search 76 = .ok (.iload 8, 2) := by decide +kernel
theorem dX2_search_78 : decode cX2_search 78 = .ok (.invokevirtual 60, 3) := by decide +kernel
theorem dX2_search_81 : decode cX2_search 81 = .ok (.aload_n 0, 1) := by decide +kernel
theorem dX2_search_82 : decode cX2_search 82 = .ok (.aload_n 0, 1) := by decide +kernel
theorem dX2_search_83 : decode cX2_search 83 = .ok (.getfield 16, 3) := by decide +kernel
theorem dX2_search_86 : decode cX2_search 86 = .ok (.iconst 1, 1) := by decide +kernel
theorem dX2_search_87 : decode cX2_search 87 = .ok (.iload_n 1, 1) := by decide +kernel
theorem dX2_search_88 : decode cX2_search 88 = .ok (.ishl, 1) := by decide +kernel
theorem dX2_search_89 : decode cX2_search 89 = .ok (.invokevirtual 160, 3) := by decide +kernel
theorem dX2_search_92 : decode cX2_search 92 = .ok (.istore 10, 2) := by decide +kernel
theorem dX2_search_94 : decode cX2_search 94 = .ok (.iload 9, 2) := by decide +kernel
theorem dX2_search_96 : decode cX2_search 96 = .ok (.aload_n 0, 1) := by decide +kernel
theorem dX2_search_97 : decode cX2_search 97 = .ok (.getfield 10, 3) := by decide +kernel
theorem dX2_search_100 : decode cX2_search 100 = .ok (.iload_n 1, 1) := by decide +kernel
theorem dX2_search_101 : decode cX2_search 101 = .ok (.invokevirtual 56, 3) := by decide +kernel
theorem dX2_search_104 : decode cX2_search 104 = .ok (.isub, 1) := by decide +kernel
theorem dX2_search_105 : decode cX2_search 105 = .ok (.invokestatic 194, 3) := by decide +kernel
theorem dX2_search_108 : decode cX2_search 108 = .ok (.istore 11, 2) := by decide +kernel
theorem dX2_search_110 : decode cX2_search 110 = .ok (.iload 4, 2) := by decide +kernel
theorem dX2_search_112 : decode cX2_search 112 = .ok (.bipush (-4), 2) := by decide +kernel
theorem dX2_search_114 : decode cX2_search 114 = .ok (.if_icmp .eq 24, 3) := by decide +kernel
theorem dX2_search_117 : decode cX2_search 117 = .ok (.iload 10, 2) := by decide +kernel
theorem dX2_search_119 : decode cX2_search 119 = .ok (.iload 5, 2) := by decide +kernel
theorem dX2_search_121 : decode cX2_search 121 = .ok (.if_icmp .lt 17, 3) := by decide +kernel
theorem dX2_search_124 : decode cX2_search 124 = .ok (.iload 10, 2) := by decide +kernel
theorem dX2_search_126 : decode cX2_search 126 = .ok (.iload 5, 2) := by decide +kernel
theorem dX2_search_128 : decode cX2_search 128 = .ok (.if_icmp .ne 28, 3) := by decide +kernel
theorem dX2_search_131 : decode cX2_search 131 = .ok (.iload 11, 2) := by decide +kernel
theorem dX2_search_133 : decode cX2_search 133 = .ok (.iload 6, 2) := by decide +kernel
theorem dX2_search_135 : decode cX2_search 135 = .ok (.if_icmp .ge 21, 3) := by decide +kernel
theorem dX2_search_138 : decode cX2_search 138 = .ok (.bipush 100, 2) := by decide +kernel
theorem dX2_search_140 : decode cX2_search 140 = .ok (.iload 7, 2) := by decide +kernel
theorem dX2_search_142 : decode cX2_search 142 = .ok (.imul, 1) := by decide +kernel
theorem dX2_search_143 : decode cX2_search 143 = .ok (.iload 8, 2) := by decide +kernel
theorem dX2_search_145 : decode cX2_search 145 = .ok (.iadd, 1) := by decide +kernel
theorem dX2_search_146 : decode cX2_search 146 = .ok (.istore 4, 2) := by decide +kernel
theorem dX2_search_148 : decode cX2_search 148 = .ok (.iload 10, 2) := by decide +kernel
theorem dX2_search_150 : decode cX2_search 150 = .ok (.istore 5, 2) := by decide +kernel
theorem dX2_search_152 : decode cX2_search 152 = .ok (.iload 11, 2) := by decide +kernel
theorem dX2_search_154 : decode cX2_search 154 = .ok (.istore 6, 2) := by decide +kernel
theorem dX2_search_156 : decode cX2_search 156 = .ok (.iinc 8 1, 3) := by decide +kernel
theorem dX2_search_159 : decode cX2_search 159 = .ok (.goto (-125), 3) := by decide +kernel
theorem dX2_search_162 : decode cX2_search 162 = .ok (.iinc 7 1, 3) := by decide +kernel
theorem dX2_search_165 : decode cX2_search 165 = .ok (.goto (-141), 3) := by decide +kernel
theorem dX2_search_168 : decode cX2_search 168 = .ok (.iload 4, 2) := by decide +kernel
theorem dX2_search_170 : decode cX2_search 170 = .ok (.ireturn, 1) := by decide +kernel
theorem dX2_save_0 : decode cX2_save 0 = .ok (.iload_n 1, 1) := by decide +kernel
theorem dX2_save_1 : decode cX2_save 1 = .ok (.invokestatic 199, 3) := by decide +kernel
theorem dX2_save_4 : decode cX2_save 4 = .ok (.ifCond .ne 5, 3) := by decide +kernel
theorem dX2_save_7 : decode cX2_save 7 = .ok (.iconst (-1), 1) := by decide +kernel
theorem dX2_save_8 : decode cX2_save 8 = .ok (.ireturn, 1) := by decide +kernel
theorem dX2_save_9 : decode cX2_save 9 = .ok (.aload_n 0, 1) := by decide +kernel
theorem dX2_save_10 : decode cX2_save 10 = .ok (.getfield 10, 3) := by decide +kernel
theorem dX2_save_13 : decode cX2_save 13 = .ok (.aload_n 0, 1) := by decide +kernel
theorem dX2_save_14 : decode cX2_save 14 = .ok (.getfield 23, 3) := by decide +kernel
theorem dX2_save_17 : decode cX2_save 17 = .ok (.iload_n 1, 1) := by decide +kernel
theorem dX2_save_18 : decode cX2_save 18 = .ok (.aaload, 1) := by decide +kernel
theorem dX2_save_19 : decode cX2_save 19 = .ok (.invokestatic 190, 3) := by decide +kernel
theorem dX2_save_22 : decode cX2_save 22 = .ok (.aload_n 0, 1) := by decide +kernel
theorem dX2_save_23 : decode cX2_save 23 = .ok (.getfield 26, 3) := by decide +kernel
theorem dX2_save_26 : decode cX2_save 26 = .ok (.iload_n 1, 1) := by decide +kernel
theorem dX2_save_27 : decode cX2_save 27 = .ok (.iconst 1, 1) := by decide +kernel
theorem dX2_save_28 : decode cX2_save 28 = .ok (.bastore, 1) := by decide +kernel
theorem dX2_save_29 : decode cX2_save 29 = .ok (.aload_n 0, 1) := by decide +kernel
theorem dX2_save_30 : decode cX2_save 30 = .ok (.getfield 10, 3) := by decide +kernel
theorem dX2_save_33 : decode cX2_save 33 = .ok (.getfield 41, 3) := by decide +kernel
theorem dX2_save_36 : decode cX2_save 36 = .ok (.ireturn, 1) := by decide +kernel
theorem dX2_restore_0 : decode cX2_restore 0 = .ok (.iload_n 1, 1) := by decide +kernel
theorem dX2_restore_1 : decode cX2_restore 1 = .ok (.invokestatic 199, 3) := by decide +kernel
theorem dX2_restore_4 : decode cX2_restore 4 = .ok (.ifCond .ne 5, 3) := by decide +kernel
theorem dX2_restore_7 : decode cX2_restore 7 = .ok (.iconst (-1), 1) := by decide +kernel
theorem dX2_restore_8 : decode cX2_restore 8 = .ok (.ireturn, 1) := by decide +kernel
theorem dX2_restore_9 : decode cX2_restore 9 = .ok (.aload_n 0, 1) := by decide +kernel
theorem dX2_restore_10 : decode cX2_restore 10 = .ok (.getfield 26, 3) := by decide +kernel
theorem dX2_restore_13 : decode cX2_restore 13 = .ok (.iload_n 1, 1) := by decide +kernel
theorem dX2_restore_14 : decode cX2_restore 14 = .ok (.baload, 1) := by decide +kernel
theorem dX2_restore_15 : decode cX2_restore 15 = .ok (.ifCond .ne 6, 3) := by decide +kernel
theorem dX2_restore_18 : decode cX2_restore 18 = .ok (.bipush (-2), 2) := by decide +kernel
theorem dX2_restore_20 : decode cX2_restore 20 = .ok (.ireturn, 1) := by decide +kernel
theorem dX2_restore_21 : decode cX2_restore 21 = .ok (.aload_n 0, 1) := by decide +kernel
theorem dX2_restore_22 : decode cX2_restore 22 = .ok (.invokevirtual 45, 3) := by decide +kernel
theorem dX2_restore_25 : decode cX2_restore 25 = .ok (.aload_n 0, 1) := by decide +kernel
theorem dX2_restore_26 : decode cX2_restore 26 = .ok (.getfield 23, 3) := by decide +kernel
theorem dX2_restore_29 : decode cX2_restore 29 = .ok (.iload_n 1, 1) := by decide +kernel
theorem dX2_restore_30 : decode cX2_restore 30 = .ok (.aaload, 1) := by decide +kernel
theorem dX2_restore_31 : decode cX2_restore 31 = .ok (.aload_n 0, 1) := by decide +kernel
theorem dX2_restore_32 : decode cX2_restore 32 = .ok (.getfield 10, 3) := by decide +kernel
theorem dX2_restore_35 : decode cX2_restore 35 = .ok (.invokestatic 190, 3) := by decide +kernel
theorem dX2_restore_38 : decode cX2_restore 38 = .ok (.aload_n 0, 1) := by decide +kernel
theorem dX2_restore_39 : decode cX2_restore 39 = .ok (.getfield 10, 3) := by decide +kernel
theorem dX2_restore_42 : decode cX2_restore 42 = .ok (.getfield 41, 3) := by decide +kernel
theorem dX2_restore_45 : decode cX2_restore 45 = .ok (.ireturn, 1) := by decide +kernel
theorem dX2_historySize_0 : decode cX2_historySize 0 = .ok (.aload_n 0, 1) := by decide +kernel
theorem dX2_historySize_1 : decode cX2_historySize 1 = .ok (.getfield 202, 3) := by decide +kernel
theorem dX2_historySize_4 : decode cX2_historySize 4 = .ok (.ireturn, 1) := by decide +kernel
theorem dX2_undo_0 : decode cX2_undo 0 = .ok (.aload_n 0, 1) := by decide +kernel
theorem dX2_undo_1 : decode cX2_undo 1 = .ok (.getfield 202, 3) := by decide +kernel
theorem dX2_undo_4 : decode cX2_undo 4 = .ok (.ifCond .le 11, 3) := by decide +kernel
theorem dX2_undo_7 : decode cX2_undo 7 = .ok (.aload_n 0, 1) := by decide +kernel
theorem dX2_undo_8 : decode cX2_undo 8 = .ok (.getfield 202, 3) := by decide +kernel
theorem dX2_undo_11 : decode cX2_undo 11 = .ok (.iconst 5, 1) := by decide +kernel
theorem dX2_undo_12 : decode cX2_undo 12 = .ok (.if_icmp .le 6, 3) := by decide +kernel
theorem dX2_undo_15 : decode cX2_undo 15 = .ok (.bipush (-2), 2) := by decide +kernel
theorem dX2_undo_17 : decode cX2_undo 17 = .ok (.ireturn, 1) := by decide +kernel
theorem dX2_undo_18 : decode cX2_undo 18 = .ok (.aload_n 0, 1) := by decide +kernel
theorem dX2_undo_19 : decode cX2_undo 19 = .ok (.dup, 1) := by decide +kernel
theorem dX2_undo_20 : decode cX2_undo 20 = .ok (.getfield 202, 3) := by decide +kernel
theorem dX2_undo_23 : decode cX2_undo 23 = .ok (.iconst 1, 1) := by decide +kernel
theorem dX2_undo_24 : decode cX2_undo 24 = .ok (.isub, 1) := by decide +kernel
theorem dX2_undo_25 : decode cX2_undo 25 = .ok (.putfield 202, 3) := by decide +kernel
theorem dX2_undo_28 : decode cX2_undo 28 = .ok (.aload_n 0, 1) := by decide +kernel
theorem dX2_undo_29 : decode cX2_undo 29 = .ok (.getfield 19, 3) := by decide +kernel
theorem dX2_undo_32 : decode cX2_undo 32 = .ok (.aload_n 0, 1) := by decide +kernel
theorem dX2_undo_33 : decode cX2_undo 33 = .ok (.getfield 202, 3) := by decide +kernel
theorem dX2_undo_36 : decode cX2_undo 36 = .ok (.aaload, 1) := by decide +kernel
theorem dX2_undo_37 : decode cX2_undo 37 = .ok (.aload_n 0, 1) := by decide +kernel
theorem dX2_undo_38 : decode cX2_undo 38 = .ok (.getfield 10, 3) := by decide +kernel
theorem dX2_undo_41 : decode cX2_undo 41 = .ok (.invokestatic 190, 3) := by decide +kernel
theorem dX2_undo_44 : decode cX2_undo 44 = .ok (.aload_n 0, 1) := by decide +kernel
theorem dX2_undo_45 : decode cX2_undo 45 = .ok (.getfield 202, 3) := by decide +kernel
theorem dX2_undo_48 : decode cX2_undo 48 = .ok (.ireturn, 1) := by decide +kernel
theorem dX2_isSlot_0 : decode cX2_isSlot 0 = .ok (.iload_n 0, 1) := by decide +kernel
theorem dX2_isSlot_1 : decode cX2_isSlot 1 = .ok (.ifCond .lt 12, 3) := by decide +kernel
theorem dX2_isSlot_4 : decode cX2_isSlot 4 = .ok (.iload_n 0, 1) := by decide +kernel
theorem dX2_isSlot_5 : decode cX2_isSlot 5 = .ok (.iconst 2, 1) := by decide +kernel
theorem dX2_isSlot_6 : decode cX2_isSlot 6 = .ok (.if_icmp .ge 7, 3) := by decide +kernel
theorem dX2_isSlot_9 : decode cX2_isSlot 9 = .ok (.iconst 1, 1) := by decide +kernel
theorem dX2_isSlot_10 : decode cX2_isSlot 10 = .ok (.goto 4, 3) := by decide +kernel
theorem dX2_isSlot_13 : decode cX2_isSlot 13 = .ok (.iconst 0, 1) := by decide +kernel
theorem dX2_isSlot_14 : decode cX2_isSlot 14 = .ok (.ireturn, 1) := by decide +kernel
theorem dX2_record_0 : decode cX2_record 0 = .ok (.aload_n 0, 1) := by decide +kernel
theorem dX2_record_1 : decode cX2_record 1 = .ok (.getfield 202, 3) := by decide +kernel
theorem dX2_record_4 : decode cX2_record 4 = .ok (.iconst 5, 1) := by decide +kernel
theorem dX2_record_5 : decode cX2_record 5 = .ok (.if_icmp .lt 7, 3) := by decide +kernel
theorem dX2_record_8 : decode cX2_record 8 = .ok (.aload_n 0, 1) := by decide +kernel
theorem dX2_record_9 : decode cX2_record 9 = .ok (.invokevirtual 205, 3) := by decide +kernel
theorem dX2_record_12 : decode cX2_record 12 = .ok (.aload_n 0, 1) := by decide +kernel
theorem dX2_record_13 : decode cX2_record 13 = .ok (.getfield 10, 3) := by decide +kernel
theorem dX2_record_16 : decode cX2_record 16 = .ok (.aload_n 0, 1) := by decide +kernel
theorem dX2_record_17 : decode cX2_record 17 = .ok (.getfield 19, 3) := by decide +kernel
theorem dX2_record_20 : decode cX2_record 20 = .ok (.aload_n 0, 1) := by decide +kernel
theorem dX2_record_21 : decode cX2_record 21 = .ok (.getfield 202, 3) := by decide +kernel
theorem dX2_record_24 : decode cX2_record 24 = .ok (.aaload, 1) := by decide +kernel
theorem dX2_record_25 : decode cX2_record 25 = .ok (.invokestatic 190, 3) := by decide +kernel
theorem dX2_record_28 : decode cX2_record 28 = .ok (.aload_n 0, 1) := by decide +kernel
theorem dX2_record_29 : decode cX2_record 29 = .ok (.dup, 1) := by decide +kernel
theorem dX2_record_30 : decode cX2_record 30 = .ok (.getfield 202, 3) := by decide +kernel
theorem dX2_record_33 : decode cX2_record 33 = .ok (.iconst 1, 1) := by decide +kernel
theorem dX2_record_34 : decode cX2_record 34 = .ok (.iadd, 1) := by decide +kernel
theorem dX2_record_35 : decode cX2_record 35 = .ok (.putfield 202, 3) := by decide +kernel
theorem dX2_record_38 : decode cX2_record 38 = .ok (.return_, 1) := by decide +kernel
theorem dX2_dropOldest_0 : decode cX2_dropOldest 0 = .ok (.aload_n 0, 1) := by decide +kernel
theorem dX2_dropOldest_1 : decode cX2_dropOldest 1 = .ok (.getfield 19, 3) := by decide +kernel
theorem dX2_dropOldest_4 : decode cX2_dropOldest 4 = .ok (.iconst 0, 1) := by decide +kernel
theorem dX2_dropOldest_5 : decode cX2_dropOldest 5 = .ok (.aaload, 1) := by decide +kernel
theorem dX2_dropOldest_6 : decode cX2_dropOldest 6 = .ok (.astore_n 1, 1) := by decide +kernel
theorem dX2_dropOldest_7 : decode cX2_dropOldest 7 = .ok (.iconst 1, 1) := by decide +kernel
theorem dX2_dropOldest_8 : decode cX2_dropOldest 8 = .ok (.istore_n 2, 1) := by decide +kernel
theorem dX2_dropOldest_9 : decode cX2_dropOldest 9 = .ok (.iload_n 2, 1) := by decide +kernel
theorem dX2_dropOldest_10 : decode cX2_dropOldest 10 = .ok (.iconst 5, 1) := by decide +kernel
theorem dX2_dropOldest_11 : decode cX2_dropOldest 11 = .ok (.if_icmp .ge 23, 3) := by decide +kernel
theorem dX2_dropOldest_14 : decode cX2_dropOldest 14 = .ok (.aload_n 0, 1) := by decide +kernel
theorem dX2_dropOldest_15 : decode cX2_dropOldest 15 = .ok (.getfield 19, 3) := by decide +kernel
theorem dX2_dropOldest_18 : decode cX2_dropOldest 18 = .ok (.iload_n 2, 1) := by decide +kernel
theorem dX2_dropOldest_19 : decode cX2_dropOldest 19 = .ok (.iconst 1, 1) := by decide +kernel
theorem dX2_dropOldest_20 : decode cX2_dropOldest 20 = .ok (.isub, 1) := by decide +kernel
theorem dX2_dropOldest_21 : decode cX2_dropOldest 21 = .ok (.aload_n 0, 1) := by decide +kernel
theorem dX2_dropOldest_22 : decode cX2_dropOldest 22 = .ok (.getfield 19, 3) := by decide +kernel
theorem dX2_dropOldest_25 : decode cX2_dropOldest 25 = .ok (.iload_n 2, 1) := by decide +kernel
theorem dX2_dropOldest_26 : decode cX2_dropOldest 26 = .ok (.aaload, 1) := by decide +kernel
theorem dX2_dropOldest_27 : decode cX2_dropOldest 27 = .ok (.aastore, 1) := by decide +kernel
theorem dX2_dropOldest_28 : decode cX2_dropOldest 28 = .ok (.iinc 2 1, 3) := by decide +kernel
theorem dX2_dropOldest_31 : decode cX2_dropOldest 31 = .ok (.goto (-22), 3) := by decide +kernel
theorem dX2_dropOldest_34 : decode cX2_dropOldest 34 = .ok (.aload_n 0, 1) := by decide +kernel
theorem dX2_dropOldest_35 : decode cX2_dropOldest 35 = .ok (.getfield 19, 3) := by decide +kernel
theorem dX2_dropOldest_38 : decode cX2_dropOldest 38 = .ok (.iconst 4, 1) := by decide +kernel
theorem dX2_dropOldest_39 : decode cX2_dropOldest 39 = .ok (.aload_n 1, 1) := by decide +kernel
theorem dX2_dropOldest_40 : decode cX2_dropOldest 40 = .ok (.aastore, 1) := by decide +kernel
theorem dX2_dropOldest_41 : decode cX2_dropOldest 41 = .ok (.aload_n 0, 1) := by decide +kernel
theorem dX2_dropOldest_42 : decode cX2_dropOldest 42 = .ok (.iconst 4, 1) := by decide +kernel
theorem dX2_dropOldest_43 : decode cX2_dropOldest 43 = .ok (.putfield 202, 3) := by decide +kernel
theorem dX2_dropOldest_46 : decode cX2_dropOldest 46 = .ok (.return_, 1) := by decide +kernel
theorem dX2_copy_0 : decode cX2_copy 0 = .ok (.aload_n 0, 1) := by decide +kernel
theorem dX2_copy_1 : decode cX2_copy 1 = .ok (.ifnull 7, 3) := by decide +kernel
theorem dX2_copy_4 : decode cX2_copy 4 = .ok (.aload_n 1, 1) := by decide +kernel
theorem dX2_copy_5 : decode cX2_copy 5 = .ok (.ifnonnull 4, 3) := by decide +kernel
theorem dX2_copy_8 : decode cX2_copy 8 = .ok (.return_, 1) := by decide +kernel
theorem dX2_copy_9 : decode cX2_copy 9 = .ok (.iconst 0, 1) := by decide +kernel
theorem dX2_copy_10 : decode cX2_copy 10 = .ok (.istore_n 2, 1) := by decide +kernel
theorem dX2_copy_11 : decode cX2_copy 11 = .ok (.iload_n 2, 1) := by decide +kernel
theorem dX2_copy_12 : decode cX2_copy 12 = .ok (.iconst 4, 1) := by decide +kernel
theorem dX2_copy_13 : decode cX2_copy 13 = .ok (.if_icmp .ge 33, 3) := by decide +kernel
theorem dX2_copy_16 : decode cX2_copy 16 = .ok (.aload_n 1, 1) := by decide +kernel
theorem dX2_copy_17 : decode cX2_copy 17 = .ok (.getfield 208, 3) := by decide +kernel
theorem dX2_copy_20 : decode cX2_copy 20 = .ok (.iload_n 2, 1) := by decide +kernel
theorem dX2_copy_21 : decode cX2_copy 21 = .ok (.aload_n 0, 1) := by decide +kernel
theorem dX2_copy_22 : decode cX2_copy 22 = .ok (.getfield 208, 3) := by decide +kernel
theorem dX2_copy_25 : decode cX2_copy 25 = .ok (.iload_n 2, 1) := by decide +kernel
theorem dX2_copy_26 : decode cX2_copy 26 = .ok (.iaload, 1) := by decide +kernel
theorem dX2_copy_27 : decode cX2_copy 27 = .ok (.iastore, 1) := by decide +kernel
theorem dX2_copy_28 : decode cX2_copy 28 = .ok (.aload_n 1, 1) := by decide +kernel
theorem dX2_copy_29 : decode cX2_copy 29 = .ok (.getfield 211, 3) := by decide +kernel
theorem dX2_copy_32 : decode cX2_copy 32 = .ok (.iload_n 2, 1) := by decide +kernel
theorem dX2_copy_33 : decode cX2_copy 33 = .ok (.aload_n 0, 1) := by decide +kernel
theorem dX2_copy_34 : decode cX2_copy 34 = .ok (.getfield 211, 3) := by decide +kernel
theorem dX2_copy_37 : decode cX2_copy 37 = .ok (.iload_n 2, 1) := by decide +kernel
theorem dX2_copy_38 : decode cX2_copy 38 = .ok (.iaload, 1) := by decide +kernel
theorem dX2_copy_39 : decode cX2_copy 39 = .ok (.iastore, 1) := by decide +kernel
theorem dX2_copy_40 : decode cX2_copy 40 = .ok (.iinc 2 1, 3) := by decide +kernel
theorem dX2_copy_43 : decode cX2_copy 43 = .ok (.goto (-32), 3) := by decide +kernel
theorem dX2_copy_46 : decode cX2_copy 46 = .ok (.aload_n 1, 1) := by decide +kernel
theorem dX2_copy_47 : decode cX2_copy 47 = .ok (.aload_n 0, 1) := by decide +kernel
theorem dX2_copy_48 : decode cX2_copy 48 = .ok (.getfield 41, 3) := by decide +kernel
theorem dX2_copy_51 : decode cX2_copy 51 = .ok (.putfield 41, 3) := by decide +kernel
theorem dX2_copy_54 : decode cX2_copy 54 = .ok (.aload_n 1, 1) := by decide +kernel
theorem dX2_copy_55 : decode cX2_copy 55 = .ok (.aload_n 0, 1) := by decide +kernel
theorem dX2_copy_56 : decode cX2_copy 56 = .ok (.getfield 88, 3) := by decide +kernel
theorem dX2_copy_59 : decode cX2_copy 59 = .ok (.putfield 88, 3) := by decide +kernel
theorem dX2_copy_62 : decode cX2_copy 62 = .ok (.aload_n 1, 1) := by decide +kernel
theorem dX2_copy_63 : decode cX2_copy 63 = .ok (.aload_n 0, 1) := by decide +kernel
theorem dX2_copy_64 : decode cX2_copy 64 = .ok (.getfield 91, 3) := by decide +kernel
theorem dX2_copy_67 : decode cX2_copy 67 = .ok (.putfield 91, 3) := by decide +kernel
theorem dX2_copy_70 : decode cX2_copy 70 = .ok (.aload_n 1, 1) := by decide +kernel
theorem dX2_copy_71 : decode cX2_copy 71 = .ok (.aload_n 0, 1) := by decide +kernel
theorem dX2_copy_72 : decode cX2_copy 72 = .ok (.getfield 94, 3) := by decide +kernel
theorem dX2_copy_75 : decode cX2_copy 75 = .ok (.putfield 94, 3) := by decide +kernel
theorem dX2_copy_78 : decode cX2_copy 78 = .ok (.return_, 1) := by decide +kernel
theorem dX2_realPart_0 : decode cX2_realPart 0 = .ok (.iload_n 2, 1) := by decide +kernel
theorem dX2_realPart_1 : decode cX2_realPart 1 = .ok (.iload_n 0, 1) := by decide +kernel
theorem dX2_realPart_2 : decode cX2_realPart 2 = .ok (.imul, 1) := by decide +kernel
theorem dX2_realPart_3 : decode cX2_realPart 3 = .ok (.iload_n 3, 1) := by decide +kernel
theorem dX2_realPart_4 : decode cX2_realPart 4 = .ok (.iload_n 1, 1) := by decide +kernel
theorem dX2_realPart_5 : decode cX2_realPart 5 = .ok (.imul, 1) := by decide +kernel
theorem dX2_realPart_6 : decode cX2_realPart 6 = .ok (.iadd, 1) := by decide +kernel
theorem dX2_realPart_7 : decode cX2_realPart 7 = .ok (.ireturn, 1) := by decide +kernel
theorem dX2_imaginaryPart_0 : decode cX2_imaginaryPart 0 = .ok (.iload_n 3, 1) := by decide +kernel
theorem dX2_imaginaryPart_1 : decode cX2_imaginaryPart 1 = .ok (.iload_n 0, 1) := by decide +kernel
theorem dX2_imaginaryPart_2 : decode cX2_imaginaryPart 2 = .ok (.imul, 1) := by decide +kernel
theorem dX2_imaginaryPart_3 : decode cX2_imaginaryPart 3 = .ok (.iload_n 2, 1) := by decide +kernel
theorem dX2_imaginaryPart_4 : decode cX2_imaginaryPart 4 = .ok (.iload_n 1, 1) := by decide +kernel
theorem dX2_imaginaryPart_5 : decode cX2_imaginaryPart 5 = .ok (.imul, 1) := by decide +kernel
theorem dX2_imaginaryPart_6 : decode cX2_imaginaryPart 6 = .ok (.isub, 1) := by decide +kernel
theorem dX2_imaginaryPart_7 : decode cX2_imaginaryPart 7 = .ok (.ireturn, 1) := by decide +kernel
theorem dX2_gcd_0 : decode cX2_gcd 0 = .ok (.lload_n 0, 1) := by decide +kernel
theorem dX2_gcd_1 : decode cX2_gcd 1 = .ok (.lstore 4, 2) := by decide +kernel
theorem dX2_gcd_3 : decode cX2_gcd 3 = .ok (.lload_n 2, 1) := by decide +kernel
theorem dX2_gcd_4 : decode cX2_gcd 4 = .ok (.lstore 6, 2) := by decide +kernel
theorem dX2_gcd_6 : decode cX2_gcd 6 = .ok (.iconst 0, 1) := by decide +kernel
theorem dX2_gcd_7 : decode cX2_gcd 7 = .ok (.istore 8, 2) := by decide +kernel
theorem dX2_gcd_9 : decode cX2_gcd 9 = .ok (.iload 8, 2) := by decide +kernel
theorem dX2_gcd_11 : decode cX2_gcd 11 = .ok (.bipush 100, 2) := by decide +kernel
theorem dX2_gcd_13 : decode cX2_gcd 13 = .ok (.if_icmp .ge 31, 3) := by decide +kernel
theorem dX2_gcd_16 : decode cX2_gcd 16 = .ok (.lload 6, 2) := by decide +kernel
theorem dX2_gcd_18 : decode cX2_gcd 18 = .ok (.lconst 0, 1) := by decide +kernel
theorem dX2_gcd_19 : decode cX2_gcd 19 = .ok (.lcmp, 1) := by decide +kernel
theorem dX2_gcd_20 : decode cX2_gcd 20 = .ok (.ifCond .eq 24, 3) := by decide +kernel
theorem dX2_gcd_23 : decode cX2_gcd 23 = .ok (.lload 4, 2) := by decide +kernel
theorem dX2_gcd_25 : decode cX2_gcd 25 = .ok (.lload 6, 2) := by decide +kernel
theorem dX2_gcd_27 : decode cX2_gcd 27 = .ok (.lrem, 1) := by decide +kernel
theorem dX2_gcd_28 : decode cX2_gcd 28 = .ok (.lstore 9, 2) := by decide +kernel
theorem dX2_gcd_30 : decode cX2_gcd 30 = .ok (.lload 6, 2) := by decide +kernel
theorem dX2_gcd_32 : decode cX2_gcd 32 = .ok (.lstore 4, 2) := by decide +kernel
theorem dX2_gcd_34 : decode cX2_gcd 34 = .ok (.lload 9, 2) := by decide +kernel
theorem dX2_gcd_36 : decode cX2_gcd 36 = .ok (.lstore 6, 2) := by decide +kernel
theorem dX2_gcd_38 : decode cX2_gcd 38 = .ok (.iinc 8 1, 3) := by decide +kernel
theorem dX2_gcd_41 : decode cX2_gcd 41 = .ok (.goto (-32), 3) := by decide +kernel
theorem dX2_gcd_44 : decode cX2_gcd 44 = .ok (.lload 4, 2) := by decide +kernel
theorem dX2_gcd_46 : decode cX2_gcd 46 = .ok (.lreturn, 1) := by decide +kernel
theorem dX2_divided_0 : decode cX2_divided 0 = .ok (.lload_n 2, 1) := by decide +kernel
theorem dX2_divided_1 : decode cX2_divided 1 = .ok (.lconst 0, 1) := by decide +kernel
theorem dX2_divided_2 : decode cX2_divided 2 = .ok (.lcmp, 1) := by decide +kernel
theorem dX2_divided_3 : decode cX2_divided 3 = .ok (.ifCond .le 9, 3) := by decide +kernel
theorem dX2_divided_6 : decode cX2_divided 6 = .ok (.lload_n 0, 1) := by decide +kernel
theorem dX2_divided_7 : decode cX2_divided 7 = .ok (.lload_n 2, 1) := by decide +kernel
theorem dX2_divided_8 : decode cX2_divided 8 = .ok (.ldiv, 1) := by decide +kernel
theorem dX2_divided_9 : decode cX2_divided 9 = .ok (.goto 4, 3) := by decide +kernel
theorem dX2_divided_12 : decode cX2_divided 12 = .ok (.lconst 0, 1) := by decide +kernel
theorem dX2_divided_13 : decode cX2_divided 13 = .ok (.lreturn, 1) := by decide +kernel
theorem dX2_root_0 : decode cX2_root 0 = .ok (.iconst 0, 1) := by decide +kernel
theorem dX2_root_1 : decode cX2_root 1 = .ok (.istore_n 2, 1) := by decide +kernel
theorem dX2_root_2 : decode cX2_root 2 = .ok (.sipush 16384, 3) := by decide +kernel
theorem dX2_root_5 : decode cX2_root 5 = .ok (.istore_n 3, 1) := by decide +kernel
theorem dX2_root_6 : decode cX2_root 6 = .ok (.iload_n 3, 1) := by decide +kernel
theorem dX2_root_7 : decode cX2_root 7 = .ok (.ifCond .le 30, 3) := by decide +kernel
theorem dX2_root_10 : decode cX2_root 10 = .ok (.iload_n 2, 1) := by decide +kernel
theorem dX2_root_11 : decode cX2_root 11 = .ok (.iload_n 3, 1) := by decide +kernel
theorem dX2_root_12 : decode cX2_root 12 = .ok (.iadd, 1) := by decide +kernel
theorem dX2_root_13 : decode cX2_root 13 = .ok (.i2l, 1) := by decide +kernel
theorem dX2_root_14 : decode cX2_root 14 = .ok (.lstore 4, 2) := by decide +kernel
theorem dX2_root_16 : decode cX2_root 16 = .ok (.lload 4, 2) := by decide +kernel
theorem dX2_root_18 : decode cX2_root 18 = .ok (.lload 4, 2) := by decide +kernel
theorem dX2_root_20 : decode cX2_root 20 = .ok (.lmul, 1) := by decide +kernel
theorem dX2_root_21 : decode cX2_root 21 = .ok (.lload_n 0, 1) := by decide +kernel
theorem dX2_root_22 : decode cX2_root 22 = .ok (.lcmp, 1) := by decide +kernel
theorem dX2_root_23 : decode cX2_root 23 = .ok (.ifCond .gt 7, 3) := by decide +kernel
theorem dX2_root_26 : decode cX2_root 26 = .ok (.iload_n 2, 1) := by decide +kernel
theorem dX2_root_27 : decode cX2_root 27 = .ok (.iload_n 3, 1) := by decide +kernel
theorem dX2_root_28 : decode cX2_root 28 = .ok (.iadd, 1) := by decide +kernel
theorem dX2_root_29 : decode cX2_root 29 = .ok (.istore_n 2, 1) := by decide +kernel
theorem dX2_root_30 : decode cX2_root 30 = .ok (.iload_n 3, 1) := by decide +kernel
theorem dX2_root_31 : decode cX2_root 31 = .ok (.iconst 1, 1) := by decide +kernel
theorem dX2_root_32 : decode cX2_root 32 = .ok (.ishr, 1) := by decide +kernel
theorem dX2_root_33 : decode cX2_root 33 = .ok (.istore_n 3, 1) := by decide +kernel
theorem dX2_root_34 : decode cX2_root 34 = .ok (.goto (-28), 3) := by decide +kernel
theorem dX2_root_37 : decode cX2_root 37 = .ok (.iload_n 2, 1) := by decide +kernel
theorem dX2_root_38 : decode cX2_root 38 = .ok (.ireturn, 1) := by decide +kernel
end
section
theorem dX3_init_0 : decode cX3_init 0 = .ok (.aload_n 0, 1) := by decide +kernel
theorem dX3_init_1 : decode cX3_init 1 = .ok (.invokespecial 1, 3) := by decide +kernel
theorem dX3_init_4 : decode cX3_init 4 = .ok (.aload_n 0, 1) := by decide +kernel
theorem dX3_init_5 : decode cX3_init 5 = .ok (.bipush 12, 2) := by decide +kernel
theorem dX3_init_7 : decode cX3_init 7 = .ok (.newarray .int, 2) := by decide +kernel
theorem dX3_init_9 : decode cX3_init 9 = .ok (.putfield 7, 3) := by decide +kernel
theorem dX3_init_12 : decode cX3_init 12 = .ok (.aload_n 0, 1) := by decide +kernel
theorem dX3_init_13 : decode cX3_init 13 = .ok (.bipush 60, 2) := by decide +kernel
theorem dX3_init_15 : decode cX3_init 15 = .ok (.newarray .int, 2) := by decide +kernel
theorem dX3_init_17 : decode cX3_init 17 = .ok (.putfield 13, 3) := by decide +kernel
theorem dX3_init_20 : decode cX3_init 20 = .ok (.aload_n 0, 1) := by decide +kernel
theorem dX3_init_21 : decode cX3_init 21 = .ok (.bipush 26, 2) := by decide +kernel
theorem dX3_init_23 : decode cX3_init 23 = .ok (.newarray .int, 2) := by decide +kernel
theorem dX3_init_25 : decode cX3_init 25 = .ok (.putfield 16, 3) := by decide +kernel
theorem dX3_init_28 : decode cX3_init 28 = .ok (.aload_n 0, 1) := by decide +kernel
theorem dX3_init_29 : decode cX3_init 29 = .ok (.sipush 576, 3) := by decide +kernel
theorem dX3_init_32 : decode cX3_init 32 = .ok (.newarray .long, 2) := by decide +kernel
theorem dX3_init_34 : decode cX3_init 34 = .ok (.putfield 19, 3) := by decide +kernel
theorem dX3_init_37 : decode cX3_init 37 = .ok (.aload_n 0, 1) := by decide +kernel
theorem dX3_init_38 : decode cX3_init 38 = .ok (.getfield 7, 3) := by decide +kernel
theorem dX3_init_41 : decode cX3_init 41 = .ok (.iconst 1, 1) := by decide +kernel
theorem dX3_init_42 : decode cX3_init 42 = .ok (.iconst 1, 1) := by decide +kernel
theorem dX3_init_43 : decode cX3_init 43 = .ok (.iastore, 1) := by decide +kernel
theorem dX3_init_44 : decode cX3_init 44 = .ok (.aload_n 0, 1) := by decide +kernel
theorem dX3_init_45 : decode cX3_init 45 = .ok (.getfield 7, 3) := by decide +kernel
theorem dX3_init_48 : decode cX3_init 48 = .ok (.iconst 2, 1) := by decide +kernel
theorem dX3_init_49 : decode cX3_init 49 = .ok (.bipush 10, 2) := by decide +kernel
theorem dX3_init_51 : decode cX3_init 51 = .ok (.iastore, 1) := by decide +kernel
theorem dX3_init_52 : decode cX3_init 52 = .ok (.aload_n 0, 1) := by decide +kernel
theorem dX3_init_53 : decode cX3_init 53 = .ok (.getfield 7, 3) := by decide +kernel
theorem dX3_init_56 : decode cX3_init 56 = .ok (.iconst 3, 1) := by decide +kernel
theorem dX3_init_57 : decode cX3_init 57 = .ok (.sipush 500, 3) := by decide +kernel
theorem dX3_init_60 : decode cX3_init 60 = .ok (.iastore, 1) := by decide +kernel
theorem dX3_init_61 : decode cX3_init 61 = .ok (.return_, 1) := by decide +kernel
theorem dX3_in_0 : decode cX3_in 0 = .ok (.iload_n 0, 1) := by decide +kernel
theorem dX3_in_1 : decode cX3_in 1 = .ok (.iload_n 1, 1) := by decide +kernel
theorem dX3_in_2 : decode cX3_in 2 = .ok (.if_icmp .lt 12, 3) := by decide +kernel
theorem dX3_in_5 : decode cX3_in 5 = .ok (.iload_n 0, 1) := by decide +kernel
theorem dX3_in_6 : decode cX3_in 6 = .ok (.iload_n 2, 1) := by decide +kernel
theorem dX3_in_7 : decode cX3_in 7 = .ok (.if_icmp .gt 7, 3) := by decide +kernel
theorem dX3_in_10 : decode cX3_in 10 = .ok (.iconst 1, 1) := by decide +kernel
theorem dX3_in_11 : decode cX3_in 11 = .ok (.goto 4, 3) := by decide +kernel
theorem dX3_in_14 : decode cX3_in 14 = .ok (.iconst 0, 1) := by decide +kernel
theorem dX3_in_15 : decode cX3_in 15 = .ok (.ireturn, 1) := by decide +kernel
theorem dX3_records_0 : decode cX3_records 0 = .ok (.aload_n 0, 1) := by decide +kernel
theorem dX3_records_1 : decode cX3_records 1 = .ok (.getfield 23, 3) := by decide +kernel
theorem dX3_records_4 : decode cX3_records 4 = .ok (.iconst 5, 1) := by decide +kernel
theorem dX3_records_5 : decode cX3_records 5 = .ok (.if_icmp .ne 42, 3) := by decide +kernel
theorem dX3_records_8 : decode cX3_records 8 = .ok (.iconst 0, 1) := by decide +kernel
theorem dX3_records_9 : decode cX3_records 9 = .ok (.istore_n 1, 1) := by decide +kernel
theorem dX3_records_10 : decode cX3_records 10 = .ok (.iload_n 1, 1) := by decide +kernel
theorem dX3_records_11 : decode cX3_records 11 = .ok (.bipush 48, 2) := by decide +kernel
theorem dX3_records_13 : decode cX3_records 13 = .ok (.if_icmp .ge 24, 3) := by decide +kernel
theorem dX3_records_16 : decode cX3_records 16 = .ok (.aload_n 0, 1) := by decide +kernel
theorem dX3_records_17 : decode cX3_records 17 = .ok (.getfield 13, 3) := by decide +kernel
theorem dX3_records_20 : decode cX3_records 20 = .ok (.iload_n 1, 1) := by decide +kernel
theorem dX3_records_21 : decode cX3_records 21 = .ok (.aload_n 0, 1) := by decide +kernel
theorem dX3_records_22 : decode cX3_records 22 = .ok (.getfield 13, 3) := by decide +kernel
theorem dX3_records_25 : decode cX3_records 25 = .ok (.iload_n 1, 1) := by decide +kernel
theorem dX3_records_26 : decode cX3_records 26 = .ok (.bipush 12, 2) := by decide +kernel
theorem dX3_records_28 : decode cX3_records 28 = .ok (.iadd, 1) := by decide +kernel
theorem dX3_records_29 : decode cX3_records 29 = .ok (.iaload, 1) := by decide +kernel
theorem dX3_records_30 : decode cX3_records 30 = .ok (.iastore, 1) := by decide +kernel
theorem dX3_records_31 : decode cX3_records 31 = .ok (.iinc 1 1, 3) := by decide +kernel
theorem dX3_records_34 : decode cX3_records 34 = .ok (.goto (-24), 3) := by decide +kernel
theorem dX3_records_37 : decode cX3_records 37 = .ok (.aload_n 0, 1) := by decide +kernel
theorem dX3_records_38 : decode cX3_records 38 = .ok (.dup, 1) := by decide +kernel
theorem dX3_records_39 : decode cX3_records 39 = .ok (.getfield 23, 3) := by decide +kernel
theorem dX3_records_42 : decode cX3_records 42 = .ok (.iconst 1, 1) := by decide +kernel
theorem dX3_records_43 : decode cX3_records 43 = .ok (.isub, 1) := by decide +kernel
theorem dX3_records_44 : decode cX3_records 44 = .ok (.putfield 23, 3) := by decide +kernel
theorem dX3_records_47 : decode cX3_records 47 = .ok (.iconst 0, 1) := by decide +kernel
theorem dX3_records_48 : decode cX3_records 48 = .ok (.istore_n 1, 1) := by decide +kernel
theorem dX3_records_49 : decode cX3_records 49 = .ok (.iload_n 1, 1) := by decide +kernel
theorem dX3_records_50 : decode cX3_records 50 = .ok (.bipush 12, 2) := by decide +kernel
theorem dX3_records_52 : decode cX3_records 52 = .ok (.if_icmp .ge 29, 3) := by decide +kernel
theorem dX3_records_55 : decode cX3_records 55 = .ok (.aload_n 0, 1) := by decide +kernel
theorem dX3_records_56 : decode cX3_records 56 = .ok (.getfield 13, 3) := by decide +kernel
theorem dX3_records_59 : decode cX3_records 59 = .ok (.bipush 12, 2) := by decide +kernel
theorem dX3_records_61 : decode cX3_records 61 = .ok (.aload_n 0, 1) := by decide +kernel
theorem dX3_records_62 : decode cX3_records 62 = .ok (.getfield 23, 3) := by decide +kernel
theorem dX3_records_65 : decode cX3_records 65 = .ok (.imul, 1) := by decide +kernel
theorem dX3_records_66 : decode cX3_records 66 = .ok (.iload_n 1, 1) := by decide +kernel
theorem dX3_records_67 : decode cX3_records 67 = .ok (.iadd, 1) := by decide +kernel
theorem dX3_records_68 : decode cX3_records 68 = .ok (.aload_n 0, 1) := by decide +kernel
theorem dX3_records_69 : decode cX3_records 69 = .ok (.getfield 7, 3) := by decide +kernel
theorem dX3_records_72 : decode cX3_records 72 = .ok (.iload_n 1, 1) := by decide +kernel
theorem dX3_records_73 : decode cX3_records 73 = .ok (.iaload, 1) := by decide +kernel
theorem dX3_records_74 : decode cX3_records 74 = .ok (.iastore, 1) := by decide +kernel
theorem dX3_records_75 : decode cX3_records 75 = .ok (.iinc 1 1, 3) := by decide +kernel
theorem dX3_records_78 : decode cX3_records 78 = .ok (.goto (-29), 3) := by decide +kernel
theorem dX3_records_81 : decode cX3_records 81 = .ok (.aload_n 0, 1) := by decide +kernel
theorem dX3_records_82 : decode cX3_records 82 = .ok (.dup, 1) := by decide +kernel
theorem dX3_records_83 : decode cX3_records 83 = .ok (.getfield 23, 3) := by decide +kernel
theorem dX3_records_86 : decode cX3_records 86 = .ok (.iconst 1, 1) := by decide +kernel
theorem dX3_records_87 : decode cX3_records 87 = .ok (.iadd, 1) := by decide +kernel
theorem dX3_records_88 : decode cX3_records 88 = .ok (.putfield 23, 3) := by decide +kernel
theorem dX3_records_91 : decode cX3_records 91 = .ok (.return_, 1) := by decide +kernel
theorem dX3_isPlate_0 : decode cX3_isPlate 0 = .ok (.iload_n 1, 1) := by decide +kernel
theorem dX3_isPlate_1 : decode cX3_isPlate 1 = .ok (.iconst 0, 1) := by decide +kernel
theorem dX3_isPlate_2 : decode cX3_isPlate 2 = .ok (.aload_n 0, 1) := by decide +kernel
theorem dX3_isPlate_3 : decode cX3_isPlate 3 = .ok (.getfield 7, 3) := by decide +kernel
theorem dX3_isPlate_6 : decode cX3_isPlate 6 = .ok (.iconst 0, 1) := by decide +kernel
theorem dX3_isPlate_7 : decode cX3_isPlate 7 = .ok (.iaload, 1) := by decide +kernel
theorem dX3_isPlate_8 : decode cX3_isPlate 8 = .ok (.iconst 1, 1) := by decide +kernel
theorem dX3_isPlate_9 : decode cX3_isPlate 9 = .ok (.isub, 1) := by decide +kernel
theorem dX3_isPlate_10 : decode cX3_isPlate 10 = .ok (.invokestatic 27, 3) := by decide +kernel
theorem dX3_isPlate_13 : decode cX3_isPlate 13 = .ok (.ireturn, 1) := by decide +kernel
theorem dX3_isPair_0 : decode cX3_isPair 0 = .ok (.aload_n 0, 1) := by decide +kernel
theorem dX3_isPair_1 : decode cX3_isPair 1 = .ok (.iload_n 1, 1) := by decide +kernel
theorem dX3_isPair_2 : decode cX3_isPair 2 = .ok (.invokevirtual 31, 3) := by decide +kernel
theorem dX3_isPair_5 : decode cX3_isPair 5 = .ok (.ifCond .eq 20, 3) := by decide +kernel
theorem dX3_isPair_8 : decode cX3_isPair 8 = .ok (.aload_n 0, 1) := by decide +kernel
theorem dX3_isPair_9 : decode cX3_isPair 9 = .ok (.iload_n 2, 1) := by decide +kernel
theorem dX3_isPair_10 : decode cX3_isPair 10 = .ok (.invokevirtual 31, 3) := by decide +kernel
theorem dX3_isPair_13 : decode cX3_isPair 13 = .ok (.ifCond .eq 12, 3) := by decide +kernel
theorem dX3_isPair_16 : decode cX3_isPair 16 = .ok (.iload_n 1, 1) := by decide +kernel
theorem dX3_isPair_17 : decode cX3_isPair 17 = .ok (.iload_n 2, 1) := by decide +kernel
theorem dX3_isPair_18 : decode cX3_isPair 18 = .ok (.if_icmp .ge 7, 3) := by decide +kernel
theorem dX3_isPair_21 : decode cX3_isPair 21 = .ok (.iconst 1, 1) := by decide +kernel
theorem dX3_isPair_22 : decode cX3_isPair 22 = .ok (.goto 4, 3) := by decide +kernel
theorem dX3_isPair_25 : decode cX3_isPair 25 = .ok (.iconst 0, 1) := by decide +kernel
theorem dX3_isPair_26 : decode cX3_isPair 26 = .ok (.ireturn, 1) := by decide +kernel
theorem dX3_isVector_0 : decode cX3_isVector 0 = .ok (.iload_n 0, 1) := by decide +kernel
theorem dX3_isVector_1 : decode cX3_isVector 1 = .ok (.iconst 1, 1) := by decide +kernel
theorem dX3_isVector_2 : decode cX3_isVector 2 = .ok (.bipush 20, 2) := by decide +kernel
theorem dX3_isVector_4 : decode cX3_isVector 4 = .ok (.invokestatic 27, 3) := by decide +kernel
theorem dX3_isVector_7 : decode cX3_isVector 7 = .ok (.ifCond .eq 17, 3) := by decide +kernel
theorem dX3_isVector_10 : decode cX3_isVector 10 = .ok (.iload_n 1, 1) := by decide +kernel
theorem dX3_isVector_11 : decode cX3_isVector 11 = .ok (.iconst 0, 1) := by decide +kernel
theorem dX3_isVector_12 : decode cX3_isVector 12 = .ok (.bipush 20, 2) := by decide +kernel
theorem dX3_isVector_14 : decode cX3_isVector 14 = .ok (.invokestatic 27, 3) := by decide +kernel
theorem dX3_isVector_17 : decode cX3_isVector 17 = .ok (.ifCond .eq 7, 3) := by decide +kernel
theorem dX3_isVector_20 : decode cX3_isVector 20 = .ok (.iconst 1, 1) := by decide +kernel
theorem dX3_isVector_21 : decode cX3_isVector 21 = .ok (.goto 4, 3) := by decide +kernel
theorem dX3_isVector_24 : decode cX3_isVector 24 = .ok (.iconst 0, 1) := by decide +kernel
theorem dX3_isVector_25 : decode cX3_isVector 25 = .ok (.ireturn, 1) := by decide +kernel
theorem dX3_firstOf_0 : decode cX3_firstOf 0 = .ok (.aload_n 0, 1) := by decide +kernel
theorem dX3_firstOf_1 : decode cX3_firstOf 1 = .ok (.getfield 7, 3) := by decide +kernel
theorem dX3_firstOf_4 : decode cX3_firstOf 4 = .ok (.iconst 4, 1) := by decide +kernel
theorem dX3_firstOf_5 : decode cX3_firstOf 5 = .ok (.iconst 2, 1) := by decide +kernel
theorem dX3_firstOf_6 : decode cX3_firstOf 6 = .ok (.iload_n 1, 1) := by decide +kernel
theorem dX3_firstOf_7 : decode cX3_firstOf 7 = .ok (.imul, 1) := by decide +kernel
theorem dX3_firstOf_8 : decode cX3_firstOf 8 = .ok (.iadd, 1) := by decide +kernel
theorem dX3_firstOf_9 : decode cX3_firstOf 9 = .ok (.iaload, 1) := by decide +kernel
theorem dX3_firstOf_10 : decode cX3_firstOf 10 = .ok (.ireturn, 1) := by decide +kernel
theorem dX3_secondOf_0 : decode cX3_secondOf 0 = .ok (.aload_n 0, 1) := by decide +kernel
theorem dX3_secondOf_1 : decode cX3_secondOf 1 = .ok (.getfield 7, 3) := by decide +kernel
theorem dX3_secondOf_4 : decode cX3_secondOf 4 = .ok (.iconst 4, 1) := by decide +kernel
theorem dX3_secondOf_5 : decode cX3_secondOf 5 = .ok (.iconst 2, 1) := by decide +kernel
theorem dX3_secondOf_6 : decode cX3_secondOf 6 = .ok (.iload_n 1, 1) := by decide +kernel
theorem dX3_secondOf_7 : decode cX3_secondOf 7 = .ok (.imul, 1) := by decide +kernel
theorem dX3_secondOf_8 : decode cX3_secondOf 8 = .ok (.iadd, 1) := by decide +kernel
theorem dX3_secondOf_9 : decode cX3_secondOf 9 = .ok (.iconst 1, 1) := by decide +kernel
theorem dX3_secondOf_10 : decode cX3_secondOf 10 = .ok (.iadd, 1) := by decide +kernel
theorem dX3_secondOf_11 : decode cX3_secondOf 11 = .ok (.iaload, 1) := by decide +kernel
theorem dX3_secondOf_12 : decode cX3_secondOf 12 = .ok (.ireturn, 1) := by decide +kernel
theorem dX3_areaOf_0 : decode cX3_areaOf 0 = .ok (.aload_n 0, 1) := by decide +kernel
theorem dX3_areaOf_1 : decode cX3_areaOf 1 = .ok (.iload_n 1, 1) := by decide +kernel
theorem dX3_areaOf_2 : decode cX3_areaOf 2 = .ok (.invokevirtual 35, 3) := by decide +kernel
theorem dX3_areaOf_5 : decode cX3_areaOf 5 = .ok (.aload_n 0, 1) := by decide +kernel
theorem dX3_areaOf_6 : decode cX3_areaOf 6 = .ok (.iload_n 1, 1) := by decide +kernel
theorem dX3_areaOf_7 : decode cX3_areaOf 7 = .ok (.invokevirtual 35, 3) := by decide +kernel
theorem dX3_areaOf_10 : decode cX3_areaOf 10 = .ok (.imul, 1) := by decide +kernel
theorem dX3_areaOf_11 : decode cX3_areaOf 11 = .ok (.aload_n 0, 1) := by decide +kernel
theorem dX3_areaOf_12 : decode cX3_areaOf 12 = .ok (.iload_n 1, 1) := by decide +kernel
theorem dX3_areaOf_13 : decode cX3_areaOf 13 = .ok (.invokevirtual 39, 3) := by decide +kernel
theorem dX3_areaOf_16 : decode cX3_areaOf 16 = .ok (.aload_n 0, 1) := by decide +kernel
theorem dX3_areaOf_17 : decode cX3_areaOf 17 = .ok (.iload_n 1, 1) := by decide +kernel
theorem dX3_areaOf_18 : decode cX3_areaOf 18 = .ok (.invokevirtual 39, 3) := by decide +kernel
theorem dX3_areaOf_21 : decode cX3_areaOf 21 = .ok (.imul, 1) := by decide +kernel
theorem dX3_areaOf_22 : decode cX3_areaOf 22 = .ok (.iadd, 1) := by decide +kernel
theorem dX3_areaOf_23 : decode cX3_areaOf 23 = .ok (.ireturn, 1) := by decide +kernel
theorem dX3_common_0 : decode cX3_common 0 = .ok (.lload_n 0, 1) := by decide +kernel
theorem dX3_common_1 : decode cX3_common 1 = .ok (.lstore 4, 2) := by decide +kernel
theorem dX3_common_3 : decode cX3_common 3 = .ok (.lload_n 2, 1) := by decide +kernel
theorem dX3_common_4 : decode cX3_common 4 = .ok (.lstore 6, 2) := by decide +kernel
theorem dX3_common_6 : decode cX3_common 6 = .ok (.lload 6, 2) := by decide +kernel
theorem dX3_common_8 : decode cX3_common 8 = .ok (.lconst 0, 1) := by decide +kernel
theorem dX3_common_9 : decode cX3_common 9 = .ok (.lcmp, 1) := by decide +kernel
theorem dX3_common_10 : decode cX3_common 10 = .ok (.ifCond .eq 21, 3) := by decide +kernel
theorem dX3_common_13 : decode cX3_common 13 = .ok (.lload 4, 2) := by decide +kernel
theorem dX3_common_15 : decode cX3_common 15 = .ok (.lload 6, 2) := by decide +kernel
theorem dX3_common_17 : decode cX3_common 17 = .ok (.lrem, 1) := by decide +kernel
theorem dX3_common_18 : decode cX3_common 18 = .ok (.lstore 8, 2) := by decide +kernel
theorem dX3_common_20 : decode cX3_common 20 = .ok (.lload 6, 2) := by decide +kernel
theorem dX3_common_22 : decode cX3_common 22 = .ok (.lstore 4, 2) := by decide +kernel
theorem dX3_common_24 : decode cX3_common 24 = .ok (.lload 8, 2) := by decide +kernel
theorem dX3_common_26 : decode cX3_common 26 = .ok (.lstore 6, 2) := by decide +kernel
theorem dX3_common_28 : decode cX3_common 28 = .ok (.goto (-22), 3) := by decide +kernel
theorem dX3_common_31 : decode cX3_common 31 = .ok (.lload 4, 2) := by decide +kernel
theorem dX3_common_33 : decode cX3_common 33 = .ok (.lreturn, 1) := by decide +kernel
theorem dX3_addPlate_0 : decode cX3_addPlate 0 = .ok (.iload_n 1, 1) := by decide +kernel
theorem dX3_addPlate_1 : decode cX3_addPlate 1 = .ok (.iload_n 2, 1) := by decide +kernel
theorem dX3_addPlate_2 : decode cX3_addPlate 2 = .ok (.invokestatic 42, 3) := by decide +kernel
theorem dX3_addPlate_5 : decode cX3_addPlate 5 = .ok (.ifCond .ne 5, 3) := by decide +kernel
theorem dX3_addPlate_8 : decode cX3_addPlate 8 = .ok (.iconst (-1), 1) := by decide +kernel
theorem dX3_addPlate_9 : decode cX3_addPlate 9 = .ok (.ireturn, 1) := by decide +kernel
theorem dX3_addPlate_10 : decode cX3_addPlate 10 = .ok (.aload_n 0, 1) := by decide +kernel
theorem dX3_addPlate_11 : decode cX3_addPlate 11 = .ok (.getfield 7, 3) := by decide +kernel
theorem dX3_addPlate_14 : decode cX3_addPlate 14 = .ok (.iconst 0, 1) := by decide +kernel
theorem dX3_addPlate_15 : decode cX3_addPlate 15 = .ok (.iaload, 1) := by decide +kernel
theorem dX3_addPlate_16 : decode cX3_addPlate 16 = .ok (.iconst 4, 1) := by decide +kernel
theorem dX3_addPlate_17 : decode cX3_addPlate 17 = .ok (.if_icmp .ne 6, 3) := by decide +kernel
theorem dX3_addPlate_20 : decode cX3_addPlate 20 = .ok (.bipush (-3), 2) := by decide +kernel
theorem dX3_addPlate_22 : decode cX3_addPlate 22 = .ok (.ireturn, 1) := by decide +kernel
theorem dX3_addPlate_23 : decode cX3_addPlate 23 = .ok (.aload_n 0, 1) := by decide +kernel
theorem dX3_addPlate_24 : decode cX3_addPlate 24 = .ok (.invokevirtual 46, 3) := by decide +kernel
theorem dX3_addPlate_27 : decode cX3_addPlate 27 = .ok (.aload_n 0, 1) := by decide +kernel
theorem dX3_addPlate_28 : decode cX3_addPlate 28 = .ok (.getfield 7, 3) := by decide +kernel
theorem dX3_addPlate_31 : decode cX3_addPlate 31 = .ok (.iconst 0, 1) := by decide +kernel
theorem dX3_addPlate_32 : decode cX3_addPlate 32 = .ok (.iaload, 1) := by decide +kernel
theorem dX3_addPlate_33 : decode cX3_addPlate 33 = .ok (.istore_n 3, 1) := by decide +kernel
theorem dX3_addPlate_34 : decode cX3_addPlate 34 = .ok (.aload_n 0, 1) := by decide +kernel
theorem dX3_addPlate_35 : decode cX3_addPlate 35 = .ok (.getfield 7, 3) := by decide +kernel
theorem dX3_addPlate_38 : decode cX3_addPlate 38 = .ok (.iconst 4, 1) := by decide +kernel
theorem dX3_addPlate_39 : decode cX3_addPlate 39 = .ok (.iconst 2, 1) := by decide +kernel
theorem dX3_addPlate_40 : decode cX3_addPlate 40 = .ok (.iload_n 3, 1) := by decide +kernel
theorem dX3_addPlate_41 : decode cX3_addPlate 41 = .ok (.imul, 1) := by decide +kernel
theorem dX3_addPlate_42 : decode cX3_addPlate 42 = .ok (.iadd, 1) := by decide +kernel
theorem dX3_addPlate_43 : decode cX3_addPlate 43 = .ok (.iload_n 1, 1) := by decide +kernel
theorem dX3_addPlate_44 : decode cX3_addPlate 44 = .ok (.iastore, 1) := by decide +kernel
theorem dX3_addPlate_45 : decode cX3_addPlate 45 = .ok (.aload_n 0, 1) := by decide +kernel
theorem dX3_addPlate_46 : decode cX3_addPlate 46 = .ok (.getfield 7, 3) := by decide +kernel
theorem dX3_addPlate_49 : decode cX3_addPlate 49 = .ok (.iconst 4, 1) := by decide +kernel
theorem dX3_addPlate_50 : decode cX3_addPlate 50 = .ok (.iconst 2, 1) := by decide +kernel
theorem dX3_addPlate_51 : decode cX3_addPlate 51 = .ok (.iload_n 3, 1) := by decide +kernel
theorem dX3_addPlate_52 : decode cX3_addPlate 52 = .ok (.imul, 1) := by decide +kernel
theorem dX3_addPlate_53 : decode cX3_addPlate 53 = .ok (.iadd, 1) := by decide +kernel
theorem dX3_addPlate_54 : decode cX3_addPlate 54 = .ok (.iconst 1, 1) := by decide +kernel
theorem dX3_addPlate_55 : decode cX3_addPlate 55 = .ok (.iadd, 1) := by decide +kernel
theorem dX3_addPlate_56 : decode cX3_addPlate 56 = .ok (.iload_n 2, 1) := by decide +kernel
theorem dX3_addPlate_57 : decode cX3_addPlate 57 = .ok (.iastore, 1) := by decide +kernel
theorem dX3_addPlate_58 : decode cX3_addPlate 58 = .ok (.aload_n 0, 1) := by decide +kernel
theorem dX3_addPlate_59 : decode cX3_addPlate 59 = .ok (.getfield 7, 3) := by decide +kernel
theorem dX3_addPlate_62 : decode cX3_addPlate 62 = .ok (.iconst 0, 1) := by decide +kernel
theorem dX3_addPlate_63 : decode cX3_addPlate 63 = .ok (.dup2, 1) := by decide +kernel
theorem dX3_addPlate_64 : decode cX3_addPlate 64 = .ok (.iaload, 1) := by decide +kernel
theorem dX3_addPlate_65 : decode cX3_addPlate 65 = .ok (.iconst 1, 1) := by decide +kernel
theorem dX3_addPlate_66 : decode cX3_addPlate 66 = .ok (.iadd, 1) := by decide +kernel
theorem dX3_addPlate_67 : decode cX3_addPlate 67 = .ok (.iastore, 1) := by decide +kernel
theorem dX3_addPlate_68 : decode cX3_addPlate 68 = .ok (.iload_n 3, 1) := by decide +kernel
theorem dX3_addPlate_69 : decode cX3_addPlate 69 = .ok (.ireturn, 1) := by decide +kernel
theorem dX3_setScreen_0 : decode cX3_setScreen 0 = .ok (.aload_n 0, 1) := by decide +kernel
theorem dX3_setScreen_1 : decode cX3_setScreen 1 = .ok (.iload_n 1, 1) := by decide +kernel
theorem dX3_setScreen_2 : decode cX3_setScreen 2 = .ok (.invokevirtual 31, 3) := by decide +kernel
theorem dX3_setScreen_5 : decode cX3_setScreen 5 = .ok (.ifCond .eq 11, 3) := by decide +kernel
theorem dX3_setScreen_8 : decode cX3_setScreen 8 = .ok (.iload_n 2, 1) := by decide +kernel
theorem dX3_setScreen_9 : decode cX3_setScreen 9 = .ok (.iload_n 3, 1) := by decide +kernel
theorem dX3_setScreen_10 : decode cX3_setScreen 10 = .ok (.invokestatic 42, 3) := by decide +kernel
theorem dX3_setScreen_13 : decode cX3_setScreen 13 = .ok (.ifCond .ne 5, 3) := by decide +kernel
theorem dX3_setScreen_16 : decode cX3_setScreen 16 = .ok (.iconst (-1), 1) := by decide +kernel
theorem dX3_setScreen_17 : decode cX3_setScreen 17 = .ok (.ireturn, 1) := by decide +kernel
theorem dX3_setScreen_18 : decode cX3_setScreen 18 = .ok (.aload_n 0, 1) := by decide +kernel
theorem dX3_setScreen_19 : decode cX3_setScreen 19 = .ok (.invokevirtual 46, 3) := by decide +kernel
theorem dX3_setScreen_22 : decode cX3_setScreen 22 = .ok (.aload_n 0, 1) := by decide +kernel
theorem dX3_setScreen_23 : decode cX3_setScreen 23 = .ok (.iload_n 1, 1) := by decide +kernel
theorem dX3_setScreen_24 : decode cX3_setScreen 24 = .ok (.invokevirtual 49, 3) := by decide +kernel
theorem dX3_setScreen_27 : decode cX3_setScreen 27 = .ok (.istore 4, 2) := by decide +kernel
theorem dX3_setScreen_29 : decode cX3_setScreen 29 = .ok (.aload_n 0, 1) := by decide +kernel
theorem dX3_setScreen_30 : decode cX3_setScreen 30 = .ok (.getfield 7, 3) := by decide +kernel
theorem dX3_setScreen_33 : decode cX3_setScreen 33 = .ok (.iconst 4, 1) := by decide +kernel
theorem dX3_setScreen_34 : decode cX3_setScreen 34 = .ok (.iconst 2, 1) := by decide +kernel
theorem dX3_setScreen_35 : decode cX3_setScreen 35 = .ok (.iload_n 1, 1) := by decide +kernel
theorem dX3_setScreen_36 : decode cX3_setScreen 36 = .ok (.imul, 1) := by decide +kernel
theorem dX3_setScreen_37 : decode cX3_setScreen 37 = .ok (.iadd, 1) := by decide +kernel
theorem dX3_setScreen_38 : decode cX3_setScreen 38 = .ok (.iload_n 2, 1) := by decide +kernel
theorem dX3_setScreen_39 : decode cX3_setScreen 39 = .ok (.iastore, 1) := by decide +kernel
theorem dX3_setScreen_40 : decode cX3_setScreen 40 = .ok (.aload_n 0, 1) := by decide +kernel
theorem dX3_setScreen_41 : decode cX3_setScreen 41 = .ok (.getfield 7, 3) := by decide +kernel
theorem dX3_setScreen_44 : decode cX3_setScreen 44 = .ok (.iconst 4, 1) := by decide +kernel
theorem dX3_setScreen_45 : decode cX3_setScreen 45 = .ok (.iconst 2, 1) := by decide +kernel
theorem dX3_setScreen_46 : decode cX3_setScreen 46 = .ok (.iload_n 1, 1) := by decide +kernel
theorem dX3_setScreen_47 : decode cX3_setScreen 47 = .ok (.imul, 1) := by decide +kernel
theorem dX3_setScreen_48 : decode cX3_setScreen 48 = .ok (.iadd, 1) := by decide +kernel
theorem dX3_setScreen_49 : decode cX3_setScreen 49 = .ok (.iconst 1, 1) := by decide +kernel
theorem dX3_setScreen_50 : decode cX3_setScreen 50 = .ok (.iadd, 1) := by decide +kernel
theorem dX3_setScreen_51 : decode cX3_setScreen 51 = .ok (.iload_n 3, 1) := by decide +kernel
theorem dX3_setScreen_52 : decode cX3_setScreen 52 = .ok (.iastore, 1) := by decide +kernel
theorem dX3_setScreen_53 : decode cX3_setScreen 53 = .ok (.iload 4, 2) := by decide +kernel
theorem dX3_setScreen_55 : decode cX3_setScreen 55 = .ok (.ireturn, 1) := by decide +kernel
theorem dX3_removePlate_0 : decode cX3_removePlate 0 = .ok (.aload_n 0, 1) := by decide +kernel
theorem dX3_removePlate_1 : decode cX3_removePlate 1 = .ok (.iload_n 1, 1) := by decide +kernel
theorem dX3_removePlate_2 : decode cX3_removePlate 2 = .ok (.invokevirtual 31, 3) := by decide +kernel
theorem dX3_removePlate_5 : decode cX3_removePlate 5 = .ok (.ifCond .ne 5, 3) := by decide +kernel
theorem dX3_removePlate_8 : decode cX3_removePlate 8 = .ok (.iconst (-1), 1) := by decide +kernel
theorem dX3_removePlate_9 : decode cX3_removePlate 9 = .ok (.ireturn, 1) := by decide +kernel
theorem dX3_removePlate_10 : decode cX3_removePlate 10 = .ok (.aload_n 0, 1) := by decide +kernel
theorem dX3_removePlate_11 : decode cX3_removePlate 11 = .ok (.invokevirtual 46, 3) := by decide +kernel
theorem dX3_removePlate_14 : decode cX3_removePlate 14 = .ok (.iconst 4, 1) := by decide +kernel
theorem dX3_removePlate_15 : decode cX3_removePlate 15 = .ok (.iconst 2, 1) := by decide +kernel
theorem dX3_removePlate_16 : decode cX3_removePlate 16 = .ok (.iload_n 1, 1) := by decide +kernel
theorem dX3_removePlate_17 : decode cX3_removePlate 17 = .ok (.imul, 1) := by decide +kernel
theorem dX3_removePlate_18 : decode cX3_removePlate 18 = .ok (.iadd, 1) := by decide +kernel
theorem dX3_removePlate_19 : decode cX3_removePlate 19 = .ok (.istore_n 2, 1) := by decide +kernel
theorem dX3_removePlate_20 : decode cX3_removePlate 20 = .ok (.iload_n 2, 1) := by decide +kernel
theorem dX3_removePlate_21 : decode cX3_removePlate 21 = .ok (.bipush 10, 2) := by decide +kernel
theorem dX3_removePlate_23 : decode cX3_removePlate 23 = .ok (.if_icmp .ge 23, 3) := by decide +kernel
theorem dX3_removePlate_26 : decode cX3_removePlate 26 = .ok (.aload_n 0, 1) := by decide +kernel
theorem dX3_removePlate_27 : decode cX3_removePlate 27 = .ok (.getfield 7, 3) := by decide +kernel
theorem dX3_removePlate_30 : decode cX3_removePlate 30 = .ok (.iload_n 2, 1) := by decide +kernel
theorem dX3_removePlate_31 : decode cX3_removePlate 31 = .ok (.aload_n 0, 1) := by decide +kernel
theorem dX3_removePlate_32 : decode cX3_removePlate 32 = .ok (.getfield 7, 3) := by decide +kernel
theorem dX3_removePlate_35 : decode cX3_removePlate 35 = .ok (.iload_n 2, 1) := by decide +kernel
theorem dX3_removePlate_36 : decode cX3_removePlate 36 = .ok (.iconst 2, 1) := by decide +kernel
theorem dX3_removePlate_37 : decode cX3_removePlate 37 = .ok (.iadd, 1) := by decide +kernel
theorem dX3_removePlate_38 : decode cX3_removePlate 38 = .ok (.iaload, 1) := by decide +kernel
theorem dX3_removePlate_39 : decode cX3_removePlate 39 = .ok (.iastore, 1) := by decide +kernel
theorem dX3_removePlate_40 : decode cX3_removePlate 40 = .ok (.iinc 2 1, 3) := by decide +kernel
theorem dX3_removePlate_43 : decode cX3_removePlate 43 = .ok (.goto (-23), 3) := by decide +kernel
theorem dX3_removePlate_46 : decode cX3_removePlate 46 = .ok (.aload_n 0, 1) := by decide +kernel
theorem dX3_removePlate_47 : decode cX3_removePlate 47 = .ok (.getfield 7, 3) := by decide +kernel
theorem dX3_removePlate_50 : decode cX3_removePlate 50 = .ok (.iconst 0, 1) := by decide +kernel
theorem dX3_removePlate_51 : decode cX3_removePlate 51 = .ok (.dup2, 1) := by decide +kernel
theorem dX3_removePlate_52 : decode cX3_removePlate 52 = .ok (.iaload, 1) := by decide +kernel
theorem dX3_removePlate_53 : decode cX3_removePlate 53 = .ok (.iconst 1, 1) := by decide +kernel
theorem dX3_removePlate_54 : decode cX3_removePlate 54 = .ok (.isub, 1) := by decide +kernel
theorem dX3_removePlate_55 : decode cX3_removePlate 55 = .ok (.iastore, 1) := by decide +kernel
theorem dX3_removePlate_56 : decode cX3_removePlate 56 = .ok (.aload_n 0, 1) := by decide +kernel
theorem dX3_removePlate_57 : decode cX3_removePlate 57 = .ok (.getfield 7, 3) := by decide +kernel
theorem dX3_removePlate_60 : decode cX3_removePlate 60 = .ok (.iconst 0, 1) := by decide +kernel
theorem dX3_removePlate_61 : decode cX3_removePlate 61 = .ok (.iaload, 1) := by decide +kernel
theorem dX3_removePlate_62 : decode cX3_removePlate 62 = .ok (.ireturn, 1) := by decide +kernel
theorem dX3_plateCount_0 : decode cX3_plateCount 0 = .ok (.aload_n 0, 1) := by decide +kernel
theorem dX3_plateCount_1 : decode cX3_plateCount 1 = .ok (.getfield 7, 3) := by decide +kernel
theorem dX3_plateCount_4 : decode cX3_plateCount 4 = .ok (.iconst 0, 1) := by decide +kernel
theorem dX3_plateCount_5 : decode cX3_plateCount 5 = .ok (.iaload, 1) := by decide +kernel
theorem dX3_plateCount_6 : decode cX3_plateCount 6 = .ok (.ireturn, 1) := by decide +kernel
theorem dX3_cellP_0 : decode cX3_cellP 0 = .ok (.aload_n 0, 1) := by decide +kernel
theorem dX3_cellP_1 : decode cX3_cellP 1 = .ok (.iload_n 1, 1) := by decide +kernel
theorem dX3_cellP_2 : decode cX3_cellP 2 = .ok (.invokevirtual 31, 3) := by decide +kernel
theorem dX3_cellP_5 : decode cX3_cellP 5 = .ok (.ifCond .eq 11, 3) := by decide +kernel
theorem dX3_cellP_8 : decode cX3_cellP 8 = .ok (.aload_n 0, 1) := by decide +kernel
theorem dX3_cellP_9 : decode cX3_cellP 9 = .ok (.iload_n 1, 1) := by decide +kernel
theorem dX3_cellP_10 : decode cX3_cellP 10 = .ok (.invokevirtual 35, 3) := by decide +kernel
theorem dX3_cellP_13 : decode cX3_cellP 13 = .ok (.goto 4, 3) := by decide +kernel
theorem dX3_cellP_16 : decode cX3_cellP 16 = .ok (.iconst (-1), 1) := by decide +kernel
theorem dX3_cellP_17 : decode cX3_cellP 17 = .ok (.ireturn, 1) := by decide +kernel
theorem dX3_cellQ_0 : decode cX3_cellQ 0 = .ok (.aload_n 0, 1) := by decide +kernel
theorem dX3_cellQ_1 : decode cX3_cellQ 1 = .ok (.iload_n 1, 1) := by decide +kernel
theorem dX3_cellQ_2 : decode cX3_cellQ 2 = .ok (.invokevirtual 31, 3) := by decide +kernel
theorem dX3_cellQ_5 : decode cX3_cellQ 5 = .ok (.ifCond .eq 11, 3) := by decide +kernel
theorem dX3_cellQ_8 : decode cX3_cellQ 8 = .ok (.aload_n 0, 1) := by decide +kernel
theorem dX3_cellQ_9 : decode cX3_cellQ 9 = .ok (.iload_n 1, 1) := by decide +kernel
theorem dX3_cellQ_10 : decode cX3_cellQ 10 = .ok (.invokevirtual 39, 3) := by decide +kernel
theorem dX3_cellQ_13 : decode cX3_cellQ 13 = .ok (.goto 4, 3) := by decide +kernel
theorem dX3_cellQ_16 : decode cX3_cellQ 16 = .ok (.iconst (-1), 1) := by decide +kernel
theorem dX3_cellQ_17 : decode cX3_cellQ 17 = .ok (.ireturn, 1) := by decide +kernel
theorem dX3_cellArea_0 : decode cX3_cellArea 0 = .ok (.aload_n 0, 1) := by decide +kernel
theorem dX3_cellArea_1 : decode cX3_cellArea 1 = .ok (.iload_n 1, 1) := by decide +kernel
theorem dX3_cellArea_2 : decode cX3_cellArea 2 = .ok (.invokevirtual 31, 3) := by decide +kernel
theorem dX3_cellArea_5 : decode cX3_cellArea 5 = .ok (.ifCond .eq 11, 3) := by decide +kernel
theorem dX3_cellArea_8 : decode cX3_cellArea 8 = .ok (.aload_n 0, 1) := by decide +kernel
theorem dX3_cellArea_9 : decode cX3_cellArea 9 = .ok (.iload_n 1, 1) := by decide +kernel
theorem dX3_cellArea_10 : decode cX3_cellArea 10 = .ok (.invokevirtual 49, 3) := by decide +kernel
theorem dX3_cellArea_13 : decode cX3_cellArea 13 = .ok (.goto 4, 3) := by decide +kernel
theorem dX3_cellArea_16 : decode cX3_cellArea 16 = .ok (.iconst (-1), 1) := by decide +kernel
theorem dX3_cellArea_17 : decode cX3_cellArea 17 = .ok (.ireturn, 1) := by decide +kernel
theorem dX3_tileOf_0 : decode cX3_tileOf 0 = .ok (.aload_n 0, 1) := by decide +kernel
theorem dX3_tileOf_1 : decode cX3_tileOf 1 = .ok (.iload_n 1, 1) := by decide +kernel
theorem dX3_tileOf_2 : decode cX3_tileOf 2 = .ok (.invokevirtual 49, 3) := by decide +kernel
theorem dX3_tileOf_5 : decode cX3_tileOf 5 = .ok (.aload_n 0, 1) := by decide +kernel
theorem dX3_tileOf_6 : decode cX3_tileOf 6 = .ok (.iload_n 1, 1) := by decide +kernel
theorem dX3_tileOf_7 : decode cX3_tileOf 7 = .ok (.invokevirtual 35, 3) := by decide +kernel
theorem dX3_tileOf_10 : decode cX3_tileOf 10 = .ok (.i2l, 1) := by decide +kernel
theorem dX3_tileOf_11 : decode cX3_tileOf 11 = .ok (.aload_n 0, 1) := by decide +kernel
theorem dX3_tileOf_12 : decode cX3_tileOf 12 = .ok (.iload_n 1, 1) := by decide +kernel
theorem dX3_tileOf_13 : decode cX3_tileOf 13 = .ok (.invokevirtual 39, 3) := by decide +kernel
theorem dX3_tileOf_16 : decode cX3_tileOf 16 = .ok (.i2l, 1) := by decide +kernel
theorem dX3_tileOf_17 : decode cX3_tileOf 17 = .ok (.invokestatic 52, 3) := by decide +kernel
theorem dX3_tileOf_20 : decode cX3_tileOf 20 = .ok (.l2i, 1) := by decide +kernel
theorem dX3_tileOf_21 : decode cX3_tileOf 21 = .ok (.idiv, 1) := by decide +kernel
theorem dX3_tileOf_22 : decode cX3_tileOf 22 = .ok (.ireturn, 1) := by decide +kernel
theorem dX3_tile_0 : decode cX3_tile 0 = .ok (.aload_n 0, 1) := by decide +kernel
theorem dX3_tile_1 : decode cX3_tile 1 = .ok (.iload_n 1, 1) := by decide +kernel
theorem dX3_tile_2 : decode cX3_tile 2 = .ok (.invokevirtual 31, 3) := by decide +kernel
theorem dX3_tile_5 : decode cX3_tile 5 = .ok (.ifCond .eq 11, 3) := by decide +kernel
theorem dX3_tile_8 : decode cX3_tile 8 = .ok (.aload_n 0, 1) := by decide +kernel
theorem dX3_tile_9 : decode cX3_tile 9 = .ok (.iload_n 1, 1) := by decide +kernel
theorem dX3_tile_10 : decode cX3_tile 10 = .ok (.invokevirtual 56, 3) := by decide +kernel
theorem dX3_tile_13 : decode cX3_tile 13 = .ok (.goto 4, 3) := by decide +kernel
theorem dX3_tile_16 : decode cX3_tile 16 = .ok (.iconst (-1), 1) := by decide +kernel
theorem dX3_tile_17 : decode cX3_tile 17 = .ok (.ireturn, 1) := by decide +kernel
theorem dX3_commonTile_0 : decode cX3_commonTile 0 = .ok (.lconst 1, 1) := by decide +kernel
theorem dX3_commonTile_1 : decode cX3_commonTile 1 = .ok (.lstore_n 1, 1) := by decide +kernel
theorem dX3_commonTile_2 : decode cX3_commonTile 2 = .ok (.iconst 0, 1) := by decide +kernel
theorem dX3_commonTile_3 : decode cX3_commonTile 3 = .ok (.istore_n 3, 1) := by decide +kernel
theorem dX3_commonTile_4 : decode cX3_commonTile 4 = .ok (.iload_n 3, 1) := by decide +kernel
theorem dX3_commonTile_5 : decode cX3_commonTile 5 = .ok (.aload_n 0, 1) := by decide +kernel
theorem dX3_commonTile_6 : decode cX3_commonTile 6 = .ok (.getfield 7, 3) := by decide +kernel
theorem dX3_commonTile_9 : decode cX3_commonTile 9 = .ok (.iconst 0, 1) := by decide +kernel
theorem dX3_commonTile_10 : decode cX3_commonTile 10 = .ok (.iaload, 1) := by decide +kernel
theorem dX3_commonTile_11 : decode cX3_commonTile 11 = .ok (.if_icmp .ge 29, 3) := by decide +kernel
theorem dX3_commonTile_14 : decode cX3_commonTile 14 = .ok (.lload_n 1, 1) := by decide +kernel
theorem dX3_commonTile_15 : decode cX3_commonTile 15 = .ok (.lload_n 1, 1) := by decide +kernel
theorem dX3_commonTile_16 : decode cX3_commonTile 16 = .ok (.aload_n 0, 1) := by decide +kernel
theorem dX3_commonTile_17 : decode cX3_commonTile 17 = .ok (.iload_n 3, 1) := by decide +kernel
theorem dX3_commonTile_18 : decode cX3_commonTile 18 = .ok (.invokevirtual 56, 3) := by decide +kernel
theorem dX3_commonTile_21 : decode cX3_commonTile 21 = .ok (.i2l, 1) := by decide +kernel
theorem dX3_commonTile_22 : decode cX3_commonTile 22 = .ok (.invokestatic 52, 3) := by decide +kernel
theorem dX3_commonTile_25 : decode cX3_commonTile 25 = .ok (.ldiv, 1) := by decide +kernel
theorem dX3_commonTile_26 : decode cX3_commonTile 26 = .ok (.aload_n 0, 1) := by decide +kernel
theorem dX3_commonTile_27 : decode cX3_commonTile 27 = .ok (.iload_n 3, 1) := by decide +kernel
theorem dX3_commonTile_28 : decode cX3_commonTile 28 = .ok (.invokevirtual 56, 3) := by decide +kernel
theorem dX3_commonTile_31 : decode cX3_commonTile 31 = .ok (.i2l, 1) := by decide +kernel
theorem dX3_commonTile_32 : decode cX3_commonTile 32 = .ok (.lmul, 1) := by decide +kernel
theorem dX3_commonTile_33 : decode cX3_commonTile 33 = .ok (.lstore_n 1, 1) := by decide +kernel
theorem dX3_commonTile_34 : decode cX3_commonTile 34 = .ok (.iinc 3 1, 3) := by decide +kernel
theorem dX3_commonTile_37 : decode cX3_commonTile 37 = .ok (.goto (-33), 3) := by decide +kernel
theorem dX3_commonTile_40 : decode cX3_commonTile 40 = .ok (.lload_n 1, 1) := by decide +kernel
theorem dX3_commonTile_41 : decode cX3_commonTile 41 = .ok (.lreturn, 1) := by decide +kernel
theorem dX3_isAhead_0 : decode cX3_isAhead 0 = .ok (.aload_n 0, 1) := by decide +kernel
theorem dX3_isAhead_1 : decode cX3_isAhead 1 = .ok (.iload_n 1, 1) := by decide +kernel
theorem dX3_isAhead_2 : decode cX3_isAhead 2 = .ok (.invokevirtual 39, 3) := by decide +kernel
theorem dX3_isAhead_5 : decode cX3_isAhead 5 = .ok (.aload_n 0, 1) := by decide +kernel
theorem dX3_isAhead_6 : decode cX3_isAhead 6 = .ok (.iload_n 2, 1) := by decide +kernel
theorem dX3_isAhead_7 : decode cX3_isAhead 7 = .ok (.invokevirtual 35, 3) := by decide +kernel
theorem dX3_isAhead_10 : decode cX3_isAhead 10 = .ok (.imul, 1) := by decide +kernel
theorem dX3_isAhead_11 : decode cX3_isAhead 11 = .ok (.istore_n 3, 1) := by decide +kernel
theorem dX3_isAhead_12 : decode cX3_isAhead 12 = .ok (.aload_n 0, 1) := by decide +kernel
theorem dX3_isAhead_13 : decode cX3_isAhead 13 = .ok (.iload_n 2, 1) := by decide +kernel
theorem dX3_isAhead_14 : decode cX3_isAhead 14 = .ok (.invokevirtual 39, 3) := by decide +kernel
theorem dX3_isAhead_17 : decode cX3_isAhead 17 = .ok (.aload_n 0, 1) := by decide +kernel
theorem dX3_isAhead_18 : decode cX3_isAhead 18 = .ok (.iload_n 1, 1) := by decide +kernel
theorem dX3_isAhead_19 : decode cX3_isAhead 19 = .ok (.invokevirtual 35, 3) := by decide +kernel
theorem dX3_isAhead_22 : decode cX3_isAhead 22 = .ok (.imul, 1) := by decide +kernel
theorem dX3_isAhead_23 : decode cX3_isAhead 23 = .ok (.istore 4, 2) := by decide +kernel
theorem dX3_isAhead_25 : decode cX3_isAhead 25 = .ok (.iload_n 3, 1) := by decide +kernel
theorem dX3_isAhead_26 : decode cX3_isAhead 26 = .ok (.iload 4, 2) := by decide +kernel
theorem dX3_isAhead_28 : decode cX3_isAhead 28 = .ok (.if_icmp .lt 14, 3) := by decide +kernel
theorem dX3_isAhead_31 : decode cX3_isAhead 31 = .ok (.iload_n 3, 1) := by decide +kernel
theorem dX3_isAhead_32 : decode cX3_isAhead 32 = .ok (.iload 4, 2) := by decide +kernel
theorem dX3_isAhead_34 : decode cX3_isAhead 34 = .ok (.if_icmp .ne 12, 3) := by decide +kernel
theorem dX3_isAhead_37 : decode cX3_isAhead 37 = .ok (.iload_n 1, 1) := by decide +kernel
theorem dX3_isAhead_38 : decode cX3_isAhead 38 = .ok (.iload_n 2, 1) := by decide +kernel
theorem dX3_isAhead_39 : decode cX3_isAhead 39 = .ok (.if_icmp .ge 7, 3) := by decide +kernel
theorem dX3_isAhead_42 : decode cX3_isAhead 42 = .ok (.iconst 1, 1) := by decide +kernel
theorem dX3_isAhead_43 : decode cX3_isAhead 43 = .ok (.goto 4, 3) := by decide +kernel
theorem dX3_isAhead_46 : decode cX3_isAhead 46 = .ok (.iconst 0, 1) := by decide +kernel
theorem dX3_isAhead_47 : decode cX3_isAhead 47 = .ok (.ireturn, 1) := by decide +kernel
theorem dX3_byAngle_0 : decode cX3_byAngle 0 = .ok (.iload_n 1, 1) := by decide +kernel
theorem dX3_byAngle_1 : decode cX3_byAngle 1 = .ok (.ifCond .ge 5, 3) := by decide +kernel
theorem dX3_byAngle_4 : decode cX3_byAngle 4 = .ok (.iconst (-1), 1) := by decide +kernel
theorem dX3_byAngle_5 : decode cX3_byAngle 5 = .ok (.ireturn, 1) := by decide +kernel
theorem dX3_byAngle_6 : decode cX3_byAngle 6 = .ok (.iconst 0, 1) := by decide +kernel
theorem dX3_byAngle_7 : decode cX3_byAngle 7 = .ok (.istore_n 2, 1) := by decide +kernel
theorem dX3_byAngle_8 : decode cX3_byAngle 8 = .ok (.iload_n 2, 1) := by decide +kernel
theorem dX3_byAngle_9 : decode cX3_byAngle 9 = .ok (.aload_n 0, 1) := by decide +kernel
theorem dX3_byAngle_10 : decode cX3_byAngle 10 = .ok (.getfield 7, 3) := by decide +kernel
theorem dX3_byAngle_13 : decode cX3_byAngle 13 = .ok (.iconst 0, 1) := by decide +kernel
theorem dX3_byAngle_14 : decode cX3_byAngle 14 = .ok (.iaload, 1) := by decide +kernel
theorem dX3_byAngle_15 : decode cX3_byAngle 15 = .ok (.if_icmp .ge 56, 3) := by decide +kernel
theorem dX3_byAngle_18 : decode cX3_byAngle 18 = .ok (.iconst 0, 1) := by decide +kernel
theorem dX3_byAngle_19 : decode cX3_byAngle 19 = .ok (.istore_n 3, 1) := by decide +kernel
theorem dX3_byAngle_20 : decode cX3_byAngle 20 = .ok (.iconst 0, 1) := by decide +kernel
theorem dX3_byAngle_21 : decode cX3_byAngle 21 = .ok (.istore 4, 2) := by decide +kernel
theorem dX3_byAngle_23 : decode cX3_byAngle 23 = .ok (.iload 4, 2) := by decide +kernel
theorem dX3_byAngle_25 : decode cX3_byAngle 25 = .ok (.aload_n 0, 1) := by decide +kernel
theorem dX3_byAngle_26 : decode cX3_byAngle 26 = .ok (.getfield 7, 3) := by decide +kernel
theorem dX3_byAngle_29 : decode cX3_byAngle 29 = .ok (.iconst 0, 1) := by decide +kernel
theorem dX3_byAngle_30 : decode cX3_byAngle 30 = .ok (.iaload, 1) := by decide +kernel
theorem dX3_byAngle_31 : decode cX3_byAngle 31 = .ok (.if_icmp .ge 27, 3) := by decide +kernel
theorem dX3_byAngle_34 : decode cX3_byAngle 34 = .ok (.iload_n 3, 1) := by decide +kernel
theorem dX3_byAngle_35 : decode cX3_byAngle 35 = .ok (.aload_n 0, 1) := by decide +kernel
theorem dX3_byAngle_36 : decode cX3_byAngle 36 = .ok (.iload 4, 2) := by decide +kernel
theorem dX3_byAngle_38 : decode cX3_byAngle 38 = .ok (.iload_n 2, 1) := by decide +kernel
theorem dX3_byAngle_39 : decode cX3_byAngle 39 = .ok (.invokevirtual 59, 3) := by decide +kernel
theorem dX3_byAngle_42 : decode cX3_byAngle 42 = .ok (.ifCond .eq 7, 3) := by decide +kernel
theorem dX3_byAngle_45 : decode cX3_byAngle 45 = .ok (.iconst 1, 1) := by decide +kernel
theorem dX3_byAngle_46 : decode cX3_byAngle 46 = .ok (.goto 4, 3) := by decide +kernel
theorem dX3_byAngle_49 : decode cX3_byAngle 49 = .ok (.iconst 0, 1) := by decide +kernel
theorem dX3_byAngle_50 : decode cX3_byAngle 50 = .ok (.iadd, 1) := by decide +kernel
theorem dX3_byAngle_51 : decode cX3_byAngle 51 = .ok (.istore_n 3, 1) := by decide +kernel
theorem dX3_byAngle_52 : decode cX3_byAngle 52 = .ok (.iinc 4 1, 3) := by decide +kernel
theorem dX3_byAngle_55 : decode cX3_byAngle 55 = .ok (.goto (-32), 3) := by decide +kernel
theorem dX3_byAngle_58 : decode cX3_byAngle 58 = .ok (.iload_n 3, 1) := by decide +kernel
theorem dX3_byAngle_59 : decode cX3_byAngle 59 = .ok (.iload_n 1, 1) := by decide +kernel
theorem dX3_byAngle_60 : decode cX3_byAngle 60 = .ok (.if_icmp .ne 5, 3) := by decide +kernel
theorem dX3_byAngle_63 : decode cX3_byAngle 63 = .ok (.iload_n 2, 1) := by decide +kernel
theorem dX3_byAngle_64 : decode cX3_byAngle 64 = .ok (.ireturn, 1) := by decide +kernel
theorem dX3_byAngle_65 : decode cX3_byAngle 65 = .ok (.iinc 2 1, 3) := by decide +kernel
theorem dX3_byAngle_68 : decode cX3_byAngle 68 = .ok (.goto (-60), 3) := by decide +kernel
theorem dX3_byAngle_71 : decode cX3_byAngle 71 = .ok (.bipush (-4), 2) := by decide +kernel
theorem dX3_byAngle_73 : decode cX3_byAngle 73 = .ok (.ireturn, 1) := by decide +kernel
theorem dX3_setOrder_0 : decode cX3_setOrder 0 = .ok (.iload_n 1, 1) := by decide +kernel
theorem dX3_setOrder_1 : decode cX3_setOrder 1 = .ok (.iconst 1, 1) := by decide +kernel
theorem dX3_setOrder_2 : decode cX3_setOrder 2 = .ok (.iconst 2, 1) := by decide +kernel
theorem dX3_setOrder_3 : decode cX3_setOrder 3 = .ok (.invokestatic 27, 3) := by decide +kernel
theorem dX3_setOrder_6 : decode cX3_setOrder 6 = .ok (.ifCond .ne 5, 3) := by decide +kernel
theorem dX3_setOrder_9 : decode cX3_setOrder 9 = .ok (.iconst (-1), 1) := by decide +kernel
theorem dX3_setOrder_10 : decode cX3_setOrder 10 = .ok (.ireturn, 1) := by decide +kernel
theorem dX3_setOrder_11 : decode cX3_setOrder 11 = .ok (.aload_n 0, 1) := by decide +kernel
theorem dX3_setOrder_12 : decode cX3_setOrder 12 = .ok (.invokevirtual 46, 3) := by decide +kernel
theorem dX3_setOrder_15 : decode cX3_setOrder 15 = .ok (.aload_n 0, 1) := by decide +kernel
theorem dX3_setOrder_16 : decode cX3_setOrder 16 = .ok (.getfield 7, 3) := by decide +kernel
theorem dX3_setOrder_19 : decode cX3_setOrder 19 = .ok (.iconst 1, 1) := by decide +kernel
theorem dX3_setOrder_20 : decode cX3_setOrder 20 = .ok (.iaload, 1) := by decide +kernel
theorem dX3_setOrder_21 : decode cX3_setOrder 21 = .ok (.istore_n 2, 1) := by decide +kernel
theorem dX3_setOrder_22 : decode cX3_setOrder 22 = .ok (.aload_n 0, 1) := by decide +kernel
theorem dX3_setOrder_23 : decode cX3_setOrder 23 = .ok (.getfield 7, 3) := by decide +kernel
theorem dX3_setOrder_26 : decode cX3_setOrder 26 = .ok (.iconst 1, 1) := by decide +kernel
theorem dX3_setOrder_27 : decode cX3_setOrder 27 = .ok (.iload_n 1, 1) := by decide +kernel
theorem dX3_setOrder_28 : decode cX3_setOrder 28 = .ok (.iastore, 1) := by decide +kernel
theorem dX3_setOrder_29 : decode cX3_setOrder 29 = .ok (.iload_n 2, 1) := by decide +kernel
theorem dX3_setOrder_30 : decode cX3_setOrder 30 = .ok (.ireturn, 1) := by decide +kernel
theorem dX3_setLimits_0 : decode cX3_setLimits 0 = .ok (.iload_n 1, 1) := by decide +kernel
theorem dX3_setLimits_1 : decode cX3_setLimits 1 = .ok (.iconst 1, 1) := by decide +kernel
theorem dX3_setLimits_2 : decode cX3_setLimits 2 = .ok (.sipush 1000, 3) := by decide +kernel
theorem dX3_setLimits_5 : decode cX3_setLimits 5 = .ok (.invokestatic 27, 3) := by decide +kernel
theorem dX3_setLimits_8 : decode cX3_setLimits 8 = .ok (.ifCond .eq 19, 3) := by decide +kernel
theorem dX3_setLimits_11 : decode cX3_setLimits 11 = .ok (.iload_n 2, 1) := by decide +kernel
theorem dX3_setLimits_12 : decode cX3_setLimits 12 = .ok (.iconst 2, 1) := by decide +kernel
theorem dX3_setLimits_13 : decode cX3_setLimits 13 = .ok (.sipush 10000, 3) := by decide +kernel
theorem dX3_setLimits_16 : decode cX3_setLimits 16 = .ok (.invokestatic 27, 3) := by decide +kernel
theorem dX3_setLimits_19 : decode cX3_setLimits 19 = .ok (.ifCond .eq 8, 3) := by decide +kernel
theorem dX3_setLimits_22 : decode cX3_setLimits 22 = .ok (.iload_n 2, 1) := by decide +kernel
theorem dX3_setLimits_23 : decode cX3_setLimits 23 = .ok (.iload_n 1, 1) := by decide +kernel
theorem dX3_setLimits_24 : decode cX3_setLimits 24 = .ok (.if_icmp .gt 5, 3) := by decide +kernel
theorem dX3_setLimits_27 : decode cX3_setLimits 27 = .ok (.iconst (-1), 1) := by decide +kernel
theorem dX3_setLimits_28 : decode cX3_setLimits 28 = .ok (.ireturn, 1) := by decide +kernel
theorem dX3_setLimits_29 : decode cX3_setLimits 29 = .ok (.aload_n 0, 1) := by decide +kernel
theorem dX3_setLimits_30 : decode cX3_setLimits 30 = .ok (.invokevirtual 46, 3) := by decide +kernel
theorem dX3_setLimits_33 : decode cX3_setLimits 33 = .ok (.aload_n 0, 1) := by decide +kernel
theorem dX3_setLimits_34 : decode cX3_setLimits 34 = .ok (.getfield 7, 3) := by decide +kernel
theorem dX3_setLimits_37 : decode cX3_setLimits 37 = .ok (.iconst 2, 1) := by decide +kernel
theorem dX3_setLimits_38 : decode cX3_setLimits 38 = .ok (.iaload, 1) := by decide +kernel
theorem dX3_setLimits_39 : decode cX3_setLimits 39 = .ok (.istore_n 3, 1) := by decide +kernel
theorem dX3_setLimits_40 : decode cX3_setLimits 40 = .ok (.aload_n 0, 1) := by decide +kernel
theorem dX3_setLimits_41 : decode cX3_setLimits 41 = .ok (.getfield 7, 3) := by decide +kernel
theorem dX3_setLimits_44 : decode cX3_setLimits 44 = .ok (.iconst 2, 1) := by decide +kernel
theorem dX3_setLimits_45 : decode cX3_setLimits 45 = .ok (.iload_n 1, 1) := by decide +kernel
theorem dX3_setLimits_46 : decode cX3_setLimits 46 = .ok (.iastore, 1) := by decide +kernel
theorem dX3_setLimits_47 : decode cX3_setLimits 47 = .ok (.aload_n 0, 1) := by decide +kernel
theorem dX3_setLimits_48 : decode cX3_setLimits 48 = .ok (.getfield 7, 3) := by decide +kernel
theorem dX3_setLimits_51 : decode cX3_setLimits 51 = .ok (.iconst 3, 1) := by decide +kernel
theorem dX3_setLimits_52 : decode cX3_setLimits 52 = .ok (.iload_n 2, 1) := by decide +kernel
theorem dX3_setLimits_53 : decode cX3_setLimits 53 = .ok (.iastore, 1) := by decide +kernel
theorem dX3_setLimits_54 : decode cX3_setLimits 54 = .ok (.iload_n 3, 1) := by decide +kernel
theorem dX3_setLimits_55 : decode cX3_setLimits 55 = .ok (.ireturn, 1) := by decide +kernel
theorem dX3_longLimit_0 : decode cX3_longLimit 0 = .ok (.aload_n 0, 1) := by decide +kernel
theorem dX3_longLimit_1 : decode cX3_longLimit 1 = .ok (.getfield 7, 3) := by decide +kernel
theorem dX3_longLimit_4 : decode cX3_longLimit 4 = .ok (.iconst 3, 1) := by decide +kernel
theorem dX3_longLimit_5 : decode cX3_longLimit 5 = .ok (.iaload, 1) := by decide +kernel
theorem dX3_longLimit_6 : decode cX3_longLimit 6 = .ok (.ireturn, 1) := by decide +kernel
theorem dX3_pairSquare_0 : decode cX3_pairSquare 0 = .ok (.aload_n 0, 1) := by decide +kernel
theorem dX3_pairSquare_1 : decode cX3_pairSquare 1 = .ok (.iload_n 1, 1) := by decide +kernel
theorem dX3_pairSquare_2 : decode cX3_pairSquare 2 = .ok (.invokevirtual 49, 3) := by decide +kernel
theorem dX3_pairSquare_5 : decode cX3_pairSquare 5 = .ok (.i2l, 1) := by decide +kernel
theorem dX3_pairSquare_6 : decode cX3_pairSquare 6 = .ok (.lstore 7, 2) := by decide +kernel
theorem dX3_pairSquare_8 : decode cX3_pairSquare 8 = .ok (.aload_n 0, 1) := by decide +kernel
theorem dX3_pairSquare_9 : decode cX3_pairSquare 9 = .ok (.iload_n 2, 1) := by decide +kernel
theorem dX3_pairSquare_10 : decode cX3_pairSquare 10 = .ok (.invokevirtual 49, 3) := by decide +kernel
theorem dX3_pairSquare_13 : decode cX3_pairSquare 13 = .ok (.i2l, 1) := by decide +kernel
theorem dX3_pairSquare_14 : decode cX3_pairSquare 14 = .ok (.lstore 9, 2) := by decide +kernel
theorem dX3_pairSquare_16 : decode cX3_pairSquare 16 = .ok (.iload_n 3, 1) := by decide +kernel
theorem dX3_pairSquare_17 : decode cX3_pairSquare 17 = .ok (.aload_n 0, 1) := by decide +kernel
theorem dX3_pairSquare_18 : decode cX3_pairSquare 18 = .ok (.iload_n 1, 1) := by decide +kernel
theorem dX3_pairSquare_19 : decode cX3_pairSquare 19 = .ok (.invokevirtual 35, 3) := by decide +kernel
theorem dX3_pairSquare_22 : decode cX3_pairSquare 22 = .ok (.imul, 1) := by decide +kernel
theorem dX3_pairSquare_23 : decode cX3_pairSquare 23 = .ok (.iload 4, 2) := by decide +kernel
theorem dX3_pairSquare_25 : decode cX3_pairSquare 25 = .ok (.aload_n 0, 1) := by decide +kernel
theorem dX3_pairSquare_26 : decode cX3_pairSquare 26 = .ok (.iload_n 1, 1) := by decide +kernel
theorem dX3_pairSquare_27 : decode cX3_pairSquare 27 = .ok (.invokevirtual 39, 3) := by decide +kernel
theorem dX3_pairSquare_30 : decode cX3_pairSquare 30 = .ok (.imul, 1) := by decide +kernel
theorem dX3_pairSquare_31 : decode cX3_pairSquare 31 = .ok (.isub, 1) := by decide +kernel
theorem dX3_pairSquare_32 : decode cX3_pairSquare 32 = .ok (.i2l, 1) := by decide +kernel
theorem dX3_pairSquare_33 : decode cX3_pairSquare 33 = .ok (.lload 9, 2) := by decide +kernel
theorem dX3_pairSquare_35 : decode cX3_pairSquare 35 = .ok (.lmul, 1) := by decide +kernel
theorem dX3_pairSquare_36 : decode cX3_pairSquare 36 = .ok (.iload 5, 2) := by decide +kernel
theorem dX3_pairSquare_38 : decode cX3_pairSquare 38 = .ok (.aload_n 0, 1) := by decide +kernel
theorem dX3_pairSquare_39 : decode cX3_pairSquare 39 = .ok (.iload_n 2, 1) := by decide +kernel
theorem dX3_pairSquare_40 : decode cX3_pairSquare 40 = .ok (.invokevirtual 35, 3) := by decide +kernel
theorem dX3_pairSquare_43 : decode cX3_pairSquare 43 = .ok (.imul, 1) := by decide +kernel
theorem dX3_pairSquare_44 : decode cX3_pairSquare 44 = .ok (.iload 6, 2) := by decide +kernel
theorem dX3_pairSquare_46 : decode cX3_pairSquare 46 = .ok (.aload_n 0, 1) := by decide +kernel
theorem dX3_pairSquare_47 : decode cX3_pairSquare 47 = .ok (.iload_n 2, 1) := by decide +kernel
theorem dX3_pairSquare_48 : decode cX3_pairSquare 48 = .ok (.invokevirtual 39, 3) := by decide +kernel
theorem dX3_pairSquare_51 : decode cX3_pairSquare 51 = .ok (.imul, 1) := by decide +kernel
theorem dX3_pairSquare_52 : decode cX3_pairSquare 52 = .ok (.isub, 1) := by decide +kernel
theorem dX3_pairSquare_53 : decode cX3_pairSquare 53 = .ok (.i2l, 1) := by decide +kernel
theorem dX3_pairSquare_54 : decode cX3_pairSquare 54 = .ok (.lload 7, 2) := by decide +kernel
theorem dX3_pairSquare_56 : decode cX3_pairSquare 56 = .ok (.lmul, 1) := by decide +kernel
theorem dX3_pairSquare_57 : decode cX3_pairSquare 57 = .ok (.lsub, 1) := by decide +kernel
theorem dX3_pairSquare_58 : decode cX3_pairSquare 58 = .ok (.lstore 11, 2) := by decide +kernel
theorem dX3_pairSquare_60 : decode cX3_pairSquare 60 = .ok (.iload_n 3, 1) := by decide +kernel
theorem dX3_pairSquare_61 : decode cX3_pairSquare 61 = .ok (.aload_n 0, 1) := by decide +kernel
theorem dX3_pairSquare_62 : decode cX3_pairSquare 62 = .ok (.iload_n 1, 1) := by decide +kernel
theorem dX3_pairSquare_63 : decode cX3_pairSquare 63 = .ok (.invokevirtual 39, 3) := by decide +kernel
theorem dX3_pairSquare_66 : decode cX3_pairSquare 66 = .ok (.imul, 1) := by decide +kernel
theorem dX3_pairSquare_67 : decode cX3_pairSquare 67 = .ok (.iload 4, 2) := by decide +kernel
theorem dX3_pairSquare_69 : decode cX3_pairSquare 69 = .ok (.aload_n 0, 1) := by decide +kernel
theorem dX3_pairSquare_70 : decode cX3_pairSquare 70 = .ok (.iload_n 1, 1) := by decide +kernel
theorem dX3_pairSquare_71 : decode cX3_pairSquare 71 = .ok (.invokevirtual 35, 3) := by decide +kernel
theorem dX3_pairSquare_74 : decode cX3_pairSquare 74 = .ok (.imul, 1) := by decide +kernel
theorem dX3_pairSquare_75 : decode cX3_pairSquare 75 = .ok (.iadd, 1) := by decide +kernel
theorem dX3_pairSquare_76 : decode cX3_pairSquare 76 = .ok (.i2l, 1) := by decide +kernel
theorem dX3_pairSquare_77 : decode cX3_pairSquare 77 = .ok (.lload 9, 2) := by decide +kernel
theorem dX3_pairSquare_79 : decode cX3_pairSquare 79 = .ok (.lmul, 1) := by decide +kernel
theorem dX3_pairSquare_80 : decode cX3_pairSquare 80 = .ok (.iload 5, 2) := by decide +kernel
theorem dX3_pairSquare_82 : decode cX3_pairSquare 82 = .ok (.aload_n 0, 1) := by decide +kernel
theorem dX3_pairSquare_83 : decode cX3_pairSquare 83 = .ok (.iload_n 2, 1) := by decide +kernel
theorem dX3_pairSquare_84 : decode cX3_pairSquare 84 = .ok (.invokevirtual 39, 3) := by decide +kernel
theorem dX3_pairSquare_87 : decode cX3_pairSquare 87 = .ok (.imul, 1) := by decide +kernel
theorem dX3_pairSquare_88 : decode cX3_pairSquare 88 = .ok (.iload 6, 2) := by decide +kernel
theorem dX3_pairSquare_90 : decode cX3_pairSquare 90 = .ok (.aload_n 0, 1) := by decide +kernel
theorem dX3_pairSquare_91 : decode cX3_pairSquare 91 = .ok (.iload_n 2, 1) := by decide +kernel
theorem dX3_pairSquare_92 : decode cX3_pairSquare 92 = .ok (.invokevirtual 35, 3) := by decide +kernel
theorem dX3_pairSquare_95 : decode cX3_pairSquare 95 = .ok (.imul, 1) := by decide +kernel
theorem dX3_pairSquare_96 : decode cX3_pairSquare 96 = .ok (.iadd, 1) := by decide +kernel
theorem dX3_pairSquare_97 : decode cX3_pairSquare 97 = .ok (.i2l, 1) := by decide +kernel
theorem dX3_pairSquare_98 : decode cX3_pairSquare 98 = .ok (.lload 7, 2) := by decide +kernel
theorem dX3_pairSquare_100 : decode cX3_pairSquare 100 = .ok (.lmul, 1) := by decide +kernel
theorem dX3_pairSquare_101 : decode cX3_pairSquare 101 = .ok (.lsub, 1) := by decide +kernel
theorem dX3_pairSquare_102 : decode cX3_pairSquare 102 = .ok (.lstore 13, 2) := by decide +kernel
theorem dX3_pairSquare_104 : decode cX3_pairSquare 104 = .ok (.lload 11, 2) := by decide +kernel
theorem dX3_pairSquare_106 : decode cX3_pairSquare 106 = .ok (.lload 11, 2) := by decide +kernel
theorem dX3_pairSquare_108 : decode cX3_pairSquare 108 = .ok (.lmul, 1) := by decide +kernel
theorem dX3_pairSquare_109 : decode cX3_pairSquare 109 = .ok (.lload 13, 2) := by decide +kernel
theorem dX3_pairSquare_111 : decode cX3_pairSquare 111 = .ok (.lload 13, 2) := by decide +kernel
theorem dX3_pairSquare_113 : decode cX3_pairSquare 113 = .ok (.lmul, 1) := by decide +kernel
theorem dX3_pairSquare_114 : decode cX3_pairSquare 114 = .ok (.ladd, 1) := by decide +kernel
theorem dX3_pairSquare_115 : decode cX3_pairSquare 115 = .ok (.lreturn, 1) := by decide +kernel
theorem dX3_pairBase_0 : decode cX3_pairBase 0 = .ok (.aload_n 0, 1) := by decide +kernel
theorem dX3_pairBase_1 : decode cX3_pairBase 1 = .ok (.iload_n 1, 1) := by decide +kernel
theorem dX3_pairBase_2 : decode cX3_pairBase 2 = .ok (.invokevirtual 49, 3) := by decide +kernel
theorem dX3_pairBase_5 : decode cX3_pairBase 5 = .ok (.i2l, 1) := by decide +kernel
theorem dX3_pairBase_6 : decode cX3_pairBase 6 = .ok (.aload_n 0, 1) := by decide +kernel
theorem dX3_pairBase_7 : decode cX3_pairBase 7 = .ok (.iload_n 2, 1) := by decide +kernel
theorem dX3_pairBase_8 : decode cX3_pairBase 8 = .ok (.invokevirtual 49, 3) := by decide +kernel
theorem dX3_pairBase_11 : decode cX3_pairBase 11 = .ok (.i2l, 1) := by decide +kernel
theorem dX3_pairBase_12 : decode cX3_pairBase 12 = .ok (.lmul, 1) := by decide +kernel
theorem dX3_pairBase_13 : decode cX3_pairBase 13 = .ok (.lstore_n 3, 1) := by decide +kernel
theorem dX3_pairBase_14 : decode cX3_pairBase 14 = .ok (.lload_n 3, 1) := by decide +kernel
theorem dX3_pairBase_15 : decode cX3_pairBase 15 = .ok (.lload_n 3, 1) := by decide +kernel
theorem dX3_pairBase_16 : decode cX3_pairBase 16 = .ok (.lmul, 1) := by decide +kernel
theorem dX3_pairBase_17 : decode cX3_pairBase 17 = .ok (.lreturn, 1) := by decide +kernel
theorem dX3_part_0 : decode cX3_part 0 = .ok (.iload_n 2, 1) := by decide +kernel
theorem dX3_part_1 : decode cX3_part 1 = .ok (.iconst 2, 1) := by decide +kernel
theorem dX3_part_2 : decode cX3_part 2 = .ok (.irem, 1) := by decide +kernel
theorem dX3_part_3 : decode cX3_part 3 = .ok (.ifCond .ne 23, 3) := by decide +kernel
theorem dX3_part_6 : decode cX3_part 6 = .ok (.iload_n 3, 1) := by decide +kernel
theorem dX3_part_7 : decode cX3_part 7 = .ok (.ifCond .eq 11, 3) := by decide +kernel
theorem dX3_part_10 : decode cX3_part 10 = .ok (.aload_n 0, 1) := by decide +kernel
theorem dX3_part_11 : decode cX3_part 11 = .ok (.iload_n 1, 1) := by decide +kernel
theorem dX3_part_12 : decode cX3_part 12 = .ok (.invokevirtual 39, 3) := by decide +kernel
theorem dX3_part_15 : decode cX3_part 15 = .ok (.goto 29, 3) := by decide +kernel
theorem dX3_part_18 : decode cX3_part 18 = .ok (.aload_n 0, 1) := by decide +kernel
theorem dX3_part_19 : decode cX3_part 19 = .ok (.iload_n 1, 1) := by decide +kernel
theorem dX3_part_20 : decode cX3_part 20 = .ok (.invokevirtual 35, 3) := by decide +kernel
theorem dX3_part_23 : decode cX3_part 23 = .ok (.goto 21, 3) := by decide +kernel
theorem dX3_part_26 : decode cX3_part 26 = .ok (.iload_n 3, 1) := by decide +kernel
theorem dX3_part_27 : decode cX3_part 27 = .ok (.ifCond .eq 11, 3) := by decide +kernel
theorem dX3_part_30 : decode cX3_part 30 = .ok (.aload_n 0, 1) := by decide +kernel
theorem dX3_part_31 : decode cX3_part 31 = .ok (.iload_n 1, 1) := by decide +kernel
theorem dX3_part_32 : decode cX3_part 32 = .ok (.invokevirtual 35, 3) := by decide +kernel
theorem dX3_part_35 : decode cX3_part 35 = .ok (.goto 9, 3) := by decide +kernel
theorem dX3_part_38 : decode cX3_part 38 = .ok (.aload_n 0, 1) := by decide +kernel
theorem dX3_part_39 : decode cX3_part 39 = .ok (.iload_n 1, 1) := by decide +kernel
theorem dX3_part_40 : decode cX3_part 40 = .ok (.invokevirtual 39, 3) := by decide +kernel
theorem dX3_part_43 : decode cX3_part 43 = .ok (.ineg, 1) := by decide +kernel
theorem dX3_part_44 : decode cX3_part 44 = .ok (.istore 4, 2) := by decide +kernel
theorem dX3_part_46 : decode cX3_part 46 = .ok (.iload_n 2, 1) := by decide +kernel
theorem dX3_part_47 : decode cX3_part 47 = .ok (.iconst 2, 1) := by decide +kernel
theorem dX3_part_48 : decode cX3_part 48 = .ok (.if_icmp .ge 8, 3) := by decide +kernel
theorem dX3_part_51 : decode cX3_part 51 = .ok (.iload 4, 2) := by decide +kernel
theorem dX3_part_53 : decode cX3_part 53 = .ok (.goto 6, 3) := by decide +kernel
theorem dX3_part_56 : decode cX3_part 56 = .ok (.iload 4, 2) := by decide +kernel
theorem dX3_part_58 : decode cX3_part 58 = .ok (.ineg, 1) := by decide +kernel
theorem dX3_part_59 : decode cX3_part 59 = .ok (.ireturn, 1) := by decide +kernel
theorem dX3_tripleSquare_0 : decode cX3_tripleSquare 0 = .ok (.aload_n 0, 1) := by decide +kernel
theorem dX3_tripleSquare_1 : decode cX3_tripleSquare 1 = .ok (.iload_n 2, 1) := by decide +kernel
theorem dX3_tripleSquare_2 : decode cX3_tripleSquare 2 = .ok (.invokevirtual 49, 3) := by decide +kernel
theorem dX3_tripleSquare_5 : decode cX3_tripleSquare 5 = .ok (.i2l, 1) := by decide +kernel
theorem dX3_tripleSquare_6 : decode cX3_tripleSquare 6 = .ok (.aload_n 0, 1) := by decide +kernel
theorem dX3_tripleSquare_7 : decode cX3_tripleSquare 7 = .ok (.iload_n 3, 1) := by decide +kernel
theorem dX3_tripleSquare_8 : decode cX3_tripleSquare 8 = .ok (.invokevirtual 49, 3) := by decide +kernel
theorem dX3_tripleSquare_11 : decode cX3_tripleSquare 11 = .ok (.i2l, 1) := by decide +kernel
theorem dX3_tripleSquare_12 : decode cX3_tripleSquare 12 = .ok (.lmul, 1) := by decide +kernel
theorem dX3_tripleSquare_13 : decode cX3_tripleSquare 13 = .ok (.lstore 5, 2) := by decide +kernel
theorem dX3_tripleSquare_15 : decode cX3_tripleSquare 15 = .ok (.aload_n 0, 1) := by decide +kernel
theorem dX3_tripleSquare_16 : decode cX3_tripleSquare 16 = .ok (.iload_n 1, 1) := by decide +kernel
theorem dX3_tripleSquare_17 : decode cX3_tripleSquare 17 = .ok (.invokevirtual 49, 3) := by decide +kernel
theorem dX3_tripleSquare_20 : decode cX3_tripleSquare 20 = .ok (.i2l, 1) := by decide +kernel
theorem dX3_tripleSquare_21 : decode cX3_tripleSquare 21 = .ok (.aload_n 0, 1) := by decide +kernel
theorem dX3_tripleSquare_22 : decode cX3_tripleSquare 22 = .ok (.iload_n 3, 1) := by decide +kernel
theorem dX3_tripleSquare_23 : decode cX3_tripleSquare 23 = .ok (.invokevirtual 49, 3) := by decide +kernel
theorem dX3_tripleSquare_26 : decode cX3_tripleSquare 26 = .ok (.i2l, 1) := by decide +kernel
theorem dX3_tripleSquare_27 : decode cX3_tripleSquare 27 = .ok (.lmul, 1) := by decide +kernel
theorem dX3_tripleSquare_28 : decode cX3_tripleSquare 28 = .ok (.lstore 7, 2) := by decide +kernel
theorem dX3_tripleSquare_30 : decode cX3_tripleSquare 30 = .ok (.aload_n 0, 1) := by decide +kernel
theorem dX3_tripleSquare_31 : decode cX3_tripleSquare 31 = .ok (.iload_n 1, 1) := by decide +kernel
theorem dX3_tripleSquare_32 : decode cX3_tripleSquare 32 = .ok (.invokevirtual 49, 3) := by decide +kernel
theorem dX3_tripleSquare_35 : decode cX3_tripleSquare 35 = .ok (.i2l, 1) := by decide +kernel
theorem dX3_tripleSquare_36 : decode cX3_tripleSquare 36 = .ok (.aload_n 0, 1) := by decide +kernel
theorem dX3_tripleSquare_37 : decode cX3_tripleSquare 37 = .ok (.iload_n 2, 1) := by decide +kernel
theorem dX3_tripleSquare_38 : decode cX3_tripleSquare 38 = .ok (.invokevirtual 49, 3) := by decide +kernel
theorem dX3_tripleSquare_41 : decode cX3_tripleSquare 41 = .ok (.i2l, 1) := by decide +kernel
theorem dX3_tripleSquare_42 : decode cX3_tripleSquare 42 = .ok (.lmul, 1) := by decide +kernel
theorem dX3_tripleSquare_43 : decode cX3_tripleSquare 43 = .ok (.lstore 9, 2) := by decide +kernel
theorem dX3_tripleSquare_45 : decode cX3_tripleSquare 45 = .ok (.aload_n 0, 1) := by decide +kernel
theorem dX3_tripleSquare_46 : decode cX3_tripleSquare 46 = .ok (.iload_n 1, 1) := by decide +kernel
theorem dX3_tripleSquare_47 : decode cX3_tripleSquare 47 = .ok (.iload 4, 2) := by decide +kernel
theorem dX3_tripleSquare_49 : decode cX3_tripleSquare 49 = .ok (.bipush 16, 2) := by decide +kernel
theorem dX3_tripleSquare_51 : decode cX3_tripleSquare 51 = .ok (.idiv, 1) := by decide +kernel
theorem dX3_tripleSquare_52 : decode cX3_tripleSquare 52 = .ok (.iconst 0, 1) := by decide +kernel
theorem dX3_tripleSquare_53 : decode cX3_tripleSquare 53 = .ok (.invokevirtual 62, 3) := by decide +kernel
theorem dX3_tripleSquare_56 : decode cX3_tripleSquare 56 = .ok (.i2l, 1) := by decide +kernel
theorem dX3_tripleSquare_57 : decode cX3_tripleSquare 57 = .ok (.lload 5, 2) := by decide +kernel
theorem dX3_tripleSquare_59 : decode cX3_tripleSquare 59 = .ok (.lmul, 1) := by decide +kernel
theorem dX3_tripleSquare_60 : decode cX3_tripleSquare 60 = .ok (.aload_n 0, 1) := by decide +kernel
theorem dX3_tripleSquare_61 : decode cX3_tripleSquare 61 = .ok (.iload_n 2, 1) := by decide +kernel
theorem dX3_tripleSquare_62 : decode cX3_tripleSquare 62 = .ok (.iload 4, 2) := by decide +kernel
theorem dX3_tripleSquare_64 : decode cX3_tripleSquare 64 = .ok (.iconst 4, 1) := by decide +kernel
theorem dX3_tripleSquare_65 : decode cX3_tripleSquare 65 = .ok (.idiv, 1) := by decide +kernel
theorem dX3_tripleSquare_66 : decode cX3_tripleSquare 66 = .ok (.iconst 4, 1) := by decide +kernel
theorem dX3_tripleSquare_67 : decode cX3_tripleSquare 67 = .ok (.irem, 1) := by decide +kernel
theorem dX3_tripleSquare_68 : decode cX3_tripleSquare 68 = .ok (.iconst 0, 1) := by decide +kernel
theorem dX3_tripleSquare_69 : decode cX3_tripleSquare 69 = .ok (.invokevirtual 62, 3) := by decide +kernel
theorem dX3_tripleSquare_72 : decode cX3_tripleSquare 72 = .ok (.i2l, 1) := by decide +kernel
theorem dX3_tripleSquare_73 : decode cX3_tripleSquare 73 = .ok (.lload 7, 2) := by decide +kernel
theorem dX3_tripleSquare_75 : decode cX3_tripleSquare 75 = .ok (.lmul, 1) := by decide +kernel
theorem dX3_tripleSquare_76 : decode cX3_tripleSquare 76 = .ok (.ladd, 1) := by decide +kernel
theorem dX3_tripleSquare_77 : decode cX3_tripleSquare 77 = .ok (.aload_n 0, 1) := by decide +kernel
theorem dX3_tripleSquare_78 : decode cX3_tripleSquare 78 = .ok (.iload_n 3, 1) := by decide +kernel
theorem dX3_tripleSquare_79 : decode cX3_tripleSquare 79 = .ok (.iload 4, 2) := by decide +kernel
theorem dX3_tripleSquare_81 : decode cX3_tripleSquare 81 = .ok (.iconst 4, 1) := by decide +kernel
theorem dX3_tripleSquare_82 : decode cX3_tripleSquare 82 = .ok (.irem, 1) := by decide +kernel
theorem dX3_tripleSquare_83 : decode cX3_tripleSquare 83 = .ok (.iconst 0, 1) := by decide +kernel
theorem dX3_tripleSquare_84 : decode cX3_tripleSquare 84 = .ok (.invokevirtual 62, 3) := by decide +kernel
theorem dX3_tripleSquare_87 : decode cX3_tripleSquare 87 = .ok (.i2l, 1) := by decide +kernel
theorem dX3_tripleSquare_88 : decode cX3_tripleSquare 88 = .ok (.lload 9, 2) := by decide +kernel
theorem dX3_tripleSquare_90 : decode cX3_tripleSquare 90 = .ok (.lmul, 1) := by decide +kernel
theorem dX3_tripleSquare_91 : decode cX3_tripleSquare 91 = .ok (.ladd, 1) := by decide +kernel
theorem dX3_tripleSquare_92 : decode cX3_tripleSquare 92 = .ok (.lstore 11, 2) := by decide +kernel
theorem dX3_tripleSquare_94 : decode cX3_tripleSquare 94 = .ok (.aload_n 0, 1) := by decide +kernel
theorem dX3_tripleSquare_95 : decode cX3_tripleSquare 95 = .ok (.iload_n 1, 1) := by decide +kernel
theorem dX3_tripleSquare_96 : decode cX3_tripleSquare 96 = .ok (.iload 4, 2) := by decide +kernel
theorem dX3_tripleSquare_98 : decode cX3_tripleSquare 98 = .ok (.bipush 16, 2) := by decide +kernel
theorem dX3_tripleSquare_100 : decode cX3_tripleSquare 100 = .ok (.idiv, 1) := by decide +kernel
theorem dX3_tripleSquare_101 : decode cX3_tripleSquare 101 = .ok (.iconst 1, 1) := by decide +kernel
theorem dX3_tripleSquare_102 : decode cX3_tripleSquare 102 = .ok (.invokevirtual 62, 3) := by decide +kernel
theorem dX3_tripleSquare_105 : decode cX3_tripleSquare 105 = .ok (.i2l, 1) := by decide +kernel
theorem dX3_tripleSquare_106 : decode cX3_tripleSquare 106 = .ok (.lload 5, 2) := by decide +kernel
theorem dX3_tripleSquare_108 : decode cX3_tripleSquare 108 = .ok (.lmul, 1) := by decide +kernel
theorem dX3_tripleSquare_109 : decode cX3_tripleSquare 109 = .ok (.aload_n 0, 1) := by decide +kernel
theorem dX3_tripleSquare_110 : decode cX3_tripleSquare 110 = .ok (.iload_n 2, 1) := by decide +kernel
theorem dX3_tripleSquare_111 : decode cX3_tripleSquare 111 = .ok (.iload 4, 2) := by decide +kernel
theorem dX3_tripleSquare_113 : decode cX3_tripleSquare 113 = .ok (.iconst 4, 1) := by decide +kernel
theorem dX3_tripleSquare_114 : decode cX3_tripleSquare 114 = .ok (.idiv, 1) := by decide +kernel
theorem dX3_tripleSquare_115 : decode cX3_tripleSquare 115 = .ok (.iconst 4, 1) := by decide +kernel
theorem dX3_tripleSquare_116 : decode cX3_tripleSquare 116 = .ok (.irem, 1) := by decide +kernel
theorem dX3_tripleSquare_117 : decode cX3_tripleSquare 117 = .ok (.iconst 1, 1) := by decide +kernel
theorem dX3_tripleSquare_118 : decode cX3_tripleSquare 118 = .ok (.invokevirtual 62, 3) := by decide +kernel
theorem dX3_tripleSquare_121 : decode cX3_tripleSquare 121 = .ok (.i2l, 1) := by decide +kernel
theorem dX3_tripleSquare_122 : decode cX3_tripleSquare 122 = .ok (.lload 7, 2) := by decide +kernel
theorem dX3_tripleSquare_124 : decode cX3_tripleSquare 124 = .ok (.lmul, 1) := by decide +kernel
theorem dX3_tripleSquare_125 : decode cX3_tripleSquare 125 = .ok (.ladd, 1) := by decide +kernel
theorem dX3_tripleSquare_126 : decode cX3_tripleSquare 126 = .ok (.aload_n 0, 1) := by decide +kernel
theorem dX3_tripleSquare_127 : decode cX3_tripleSquare 127 = .ok (.iload_n 3, 1) := by decide +kernel
theorem dX3_tripleSquare_128 : decode cX3_tripleSquare 128 = .ok (.iload 4, 2) := by decide +kernel
theorem dX3_tripleSquare_130 : decode cX3_tripleSquare 130 = .ok (.iconst 4, 1) := by decide +kernel
theorem dX3_tripleSquare_131 : decode cX3_tripleSquare 131 = .ok (.irem, 1) := by decide +kernel
theorem dX3_tripleSquare_132 : decode cX3_tripleSquare 132 = .ok (.iconst 1, 1) := by decide +kernel
theorem dX3_tripleSquare_133 : decode cX3_tripleSquare 133 = .ok (.invokevirtual 62, 3) := by decide +kernel
theorem dX3_tripleSquare_136 : decode cX3_tripleSquare 136 = .ok (.i2l, 1) := by decide +kernel
theorem dX3_tripleSquare_137 : decode cX3_tripleSquare 137 = .ok (.lload 9, 2) := by decide +kernel
theorem dX3_tripleSquare_139 : decode cX3_tripleSquare 139 = .ok (.lmul, 1) := by decide +kernel
theorem dX3_tripleSquare_140 : decode cX3_tripleSquare 140 = .ok (.ladd, 1) := by decide +kernel
theorem dX3_tripleSquare_141 : decode cX3_tripleSquare 141 = .ok (.lstore 13, 2) := by decide +kernel
theorem dX3_tripleSquare_143 : decode cX3_tripleSquare 143 = .ok (.lload 11, 2) := by decide +kernel
theorem dX3_tripleSquare_145 : decode cX3_tripleSquare 145 = .ok (.lload 11, 2) := by decide +kernel
theorem dX3_tripleSquare_147 : decode cX3_tripleSquare 147 = .ok (.lmul, 1) := by decide +kernel
theorem dX3_tripleSquare_148 : decode cX3_tripleSquare 148 = .ok (.lload 13, 2) := by decide +kernel
theorem dX3_tripleSquare_150 : decode cX3_tripleSquare 150 = .ok (.lload 13, 2) := by decide +kernel
theorem dX3_tripleSquare_152 : decode cX3_tripleSquare 152 = .ok (.lmul, 1) := by decide +kernel
theorem dX3_tripleSquare_153 : decode cX3_tripleSquare 153 = .ok (.ladd, 1) := by decide +kernel
theorem dX3_tripleSquare_154 : decode cX3_tripleSquare 154 = .ok (.lreturn, 1) := by decide +kernel
theorem dX3_tripleBase_0 : decode cX3_tripleBase 0 = .ok (.aload_n 0, 1) := by decide +kernel
theorem dX3_tripleBase_1 : decode cX3_tripleBase 1 = .ok (.iload_n 1, 1) := by decide +kernel
theorem dX3_tripleBase_2 : decode cX3_tripleBase 2 = .ok (.invokevirtual 49, 3) := by decide +kernel
theorem dX3_tripleBase_5 : decode cX3_tripleBase 5 = .ok (.i2l, 1) := by decide +kernel
theorem dX3_tripleBase_6 : decode cX3_tripleBase 6 = .ok (.aload_n 0, 1) := by decide +kernel
theorem dX3_tripleBase_7 : decode cX3_tripleBase 7 = .ok (.iload_n 2, 1) := by decide +kernel
theorem dX3_tripleBase_8 : decode cX3_tripleBase 8 = .ok (.invokevirtual 49, 3) := by decide +kernel
theorem dX3_tripleBase_11 : decode cX3_tripleBase 11 = .ok (.i2l, 1) := by decide +kernel
theorem dX3_tripleBase_12 : decode cX3_tripleBase 12 = .ok (.lmul, 1) := by decide +kernel
theorem dX3_tripleBase_13 : decode cX3_tripleBase 13 = .ok (.aload_n 0, 1) := by decide +kernel
theorem dX3_tripleBase_14 : decode cX3_tripleBase 14 = .ok (.iload_n 3, 1) := by decide +kernel
theorem dX3_tripleBase_15 : decode cX3_tripleBase 15 = .ok (.invokevirtual 49, 3) := by decide +kernel
theorem dX3_tripleBase_18 : decode cX3_tripleBase 18 = .ok (.i2l, 1) := by decide +kernel
theorem dX3_tripleBase_19 : decode cX3_tripleBase 19 = .ok (.lmul, 1) := by decide +kernel
theorem dX3_tripleBase_20 : decode cX3_tripleBase 20 = .ok (.lstore 4, 2) := by decide +kernel
theorem dX3_tripleBase_22 : decode cX3_tripleBase 22 = .ok (.lload 4, 2) := by decide +kernel
theorem dX3_tripleBase_24 : decode cX3_tripleBase 24 = .ok (.lload 4, 2) := by decide +kernel
theorem dX3_tripleBase_26 : decode cX3_tripleBase 26 = .ok (.lmul, 1) := by decide +kernel
theorem dX3_tripleBase_27 : decode cX3_tripleBase 27 = .ok (.lreturn, 1) := by decide +kernel
theorem dX3_kindOf_0 : decode cX3_kindOf 0 = .ok (.lload_n 1, 1) := by decide +kernel
theorem dX3_kindOf_1 : decode cX3_kindOf 1 = .ok (.lconst 0, 1) := by decide +kernel
theorem dX3_kindOf_2 : decode cX3_kindOf 2 = .ok (.lcmp, 1) := by decide +kernel
theorem dX3_kindOf_3 : decode cX3_kindOf 3 = .ok (.ifCond .ne 5, 3) := by decide +kernel
theorem dX3_kindOf_6 : decode cX3_kindOf 6 = .ok (.iconst 0, 1) := by decide +kernel
theorem dX3_kindOf_7 : decode cX3_kindOf 7 = .ok (.ireturn, 1) := by decide +kernel
theorem dX3_kindOf_8 : decode cX3_kindOf 8 = .ok (.aload_n 0, 1) := by decide +kernel
theorem dX3_kindOf_9 : decode cX3_kindOf 9 = .ok (.getfield 7, 3) := by decide +kernel
theorem dX3_kindOf_12 : decode cX3_kindOf 12 = .ok (.iconst 2, 1) := by decide +kernel
theorem dX3_kindOf_13 : decode cX3_kindOf 13 = .ok (.iaload, 1) := by decide +kernel
theorem dX3_kindOf_14 : decode cX3_kindOf 14 = .ok (.i2l, 1) := by decide +kernel
theorem dX3_kindOf_15 : decode cX3_kindOf 15 = .ok (.aload_n 0, 1) := by decide +kernel
theorem dX3_kindOf_16 : decode cX3_kindOf 16 = .ok (.getfield 7, 3) := by decide +kernel
theorem dX3_kindOf_19 : decode cX3_kindOf 19 = .ok (.iconst 2, 1) := by decide +kernel
theorem dX3_kindOf_20 : decode cX3_kindOf 20 = .ok (.iaload, 1) := by decide +kernel
theorem dX3_kindOf_21 : decode cX3_kindOf 21 = .ok (.i2l, 1) := by decide +kernel
theorem dX3_kindOf_22 : decode cX3_kindOf 22 = .ok (.lmul, 1) := by decide +kernel
theorem dX3_kindOf_23 : decode cX3_kindOf 23 = .ok (.lstore 5, 2) := by decide +kernel
theorem dX3_kindOf_25 : decode cX3_kindOf 25 = .ok (.aload_n 0, 1) := by decide +kernel
theorem dX3_kindOf_26 : decode cX3_kindOf 26 = .ok (.getfield 7, 3) := by decide +kernel
theorem dX3_kindOf_29 : decode cX3_kindOf 29 = .ok (.iconst 3, 1) := by decide +kernel
theorem dX3_kindOf_30 : decode cX3_kindOf 30 = .ok (.iaload, 1) := by decide +kernel
theorem dX3_kindOf_31 : decode cX3_kindOf 31 = .ok (.i2l, 1) := by decide +kernel
theorem dX3_kindOf_32 : decode cX3_kindOf 32 = .ok (.aload_n 0, 1) := by decide +kernel
theorem dX3_kindOf_33 : decode cX3_kindOf 33 = .ok (.getfield 7, 3) := by decide +kernel
theorem dX3_kindOf_36 : decode cX3_kindOf 36 = .ok (.iconst 3, 1) := by decide +kernel
theorem dX3_kindOf_37 : decode cX3_kindOf 37 = .ok (.iaload, 1) := by decide +kernel
theorem dX3_kindOf_38 : decode cX3_kindOf 38 = .ok (.i2l, 1) := by decide +kernel
theorem dX3_kindOf_39 : decode cX3_kindOf 39 = .ok (.lmul, 1) := by decide +kernel
theorem dX3_kindOf_40 : decode cX3_kindOf 40 = .ok (.lstore 7, 2) := by decide +kernel
theorem dX3_kindOf_42 : decode cX3_kindOf 42 = .ok (.lload 5, 2) := by decide +kernel
theorem dX3_kindOf_44 : decode cX3_kindOf 44 = .ok (.lload_n 3, 1) := by decide +kernel
theorem dX3_kindOf_45 : decode cX3_kindOf 45 = .ok (.lload_n 1, 1) := by decide +kernel
theorem dX3_kindOf_46 : decode cX3_kindOf 46 = .ok (.ldiv, 1) := by decide +kernel
theorem dX3_kindOf_47 : decode cX3_kindOf 47 = .ok (.lload_n 3, 1) := by decide +kernel
theorem dX3_kindOf_48 : decode cX3_kindOf 48 = .ok (.lload_n 1, 1) := by decide +kernel
theorem dX3_kindOf_49 : decode cX3_kindOf 49 = .ok (.lrem, 1) := by decide +kernel
theorem dX3_kindOf_50 : decode cX3_kindOf 50 = .ok (.lconst 0, 1) := by decide +kernel
theorem dX3_kindOf_51 : decode cX3_kindOf 51 = .ok (.lcmp, 1) := by decide +kernel
theorem dX3_kindOf_52 : decode cX3_kindOf 52 = .ok (.ifCond .le 7, 3) := by decide +kernel
theorem dX3_kindOf_55 : decode cX3_kindOf 55 = .ok (.lconst 1, 1) := by decide +kernel
theorem dX3_kindOf_56 : decode cX3_kindOf 56 = .ok (.goto 4, 3) := by decide +kernel
theorem dX3_kindOf_59 : decode cX3_kindOf 59 = .ok (.lconst 0, 1) := by decide +kernel
theorem dX3_kindOf_60 : decode cX3_kindOf 60 = .ok (.ladd, 1) := by decide +kernel
theorem dX3_kindOf_61 : decode cX3_kindOf 61 = .ok (.lcmp, 1) := by decide +kernel
theorem dX3_kindOf_62 : decode cX3_kindOf 62 = .ok (.ifCond .lt 5, 3) := by decide +kernel
theorem dX3_kindOf_65 : decode cX3_kindOf 65 = .ok (.iconst 1, 1) := by decide +kernel
theorem dX3_kindOf_66 : decode cX3_kindOf 66 = .ok (.ireturn, 1) := by decide +kernel
theorem dX3_kindOf_67 : decode cX3_kindOf 67 = .ok (.lload 7, 2) := by decide +kernel
theorem dX3_kindOf_69 : decode cX3_kindOf 69 = .ok (.lload_n 3, 1) := by decide +kernel
theorem dX3_kindOf_70 : decode cX3_kindOf 70 = .ok (.lload_n 1, 1) := by decide +kernel
theorem dX3_kindOf_71 : decode cX3_kindOf 71 = .ok (.ldiv, 1) := by decide +kernel
theorem dX3_kindOf_72 : decode cX3_kindOf 72 = .ok (.lcmp, 1) := by decide +kernel
theorem dX3_kindOf_73 : decode cX3_kindOf 73 = .ok (.ifCond .gt 7, 3) := by decide +kernel
theorem dX3_kindOf_76 : decode cX3_kindOf 76 = .ok (.iconst 2, 1) := by decide +kernel
theorem dX3_kindOf_77 : decode cX3_kindOf 77 = .ok (.goto 4, 3) := by decide +kernel
theorem dX3_kindOf_80 : decode cX3_kindOf 80 = .ok (.iconst 3, 1) := by decide +kernel
theorem dX3_kindOf_81 : decode cX3_kindOf 81 = .ok (.ireturn, 1) := by decide +kernel
theorem dX3_periodOf_0 : decode cX3_periodOf 0 = .ok (.lload_n 2, 1) := by decide +kernel
theorem dX3_periodOf_1 : decode cX3_periodOf 1 = .ok (.lload_n 0, 1) := by decide +kernel
theorem dX3_periodOf_2 : decode cX3_periodOf 2 = .ok (.ldiv, 1) := by decide +kernel
theorem dX3_periodOf_3 : decode cX3_periodOf 3 = .ok (.lstore 4, 2) := by decide +kernel
theorem dX3_periodOf_5 : decode cX3_periodOf 5 = .ok (.lconst 0, 1) := by decide +kernel
theorem dX3_periodOf_6 : decode cX3_periodOf 6 = .ok (.lstore 6, 2) := by decide +kernel
theorem dX3_periodOf_8 : decode cX3_periodOf 8 = .ok (.ldc2_w 66, 3) := by decide +kernel
theorem dX3_periodOf_11 : decode cX3_periodOf 11 = .ok (.lstore 8, 2) := by decide +kernel
theorem dX3_periodOf_13 : decode cX3_periodOf 13 = .ok (.lload 6, 2) := by decide +kernel
theorem dX3_periodOf_15 : decode cX3_periodOf 15 = .ok (.lload 8, 2) := by decide +kernel
theorem dX3_periodOf_17 : decode cX3_periodOf 17 = .ok (.lcmp, 1) := by decide +kernel
theorem dX3_periodOf_18 : decode cX3_periodOf 18 = .ok (.ifCond .ge 67, 3) := by decide +kernel
theorem dX3_periodOf_21 : decode cX3_periodOf 21 = .ok (.lload 6, 2) := by decide +kernel
theorem dX3_periodOf_23 : decode cX3_periodOf 23 = .ok (.lload 8, 2) := by decide +kernel
theorem dX3_periodOf_25 : decode cX3_periodOf 25 = .ok (.ladd, 1) := by decide +kernel
theorem dX3_periodOf_26 : decode cX3_periodOf 26 = .ok (.lconst 1, 1) := by decide +kernel
theorem dX3_periodOf_27 : decode cX3_periodOf 27 = .ok (.ladd, 1) := by decide +kernel
theorem dX3_periodOf_28 : decode cX3_periodOf 28 = .ok (.ldc2_w 68, 3) := by decide +kernel
theorem dX3_periodOf_31 : decode cX3_periodOf 31 = .ok (.ldiv, 1) := by decide +kernel
theorem dX3_periodOf_32 : decode cX3_periodOf 32 = .ok (.lstore 10, 2) := by decide +kernel
theorem dX3_periodOf_34 : decode cX3_periodOf 34 = .ok (.lload 10, 2) := by decide +kernel
theorem dX3_periodOf_36 : decode cX3_periodOf 36 = .ok (.lload 10, 2) := by decide +kernel
theorem dX3_periodOf_38 : decode cX3_periodOf 38 = .ok (.lmul, 1) := by decide +kernel
theorem dX3_periodOf_39 : decode cX3_periodOf 39 = .ok (.lload 4, 2) := by decide +kernel
theorem dX3_periodOf_41 : decode cX3_periodOf 41 = .ok (.lcmp, 1) := by decide +kernel
theorem dX3_periodOf_42 : decode cX3_periodOf 42 = .ok (.ifCond .gt 7, 3) := by decide +kernel
theorem dX3_periodOf_45 : decode cX3_periodOf 45 = .ok (.iconst 1, 1) := by decide +kernel
theorem dX3_periodOf_46 : decode cX3_periodOf 46 = .ok (.goto 4, 3) := by decide +kernel
theorem dX3_periodOf_49 : decode cX3_periodOf 49 = .ok (.iconst 0, 1) := by decide +kernel
theorem dX3_periodOf_50 : decode cX3_periodOf 50 = .ok (.istore 12, 2) := by decide +kernel
theorem dX3_periodOf_52 : decode cX3_periodOf 52 = .ok (.iload 12, 2) := by decide +kernel
theorem dX3_periodOf_54 : decode cX3_periodOf 54 = .ok (.ifCond .eq 8, 3) := by decide +kernel
theorem dX3_periodOf_57 : decode cX3_periodOf 57 = .ok (.lload 10, 2) := by decide +kernel
theorem dX3_periodOf_59 : decode cX3_periodOf 59 = .ok (.goto 5, 3) := by decide +kernel
theorem dX3_periodOf_62 : decode cX3_periodOf 62 = .ok (.lload 6, 2) := by decide +kernel
theorem dX3_periodOf_64 : decode cX3_periodOf 64 = .ok (.lstore 6, 2) := by decide +kernel
theorem dX3_periodOf_66 : decode cX3_periodOf 66 = .ok (.iload 12, 2) := by decide +kernel
theorem dX3_periodOf_68 : decode cX3_periodOf 68 = .ok (.ifCond .eq 8, 3) := by decide +kernel
theorem dX3_periodOf_71 : decode cX3_periodOf 71 = .ok (.lload 8, 2) := by decide +kernel
theorem dX3_periodOf_73 : decode cX3_periodOf 73 = .ok (.goto 7, 3) := by decide +kernel
theorem dX3_periodOf_76 : decode cX3_periodOf 76 = .ok (.lload 10, 2) := by decide +kernel
theorem dX3_periodOf_78 : decode cX3_periodOf 78 = .ok (.lconst 1, 1) := by decide +kernel
theorem dX3_periodOf_79 : decode cX3_periodOf 79 = .ok (.lsub, 1) := by decide +kernel
theorem dX3_periodOf_80 : decode cX3_periodOf 80 = .ok (.lstore 8, 2) := by decide +kernel
theorem dX3_periodOf_82 : decode cX3_periodOf 82 = .ok (.goto (-69), 3) := by decide +kernel
theorem dX3_periodOf_85 : decode cX3_periodOf 85 = .ok (.lload 6, 2) := by decide +kernel
theorem dX3_periodOf_87 : decode cX3_periodOf 87 = .ok (.l2i, 1) := by decide +kernel
theorem dX3_periodOf_88 : decode cX3_periodOf 88 = .ok (.ireturn, 1) := by decide +kernel
theorem dX3_isPart_0 : decode cX3_isPart 0 = .ok (.iload_n 1, 1) := by decide +kernel
theorem dX3_isPart_1 : decode cX3_isPart 1 = .ok (.aload_n 0, 1) := by decide +kernel
theorem dX3_isPart_2 : decode cX3_isPart 2 = .ok (.getfield 7, 3) := by decide +kernel
theorem dX3_isPart_5 : decode cX3_isPart 5 = .ok (.iconst 1, 1) := by decide +kernel
theorem dX3_isPart_6 : decode cX3_isPart 6 = .ok (.iaload, 1) := by decide +kernel
theorem dX3_isPart_7 : decode cX3_isPart 7 = .ok (.ineg, 1) := by decide +kernel
theorem dX3_isPart_8 : decode cX3_isPart 8 = .ok (.aload_n 0, 1) := by decide +kernel
theorem dX3_isPart_9 : decode cX3_isPart 9 = .ok (.getfield 7, 3) := by decide +kernel
theorem dX3_isPart_12 : decode cX3_isPart 12 = .ok (.iconst 1, 1) := by decide +kernel
theorem dX3_isPart_13 : decode cX3_isPart 13 = .ok (.iaload, 1) := by decide +kernel
theorem dX3_isPart_14 : decode cX3_isPart 14 = .ok (.invokestatic 27, 3) := by decide +kernel
theorem dX3_isPart_17 : decode cX3_isPart 17 = .ok (.ifCond .eq 35, 3) := by decide +kernel
theorem dX3_isPart_20 : decode cX3_isPart 20 = .ok (.iload_n 2, 1) := by decide +kernel
theorem dX3_isPart_21 : decode cX3_isPart 21 = .ok (.aload_n 0, 1) := by decide +kernel
theorem dX3_isPart_22 : decode cX3_isPart 22 = .ok (.getfield 7, 3) := by decide +kernel
theorem dX3_isPart_25 : decode cX3_isPart 25 = .ok (.iconst 1, 1) := by decide +kernel
theorem dX3_isPart_26 : decode cX3_isPart 26 = .ok (.iaload, 1) := by decide +kernel
theorem dX3_isPart_27 : decode cX3_isPart 27 = .ok (.ineg, 1) := by decide +kernel
theorem dX3_isPart_28 : decode cX3_isPart 28 = .ok (.aload_n 0, 1) := by decide +kernel
theorem dX3_isPart_29 : decode cX3_isPart 29 = .ok (.getfield 7, 3) := by decide +kernel
theorem dX3_isPart_32 : decode cX3_isPart 32 = .ok (.iconst 1, 1) := by decide +kernel
theorem dX3_isPart_33 : decode cX3_isPart 33 = .ok (.iaload, 1) := by decide +kernel
theorem dX3_isPart_34 : decode cX3_isPart 34 = .ok (.invokestatic 27, 3) := by decide +kernel
theorem dX3_isPart_37 : decode cX3_isPart 37 = .ok (.ifCond .eq 15, 3) := by decide +kernel
theorem dX3_isPart_40 : decode cX3_isPart 40 = .ok (.iload_n 1, 1) := by decide +kernel
theorem dX3_isPart_41 : decode cX3_isPart 41 = .ok (.ifCond .ne 7, 3) := by decide +kernel
theorem dX3_isPart_44 : decode cX3_isPart 44 = .ok (.iload_n 2, 1) := by decide +kernel
theorem dX3_isPart_45 : decode cX3_isPart 45 = .ok (.ifCond .eq 7, 3) := by decide +kernel
theorem dX3_isPart_48 : decode cX3_isPart 48 = .ok (.iconst 1, 1) := by decide +kernel
theorem dX3_isPart_49 : decode cX3_isPart 49 = .ok (.goto 4, 3) := by decide +kernel
theorem dX3_isPart_52 : decode cX3_isPart 52 = .ok (.iconst 0, 1) := by decide +kernel
theorem dX3_isPart_53 : decode cX3_isPart 53 = .ok (.ireturn, 1) := by decide +kernel
theorem dX3_isCombination_0 : decode cX3_isCombination 0 = .ok (.aload_n 0, 1) := by decide +kernel
theorem dX3_isCombination_1 : decode cX3_isCombination 1 = .ok (.iload_n 1, 1) := by decide +kernel
theorem dX3_isCombination_2 : decode cX3_isCombination 2 = .ok (.iload_n 2, 1) := by decide +kernel
theorem dX3_isCombination_3 : decode cX3_isCombination 3 = .ok (.invokevirtual 70, 3) := by decide +kernel
theorem dX3_isCombination_6 : decode cX3_isCombination 6 = .ok (.ifCond .eq 28, 3) := by decide +kernel
theorem dX3_isCombination_9 : decode cX3_isCombination 9 = .ok (.aload_n 0, 1) := by decide +kernel
theorem dX3_isCombination_10 : decode cX3_isCombination 10 = .ok (.iload_n 3, 1) := by decide +kernel
theorem dX3_isCombination_11 : decode cX3_isCombination 11 = .ok (.iload 4, 2) := by decide +kernel
theorem dX3_isCombination_13 : decode cX3_isCombination 13 = .ok (.invokevirtual 73, 3) := by decide +kernel
theorem dX3_isCombination_16 : decode cX3_isCombination 16 = .ok (.ifCond .eq 18, 3) := by decide +kernel
theorem dX3_isCombination_19 : decode cX3_isCombination 19 = .ok (.aload_n 0, 1) := by decide +kernel
theorem dX3_isCombination_20 : decode cX3_isCombination 20 = .ok (.iload 5, 2) := by decide +kernel
theorem dX3_isCombination_22 : decode cX3_isCombination 22 = .ok (.iload 6, 2) := by decide +kernel
theorem dX3_isCombination_24 : decode cX3_isCombination 24 = .ok (.invokevirtual 73, 3) := by decide +kernel
theorem dX3_isCombination_27 : decode cX3_isCombination 27 = .ok (.ifCond .eq 7, 3) := by decide +kernel
theorem dX3_isCombination_30 : decode cX3_isCombination 30 = .ok (.iconst 1, 1) := by decide +kernel
theorem dX3_isCombination_31 : decode cX3_isCombination 31 = .ok (.goto 4, 3) := by decide +kernel
theorem dX3_isCombination_34 : decode cX3_isCombination 34 = .ok (.iconst 0, 1) := by decide +kernel
theorem dX3_isCombination_35 : decode cX3_isCombination 35 = .ok (.ireturn, 1) := by decide +kernel
theorem dX3_squareNumerator_0 : decode cX3_squareNumerator 0 = .ok (.aload_n 0, 1) := by decide +kernel
theorem dX3_squareNumerator_1 : decode cX3_squareNumerator 1 = .ok (.iload_n 1, 1) := by decide +kernel
theorem dX3_squareNumerator_2 : decode cX3_squareNumerator 2 = .ok (.iload_n 2, 1) := by decide +kernel
theorem dX3_squareNumerator_3 : decode cX3_squareNumerator 3 = .ok (.iload_n 3, 1) := by decide +kernel
theorem dX3_squareNumerator_4 : decode cX3_squareNumerator 4 = .ok (.iload 4, 2) := by decide +kernel
theorem dX3_squareNumerator_6 : decode cX3_squareNumerator 6 = .ok (.iload 5, 2) := by decide +kernel
theorem dX3_squareNumerator_8 : decode cX3_squareNumerator 8 = .ok (.iload 6, 2) := by decide +kernel
theorem dX3_squareNumerator_10 : decode cX3_squareNumerator 10 = .ok (.invokevirtual 76, 3) := by decide +kernel
theorem dX3_squareNumerator_13 : decode cX3_squareNumerator 13 = .ok (.ifCond .ne 7, 3) := by decide +kernel
theorem dX3_squareNumerator_16 : decode cX3_squareNumerator 16 = .ok (.ldc2_w 80, 3) := by decide +kernel
theorem dX3_squareNumerator_19 : decode cX3_squareNumerator 19 = .ok (.lreturn, 1) := by decide +kernel
theorem dX3_squareNumerator_20 : decode cX3_squareNumerator 20 = .ok (.aload_n 0, 1) := by decide +kernel
theorem dX3_squareNumerator_21 : decode cX3_squareNumerator 21 = .ok (.iload_n 1, 1) := by decide +kernel
theorem dX3_squareNumerator_22 : decode cX3_squareNumerator 22 = .ok (.iload_n 2, 1) := by decide +kernel
theorem dX3_squareNumerator_23 : decode cX3_squareNumerator 23 = .ok (.iload_n 3, 1) := by decide +kernel
theorem dX3_squareNumerator_24 : decode cX3_squareNumerator 24 = .ok (.iload 4, 2) := by decide +kernel
theorem dX3_squareNumerator_26 : decode cX3_squareNumerator 26 = .ok (.iload 5, 2) := by decide +kernel
theorem dX3_squareNumerator_28 : decode cX3_squareNumerator 28 = .ok (.iload 6, 2) := by decide +kernel
theorem dX3_squareNumerator_30 : decode cX3_squareNumerator 30 = .ok (.invokevirtual 82, 3) := by decide +kernel
theorem dX3_squareNumerator_33 : decode cX3_squareNumerator 33 = .ok (.lstore 7, 2) := by decide +kernel
theorem dX3_squareNumerator_35 : decode cX3_squareNumerator 35 = .ok (.lload 7, 2) := by decide +kernel
theorem dX3_squareNumerator_37 : decode cX3_squareNumerator 37 = .ok (.lload 7, 2) := by decide +kernel
theorem dX3_squareNumerator_39 : decode cX3_squareNumerator 39 = .ok (.aload_n 0, 1) := by decide +kernel
theorem dX3_squareNumerator_40 : decode cX3_squareNumerator 40 = .ok (.iload_n 1, 1) := by decide +kernel
theorem dX3_squareNumerator_41 : decode cX3_squareNumerator 41 = .ok (.iload_n 2, 1) := by decide +kernel
theorem dX3_squareNumerator_42 : decode cX3_squareNumerator 42 = .ok (.invokevirtual 86, 3) := by decide +kernel
theorem dX3_squareNumerator_45 : decode cX3_squareNumerator 45 = .ok (.invokestatic 52, 3) := by decide +kernel
theorem dX3_squareNumerator_48 : decode cX3_squareNumerator 48 = .ok (.ldiv, 1) := by decide +kernel
theorem dX3_squareNumerator_49 : decode cX3_squareNumerator 49 = .ok (.lreturn, 1) := by decide +kernel
theorem dX3_squareDenominator_0 : decode cX3_squareDenominator 0 = .ok (.aload_n 0, 1) := by decide +kernel
theorem dX3_squareDenominator_1 : decode cX3_squareDenominator 1 = .ok (.iload_n 1, 1) := by decide +kernel
theorem dX3_squareDenominator_2 : decode cX3_squareDenominator 2 = .ok (.iload_n 2, 1) := by decide +kernel
theorem dX3_squareDenominator_3 : decode cX3_squareDenominator 3 = .ok (.iload_n 3, 1) := by decide +kernel
theorem dX3_squareDenominator_4 : decode cX3_squareDenominator 4 = .ok (.iload 4, 2) := by decide +kernel
theorem dX3_squareDenominator_6 : decode cX3_squareDenominator 6 = .ok (.iload 5, 2) := by decide +kernel
theorem dX3_squareDenominator_8 : decode cX3_squareDenominator 8 = .ok (.iload 6, 2) := by decide +kernel
theorem dX3_squareDenominator_10 : decode cX3_squareDenominator 10 = .ok (.invokevirtual 76, 3) := by decide +kernel
theorem dX3_squareDenominator_13 : decode cX3_squareDenominator 13 = .ok (.ifCond .ne 7, 3) := by decide +kernel
theorem dX3_squareDenominator_16 : decode cX3_squareDenominator 16 = .ok (.ldc2_w 80, 3) := by decide +kernel
theorem dX3_squareDenominator_19 : decode cX3_squareDenominator 19 = .ok (.lreturn, 1) := by decide +kernel
theorem dX3_squareDenominator_20 : decode cX3_squareDenominator 20 = .ok (.aload_n 0, 1) := by decide +kernel
theorem dX3_squareDenominator_21 : decode cX3_squareDenominator 21 = .ok (.iload_n 1, 1) := by decide +kernel
theorem dX3_squareDenominator_22 : decode cX3_squareDenominator 22 = .ok (.iload_n 2, 1) := by decide +kernel
theorem dX3_squareDenominator_23 : decode cX3_squareDenominator 23 = .ok (.invokevirtual 86, 3) := by decide +kernel
theorem dX3_squareDenominator_26 : decode cX3_squareDenominator 26 = .ok (.lstore 7, 2) := by decide +kernel
theorem dX3_squareDenominator_28 : decode cX3_squareDenominator 28 = .ok (.lload 7, 2) := by decide +kernel
theorem dX3_squareDenominator_30 : decode cX3_squareDenominator 30 = .ok (.aload_n 0, 1) := by decide +kernel
theorem dX3_squareDenominator_31 : decode cX3_squareDenominator 31 = .ok (.iload_n 1, 1) := by decide +kernel
theorem dX3_squareDenominator_32 : decode cX3_squareDenominator 32 = .ok (.iload_n 2, 1) := by decide +kernel
theorem dX3_squareDenominator_33 : decode cX3_squareDenominator 33 = .ok (.iload_n 3, 1) := by decide +kernel
theorem dX3_squareDenominator_34 : decode cX3_squareDenominator 34 = .ok (.iload 4, 2) := by decide +kernel
theorem dX3_squareDenominator_36 : decode cX3_squareDenominator 36 = .ok (.iload 5, 2) := by decide +kernel
theorem dX3_squareDenominator_38 : decode cX3_squareDenominator 38 = .ok (.iload 6, 2) := by decide +kernel
theorem dX3_squareDenominator_40 : decode cX3_squareDenominator 40 = .ok (.invokevirtual 82, 3) := by decide +kernel
theorem dX3_squareDenominator_43 : decode cX3_squareDenominator 43 = .ok (.lload 7, 2) := by decide +kernel
theorem dX3_squareDenominator_45 : decode cX3_squareDenominator 45 = .ok (.invokestatic 52, 3) := by decide +kernel
theorem dX3_squareDenominator_48 : decode cX3_squareDenominator 48 = .ok (.ldiv, 1) := by decide +kernel
theorem dX3_squareDenominator_49 : decode cX3_squareDenominator 49 = .ok (.lreturn, 1) := by decide +kernel
theorem dX3_kind_0 : decode cX3_kind 0 = .ok (.aload_n 0, 1) := by decide +kernel
theorem dX3_kind_1 : decode cX3_kind 1 = .ok (.iload_n 1, 1) := by decide +kernel
theorem dX3_kind_2 : decode cX3_kind 2 = .ok (.iload_n 2, 1) := by decide +kernel
theorem dX3_kind_3 : decode cX3_kind 3 = .ok (.iload_n 3, 1) := by decide +kernel
theorem dX3_kind_4 : decode cX3_kind 4 = .ok (.iload 4, 2) := by decide +kernel
theorem dX3_kind_6 : decode cX3_kind 6 = .ok (.iload 5, 2) := by decide +kernel
theorem dX3_kind_8 : decode cX3_kind 8 = .ok (.iload 6, 2) := by decide +kernel
theorem dX3_kind_10 : decode cX3_kind 10 = .ok (.invokevirtual 76, 3) := by decide +kernel
theorem dX3_kind_13 : decode cX3_kind 13 = .ok (.ifCond .eq 29, 3) := by decide +kernel
theorem dX3_kind_16 : decode cX3_kind 16 = .ok (.aload_n 0, 1) := by decide +kernel
theorem dX3_kind_17 : decode cX3_kind 17 = .ok (.aload_n 0, 1) := by decide +kernel
theorem dX3_kind_18 : decode cX3_kind 18 = .ok (.iload_n 1, 1) := by decide +kernel
theorem dX3_kind_19 : decode cX3_kind 19 = .ok (.iload_n 2, 1) := by decide +kernel
theorem dX3_kind_20 : decode cX3_kind 20 = .ok (.iload_n 3, 1) := by decide +kernel
theorem dX3_kind_21 : decode cX3_kind 21 = .ok (.iload 4, 2) := by decide +kernel
theorem dX3_kind_23 : decode cX3_kind 23 = .ok (.iload 5, 2) := by decide +kernel
theorem dX3_kind_25 : decode cX3_kind 25 = .ok (.iload 6, 2) := by decide +kernel
theorem dX3_kind_27 : decode cX3_kind 27 = .ok (.invokevirtual 82, 3) := by decide +kernel
theorem dX3_kind_30 : decode cX3_kind 30 = .ok (.aload_n 0, 1) := by decide +kernel
theorem dX3_kind_31 : decode cX3_kind 31 = .ok (.iload_n 1, 1) := by decide +kernel
theorem dX3_kind_32 : decode cX3_kind 32 = .ok (.iload_n 2, 1) := by decide +kernel
theorem dX3_kind_33 : decode cX3_kind 33 = .ok (.invokevirtual 86, 3) := by decide +kernel
theorem dX3_kind_36 : decode cX3_kind 36 = .ok (.invokevirtual 90, 3) := by decide +kernel
theorem dX3_kind_39 : decode cX3_kind 39 = .ok (.goto 4, 3) := by decide +kernel
theorem dX3_kind_42 : decode cX3_kind 42 = .ok (.iconst (-1), 1) := by decide +kernel
theorem dX3_kind_43 : decode cX3_kind 43 = .ok (.ireturn, 1) := by decide +kernel
theorem dX3_laySquares_0 : decode cX3_laySquares 0 = .ok (.aload_n 0, 1) := by decide +kernel
theorem dX3_laySquares_1 : decode cX3_laySquares 1 = .ok (.iconst 0, 1) := by decide +kernel
theorem dX3_laySquares_2 : decode cX3_laySquares 2 = .ok (.putfield 94, 3) := by decide +kernel
theorem dX3_laySquares_5 : decode cX3_laySquares 5 = .ok (.aload_n 0, 1) := by decide +kernel
theorem dX3_laySquares_6 : decode cX3_laySquares 6 = .ok (.getfield 7, 3) := by decide +kernel
theorem dX3_laySquares_9 : decode cX3_laySquares 9 = .ok (.iconst 1, 1) := by decide +kernel
theorem dX3_laySquares_10 : decode cX3_laySquares 10 = .ok (.iaload, 1) := by decide +kernel
theorem dX3_laySquares_11 : decode cX3_laySquares 11 = .ok (.istore_n 3, 1) := by decide +kernel
theorem dX3_laySquares_12 : decode cX3_laySquares 12 = .ok (.iload_n 3, 1) := by decide +kernel
theorem dX3_laySquares_13 : decode cX3_laySquares 13 = .ok (.ineg, 1) := by decide +kernel
theorem dX3_laySquares_14 : decode cX3_laySquares 14 = .ok (.istore 4, 2) := by decide +kernel
theorem dX3_laySquares_16 : decode cX3_laySquares 16 = .ok (.iload 4, 2) := by decide +kernel
theorem dX3_laySquares_18 : decode cX3_laySquares 18 = .ok (.iload_n 3, 1) := by decide +kernel
theorem dX3_laySquares_19 : decode cX3_laySquares 19 = .ok (.if_icmp .gt 45, 3) := by decide +kernel
theorem dX3_laySquares_22 : decode cX3_laySquares 22 = .ok (.iload_n 3, 1) := by decide +kernel
theorem dX3_laySquares_23 : decode cX3_laySquares 23 = .ok (.ineg, 1) := by decide +kernel
theorem dX3_laySquares_24 : decode cX3_laySquares 24 = .ok (.istore 5, 2) := by decide +kernel
theorem dX3_laySquares_26 : decode cX3_laySquares 26 = .ok (.iload 5, 2) := by decide +kernel
theorem dX3_laySquares_28 : decode cX3_laySquares 28 = .ok (.iload_n 3, 1) := by decide +kernel
theorem dX3_laySquares_29 : decode cX3_laySquares 29 = .ok (.if_icmp .gt 29, 3) := by decide +kernel
theorem dX3_laySquares_32 : decode cX3_laySquares 32 = .ok (.iload 4, 2) := by decide +kernel
theorem dX3_laySquares_34 : decode cX3_laySquares 34 = .ok (.ifCond .ne 8, 3) := by decide +kernel
theorem dX3_laySquares_37 : decode cX3_laySquares 37 = .ok (.iload 5, 2) := by decide +kernel
theorem dX3_laySquares_39 : decode cX3_laySquares 39 = .ok (.ifCond .eq 13, 3) := by decide +kernel
theorem dX3_laySquares_42 : decode cX3_laySquares 42 = .ok (.aload_n 0, 1) := by decide +kernel
theorem dX3_laySquares_43 : decode cX3_laySquares 43 = .ok (.iload_n 1, 1) := by decide +kernel
theorem dX3_laySquares_44 : decode cX3_laySquares 44 = .ok (.iload_n 2, 1) := by decide +kernel
theorem dX3_laySquares_45 : decode cX3_laySquares 45 = .ok (.iload 4, 2) := by decide +kernel
theorem dX3_laySquares_47 : decode cX3_laySquares 47 = .ok (.iload 5, 2) := by decide +kernel
theorem dX3_laySquares_49 : decode cX3_laySquares 49 = .ok (.invokevirtual 97, 3) := by decide +kernel
theorem dX3_laySquares_52 : decode cX3_laySquares 52 = .ok (.iinc 5 1, 3) := by decide +kernel
theorem dX3_laySquares_55 : decode cX3_laySquares 55 = .ok (.goto (-29), 3) := by decide +kernel
theorem dX3_laySquares_58 : decode cX3_laySquares 58 = .ok (.iinc 4 1, 3) := by decide +kernel
theorem dX3_laySquares_61 : decode cX3_laySquares 61 = .ok (.goto (-45), 3) := by decide +kernel
theorem dX3_laySquares_64 : decode cX3_laySquares 64 = .ok (.return_, 1) := by decide +kernel
theorem dX3_layWith_0 : decode cX3_layWith 0 = .ok (.aload_n 0, 1) := by decide +kernel
theorem dX3_layWith_1 : decode cX3_layWith 1 = .ok (.getfield 7, 3) := by decide +kernel
theorem dX3_layWith_4 : decode cX3_layWith 4 = .ok (.iconst 1, 1) := by decide +kernel
theorem dX3_layWith_5 : decode cX3_layWith 5 = .ok (.iaload, 1) := by decide +kernel
theorem dX3_layWith_6 : decode cX3_layWith 6 = .ok (.istore 5, 2) := by decide +kernel
theorem dX3_layWith_8 : decode cX3_layWith 8 = .ok (.iload 5, 2) := by decide +kernel
theorem dX3_layWith_10 : decode cX3_layWith 10 = .ok (.ineg, 1) := by decide +kernel
theorem dX3_layWith_11 : decode cX3_layWith 11 = .ok (.istore 6, 2) := by decide +kernel
theorem dX3_layWith_13 : decode cX3_layWith 13 = .ok (.iload 6, 2) := by decide +kernel
theorem dX3_layWith_15 : decode cX3_layWith 15 = .ok (.iload 5, 2) := by decide +kernel
theorem dX3_layWith_17 : decode cX3_layWith 17 = .ok (.if_icmp .gt 54, 3) := by decide +kernel
theorem dX3_layWith_20 : decode cX3_layWith 20 = .ok (.iload 5, 2) := by decide +kernel
theorem dX3_layWith_22 : decode cX3_layWith 22 = .ok (.ineg, 1) := by decide +kernel
theorem dX3_layWith_23 : decode cX3_layWith 23 = .ok (.istore 7, 2) := by decide +kernel
theorem dX3_layWith_25 : decode cX3_layWith 25 = .ok (.iload 7, 2) := by decide +kernel
theorem dX3_layWith_27 : decode cX3_layWith 27 = .ok (.iload 5, 2) := by decide +kernel
theorem dX3_layWith_29 : decode cX3_layWith 29 = .ok (.if_icmp .gt 36, 3) := by decide +kernel
theorem dX3_layWith_32 : decode cX3_layWith 32 = .ok (.iload 6, 2) := by decide +kernel
theorem dX3_layWith_34 : decode cX3_layWith 34 = .ok (.ifCond .ne 8, 3) := by decide +kernel
theorem dX3_layWith_37 : decode cX3_layWith 37 = .ok (.iload 7, 2) := by decide +kernel
theorem dX3_layWith_39 : decode cX3_layWith 39 = .ok (.ifCond .eq 20, 3) := by decide +kernel
theorem dX3_layWith_42 : decode cX3_layWith 42 = .ok (.aload_n 0, 1) := by decide +kernel
theorem dX3_layWith_43 : decode cX3_layWith 43 = .ok (.aload_n 0, 1) := by decide +kernel
theorem dX3_layWith_44 : decode cX3_layWith 44 = .ok (.iload_n 1, 1) := by decide +kernel
theorem dX3_layWith_45 : decode cX3_layWith 45 = .ok (.iload_n 2, 1) := by decide +kernel
theorem dX3_layWith_46 : decode cX3_layWith 46 = .ok (.iload_n 3, 1) := by decide +kernel
theorem dX3_layWith_47 : decode cX3_layWith 47 = .ok (.iload 4, 2) := by decide +kernel
theorem dX3_layWith_49 : decode cX3_layWith 49 = .ok (.iload 6, 2) := by decide +kernel
theorem dX3_layWith_51 : decode cX3_layWith 51 = .ok (.iload 7, 2) := by decide +kernel
theorem dX3_layWith_53 : decode cX3_layWith 53 = .ok (.invokevirtual 82, 3) := by decide +kernel
theorem dX3_layWith_56 : decode cX3_layWith 56 = .ok (.invokevirtual 101, 3) := by decide +kernel
theorem dX3_layWith_59 : decode cX3_layWith 59 = .ok (.iinc 7 1, 3) := by decide +kernel
theorem dX3_layWith_62 : decode cX3_layWith 62 = .ok (.goto (-37), 3) := by decide +kernel
theorem dX3_layWith_65 : decode cX3_layWith 65 = .ok (.iinc 6 1, 3) := by decide +kernel
theorem dX3_layWith_68 : decode cX3_layWith 68 = .ok (.goto (-55), 3) := by decide +kernel
theorem dX3_layWith_71 : decode cX3_layWith 71 = .ok (.return_, 1) := by decide +kernel
theorem dX3_insert_0 : decode cX3_insert 0 = .ok (.aload_n 0, 1) := by decide +kernel
theorem dX3_insert_1 : decode cX3_insert 1 = .ok (.getfield 94, 3) := by decide +kernel
theorem dX3_insert_4 : decode cX3_insert 4 = .ok (.istore_n 3, 1) := by decide +kernel
theorem dX3_insert_5 : decode cX3_insert 5 = .ok (.iload_n 3, 1) := by decide +kernel
theorem dX3_insert_6 : decode cX3_insert 6 = .ok (.ifCond .le 36, 3) := by decide +kernel
theorem dX3_insert_9 : decode cX3_insert 9 = .ok (.aload_n 0, 1) := by decide +kernel
theorem dX3_insert_10 : decode cX3_insert 10 = .ok (.getfield 19, 3) := by decide +kernel
theorem dX3_insert_13 : decode cX3_insert 13 = .ok (.iload_n 3, 1) := by decide +kernel
theorem dX3_insert_14 : decode cX3_insert 14 = .ok (.iconst 1, 1) := by decide +kernel
theorem dX3_insert_15 : decode cX3_insert 15 = .ok (.isub, 1) := by decide +kernel
theorem dX3_insert_16 : decode cX3_insert 16 = .ok (.laload, 1) := by decide +kernel
theorem dX3_insert_17 : decode cX3_insert 17 = .ok (.lload_n 1, 1) := by decide +kernel
theorem dX3_insert_18 : decode cX3_insert 18 = .ok (.lcmp, 1) := by decide +kernel
theorem dX3_insert_19 : decode cX3_insert 19 = .ok (.ifCond .le 23, 3) := by decide +kernel
theorem dX3_insert_22 : decode cX3_insert 22 = .ok (.aload_n 0, 1) := by decide +kernel
theorem dX3_insert_23 : decode cX3_insert 23 = .ok (.getfield 19, 3) := by decide +kernel
theorem dX3_insert_26 : decode cX3_insert 26 = .ok (.iload_n 3, 1) := by decide +kernel
theorem dX3_insert_27 : decode cX3_insert 27 = .ok (.aload_n 0, 1) := by decide +kernel
theorem dX3_insert_28 : decode cX3_insert 28 = .ok (.getfield 19, 3) := by decide +kernel
theorem dX3_insert_31 : decode cX3_insert 31 = .ok (.iload_n 3, 1) := by decide +kernel
theorem dX3_insert_32 : decode cX3_insert 32 = .ok (.iconst 1, 1) := by decide +kernel
theorem dX3_insert_33 : decode cX3_insert 33 = .ok (.isub, 1) := by decide +kernel
theorem dX3_insert_34 : decode cX3_insert 34 = .ok (.laload, 1) := by decide +kernel
theorem dX3_insert_35 : decode cX3_insert 35 = .ok (.lastore, 1) := by decide +kernel
theorem dX3_insert_36 : decode cX3_insert 36 = .ok (.iinc 3 (-1), 3) := by decide +kernel
theorem dX3_insert_39 : decode cX3_insert 39 = .ok (.goto (-34), 3) := by decide +kernel
theorem dX3_insert_42 : decode cX3_insert 42 = .ok (.aload_n 0, 1) := by decide +kernel
theorem dX3_insert_43 : decode cX3_insert 43 = .ok (.getfield 19, 3) := by decide +kernel
theorem dX3_insert_46 : decode cX3_insert 46 = .ok (.iload_n 3, 1) := by decide +kernel
theorem dX3_insert_47 : decode cX3_insert 47 = .ok (.lload_n 1, 1) := by decide +kernel
theorem dX3_insert_48 : decode cX3_insert 48 = .ok (.lastore, 1) := by decide +kernel
theorem dX3_insert_49 : decode cX3_insert 49 = .ok (.aload_n 0, 1) := by decide +kernel
theorem dX3_insert_50 : decode cX3_insert 50 = .ok (.dup, 1) := by decide +kernel
theorem dX3_insert_51 : decode cX3_insert 51 = .ok (.getfield 94, 3) := by decide +kernel
theorem dX3_insert_54 : decode cX3_insert 54 = .ok (.iconst 1, 1) := by decide +kernel
theorem dX3_insert_55 : decode cX3_insert 55 = .ok (.iadd, 1) := by decide +kernel
theorem dX3_insert_56 : decode cX3_insert 56 = .ok (.putfield 94, 3) := by decide +kernel
theorem dX3_insert_59 : decode cX3_insert 59 = .ok (.return_, 1) := by decide +kernel
theorem dX3_placeOf_0 : decode cX3_placeOf 0 = .ok (.iload_n 1, 1) := by decide +kernel
theorem dX3_placeOf_1 : decode cX3_placeOf 1 = .ok (.istore_n 2, 1) := by decide +kernel
theorem dX3_placeOf_2 : decode cX3_placeOf 2 = .ok (.iconst 0, 1) := by decide +kernel
theorem dX3_placeOf_3 : decode cX3_placeOf 3 = .ok (.istore_n 3, 1) := by decide +kernel
theorem dX3_placeOf_4 : decode cX3_placeOf 4 = .ok (.iload_n 3, 1) := by decide +kernel
theorem dX3_placeOf_5 : decode cX3_placeOf 5 = .ok (.aload_n 0, 1) := by decide +kernel
theorem dX3_placeOf_6 : decode cX3_placeOf 6 = .ok (.getfield 94, 3) := by decide +kernel
theorem dX3_placeOf_9 : decode cX3_placeOf 9 = .ok (.if_icmp .ge 19, 3) := by decide +kernel
theorem dX3_placeOf_12 : decode cX3_placeOf 12 = .ok (.iload_n 2, 1) := by decide +kernel
theorem dX3_placeOf_13 : decode cX3_placeOf 13 = .ok (.ifCond .le 15, 3) := by decide +kernel
theorem dX3_placeOf_16 : decode cX3_placeOf 16 = .ok (.aload_n 0, 1) := by decide +kernel
theorem dX3_placeOf_17 : decode cX3_placeOf 17 = .ok (.iload_n 3, 1) := by decide +kernel
theorem dX3_placeOf_18 : decode cX3_placeOf 18 = .ok (.invokevirtual 105, 3) := by decide +kernel
theorem dX3_placeOf_21 : decode cX3_placeOf 21 = .ok (.istore_n 3, 1) := by decide +kernel
theorem dX3_placeOf_22 : decode cX3_placeOf 22 = .ok (.iinc 2 (-1), 3) := by decide +kernel
theorem dX3_placeOf_25 : decode cX3_placeOf 25 = .ok (.goto (-21), 3) := by decide +kernel
theorem dX3_placeOf_28 : decode cX3_placeOf 28 = .ok (.iload_n 3, 1) := by decide +kernel
theorem dX3_placeOf_29 : decode cX3_placeOf 29 = .ok (.ireturn, 1) := by decide +kernel
theorem dX3_behind_0 : decode cX3_behind 0 = .ok (.iload_n 1, 1) := by decide +kernel
theorem dX3_behind_1 : decode cX3_behind 1 = .ok (.istore_n 2, 1) := by decide +kernel
theorem dX3_behind_2 : decode cX3_behind 2 = .ok (.iload_n 2, 1) := by decide +kernel
theorem dX3_behind_3 : decode cX3_behind 3 = .ok (.aload_n 0, 1) := by decide +kernel
theorem dX3_behind_4 : decode cX3_behind 4 = .ok (.getfield 94, 3) := by decide +kernel
theorem dX3_behind_7 : decode cX3_behind 7 = .ok (.if_icmp .ge 25, 3) := by decide +kernel
theorem dX3_behind_10 : decode cX3_behind 10 = .ok (.aload_n 0, 1) := by decide +kernel
theorem dX3_behind_11 : decode cX3_behind 11 = .ok (.getfield 19, 3) := by decide +kernel
theorem dX3_behind_14 : decode cX3_behind 14 = .ok (.iload_n 2, 1) := by decide +kernel
theorem dX3_behind_15 : decode cX3_behind 15 = .ok (.laload, 1) := by decide +kernel
theorem dX3_behind_16 : decode cX3_behind 16 = .ok (.aload_n 0, 1) := by decide +kernel
theorem dX3_behind_17 : decode cX3_behind 17 = .ok (.getfield 19, 3) := by decide +kernel
theorem dX3_behind_20 : decode cX3_behind 20 = .ok (.iload_n 1, 1) := by decide +kernel
theorem dX3_behind_21 : decode cX3_behind 21 = .ok (.laload, 1) := by decide +kernel
theorem dX3_behind_22 : decode cX3_behind 22 = .ok (.lcmp, 1) := by decide +kernel
theorem dX3_behind_23 : decode cX3_behind 23 = .ok (.ifCond .ne 9, 3) := by decide +kernel
theorem dX3_behind_26 : decode cX3_behind 26 = .ok (.iinc 2 1, 3) := by decide +kernel
theorem dX3_behind_29 : decode cX3_behind 29 = .ok (.goto (-27), 3) := by decide +kernel
theorem dX3_behind_32 : decode cX3_behind 32 = .ok (.iload_n 2, 1) := by decide +kernel
theorem dX3_behind_33 : decode cX3_behind 33 = .ok (.ireturn, 1) := by decide +kernel
theorem dX3_beatCount_0 : decode cX3_beatCount 0 = .ok (.aload_n 0, 1) := by decide +kernel
theorem dX3_beatCount_1 : decode cX3_beatCount 1 = .ok (.iload_n 1, 1) := by decide +kernel
theorem dX3_beatCount_2 : decode cX3_beatCount 2 = .ok (.iload_n 2, 1) := by decide +kernel
theorem dX3_beatCount_3 : decode cX3_beatCount 3 = .ok (.invokevirtual 70, 3) := by decide +kernel
theorem dX3_beatCount_6 : decode cX3_beatCount 6 = .ok (.ifCond .ne 5, 3) := by decide +kernel
theorem dX3_beatCount_9 : decode cX3_beatCount 9 = .ok (.iconst (-1), 1) := by decide +kernel
theorem dX3_beatCount_10 : decode cX3_beatCount 10 = .ok (.ireturn, 1) := by decide +kernel
theorem dX3_beatCount_11 : decode cX3_beatCount 11 = .ok (.aload_n 0, 1) := by decide +kernel
theorem dX3_beatCount_12 : decode cX3_beatCount 12 = .ok (.iload_n 1, 1) := by decide +kernel
theorem dX3_beatCount_13 : decode cX3_beatCount 13 = .ok (.iload_n 2, 1) := by decide +kernel
theorem dX3_beatCount_14 : decode cX3_beatCount 14 = .ok (.invokevirtual 108, 3) := by decide +kernel
theorem dX3_beatCount_17 : decode cX3_beatCount 17 = .ok (.iconst 0, 1) := by decide +kernel
theorem dX3_beatCount_18 : decode cX3_beatCount 18 = .ok (.istore_n 3, 1) := by decide +kernel
theorem dX3_beatCount_19 : decode cX3_beatCount 19 = .ok (.iconst 0, 1) := by decide +kernel
theorem dX3_beatCount_20 : decode cX3_beatCount 20 = .ok (.istore 4, 2) := by decide +kernel
theorem dX3_beatCount_22 : decode cX3_beatCount 22 = .ok (.iload 4, 2) := by decide +kernel
theorem dX3_beatCount_24 : decode cX3_beatCount 24 = .ok (.aload_n 0, 1) := by decide +kernel
theorem dX3_beatCount_25 : decode cX3_beatCount 25 = .ok (.getfield 94, 3) := by decide +kernel
theorem dX3_beatCount_28 : decode cX3_beatCount 28 = .ok (.if_icmp .ge 17, 3) := by decide +kernel
theorem dX3_beatCount_31 : decode cX3_beatCount 31 = .ok (.iinc 3 1, 3) := by decide +kernel
theorem dX3_beatCount_34 : decode cX3_beatCount 34 = .ok (.aload_n 0, 1) := by decide +kernel
theorem dX3_beatCount_35 : decode cX3_beatCount 35 = .ok (.iload 4, 2) := by decide +kernel
theorem dX3_beatCount_37 : decode cX3_beatCount 37 = .ok (.invokevirtual 105, 3) := by decide +kernel
theorem dX3_beatCount_40 : decode cX3_beatCount 40 = .ok (.istore 4, 2) := by decide +kernel
theorem dX3_beatCount_42 : decode cX3_beatCount 42 = .ok (.goto (-20), 3) := by decide +kernel
theorem dX3_beatCount_45 : decode cX3_beatCount 45 = .ok (.iload_n 3, 1) := by decide +kernel
theorem dX3_beatCount_46 : decode cX3_beatCount 46 = .ok (.ireturn, 1) := by decide +kernel
theorem dX3_beat_0 : decode cX3_beat 0 = .ok (.aload_n 0, 1) := by decide +kernel
theorem dX3_beat_1 : decode cX3_beat 1 = .ok (.iload_n 1, 1) := by decide +kernel
theorem dX3_beat_2 : decode cX3_beat 2 = .ok (.iload_n 2, 1) := by decide +kernel
theorem dX3_beat_3 : decode cX3_beat 3 = .ok (.invokevirtual 70, 3) := by decide +kernel
theorem dX3_beat_6 : decode cX3_beat 6 = .ok (.ifCond .eq 7, 3) := by decide +kernel
theorem dX3_beat_9 : decode cX3_beat 9 = .ok (.iload_n 3, 1) := by decide +kernel
theorem dX3_beat_10 : decode cX3_beat 10 = .ok (.ifCond .ge 7, 3) := by decide +kernel
theorem dX3_beat_13 : decode cX3_beat 13 = .ok (.ldc2_w 80, 3) := by decide +kernel
theorem dX3_beat_16 : decode cX3_beat 16 = .ok (.lreturn, 1) := by decide +kernel
theorem dX3_beat_17 : decode cX3_beat 17 = .ok (.aload_n 0, 1) := by decide +kernel
theorem dX3_beat_18 : decode cX3_beat 18 = .ok (.iload_n 1, 1) := by decide +kernel
theorem dX3_beat_19 : decode cX3_beat 19 = .ok (.iload_n 2, 1) := by decide +kernel
theorem dX3_beat_20 : decode cX3_beat 20 = .ok (.invokevirtual 108, 3) := by decide +kernel
theorem dX3_beat_23 : decode cX3_beat 23 = .ok (.aload_n 0, 1) := by decide +kernel
theorem dX3_beat_24 : decode cX3_beat 24 = .ok (.iload_n 3, 1) := by decide +kernel
theorem dX3_beat_25 : decode cX3_beat 25 = .ok (.invokevirtual 112, 3) := by decide +kernel
theorem dX3_beat_28 : decode cX3_beat 28 = .ok (.istore 5, 2) := by decide +kernel
theorem dX3_beat_30 : decode cX3_beat 30 = .ok (.iload 5, 2) := by decide +kernel
theorem dX3_beat_32 : decode cX3_beat 32 = .ok (.aload_n 0, 1) := by decide +kernel
theorem dX3_beat_33 : decode cX3_beat 33 = .ok (.getfield 94, 3) := by decide +kernel
theorem dX3_beat_36 : decode cX3_beat 36 = .ok (.if_icmp .ne 7, 3) := by decide +kernel
theorem dX3_beat_39 : decode cX3_beat 39 = .ok (.ldc2_w 115, 3) := by decide +kernel
theorem dX3_beat_42 : decode cX3_beat 42 = .ok (.lreturn, 1) := by decide +kernel
theorem dX3_beat_43 : decode cX3_beat 43 = .ok (.aload_n 0, 1) := by decide +kernel
theorem dX3_beat_44 : decode cX3_beat 44 = .ok (.iload_n 1, 1) := by decide +kernel
theorem dX3_beat_45 : decode cX3_beat 45 = .ok (.iload_n 2, 1) := by decide +kernel
theorem dX3_beat_46 : decode cX3_beat 46 = .ok (.invokevirtual 86, 3) := by decide +kernel
theorem dX3_beat_49 : decode cX3_beat 49 = .ok (.lstore 6, 2) := by decide +kernel
theorem dX3_beat_51 : decode cX3_beat 51 = .ok (.aload_n 0, 1) := by decide +kernel
theorem dX3_beat_52 : decode cX3_beat 52 = .ok (.getfield 19, 3) := by decide +kernel
theorem dX3_beat_55 : decode cX3_beat 55 = .ok (.iload 5, 2) := by decide +kernel
theorem dX3_beat_57 : decode cX3_beat 57 = .ok (.laload, 1) := by decide +kernel
theorem dX3_beat_58 : decode cX3_beat 58 = .ok (.lload 6, 2) := by decide +kernel
theorem dX3_beat_60 : decode cX3_beat 60 = .ok (.invokestatic 52, 3) := by decide +kernel
theorem dX3_beat_63 : decode cX3_beat 63 = .ok (.lstore 8, 2) := by decide +kernel
theorem dX3_beat_65 : decode cX3_beat 65 = .ok (.iload 4, 2) := by decide +kernel
theorem dX3_beat_67 : decode cX3_beat 67 = .ok (.iconst 2, 1) := by decide +kernel
theorem dX3_beat_68 : decode cX3_beat 68 = .ok (.if_icmp .ge 27, 3) := by decide +kernel
theorem dX3_beat_71 : decode cX3_beat 71 = .ok (.iload 4, 2) := by decide +kernel
theorem dX3_beat_73 : decode cX3_beat 73 = .ok (.ifCond .ne 16, 3) := by decide +kernel
theorem dX3_beat_76 : decode cX3_beat 76 = .ok (.aload_n 0, 1) := by decide +kernel
theorem dX3_beat_77 : decode cX3_beat 77 = .ok (.getfield 19, 3) := by decide +kernel
theorem dX3_beat_80 : decode cX3_beat 80 = .ok (.iload 5, 2) := by decide +kernel
theorem dX3_beat_82 : decode cX3_beat 82 = .ok (.laload, 1) := by decide +kernel
theorem dX3_beat_83 : decode cX3_beat 83 = .ok (.lload 8, 2) := by decide +kernel
theorem dX3_beat_85 : decode cX3_beat 85 = .ok (.ldiv, 1) := by decide +kernel
theorem dX3_beat_86 : decode cX3_beat 86 = .ok (.goto 8, 3) := by decide +kernel
theorem dX3_beat_89 : decode cX3_beat 89 = .ok (.lload 6, 2) := by decide +kernel
theorem dX3_beat_91 : decode cX3_beat 91 = .ok (.lload 8, 2) := by decide +kernel
theorem dX3_beat_93 : decode cX3_beat 93 = .ok (.ldiv, 1) := by decide +kernel
theorem dX3_beat_94 : decode cX3_beat 94 = .ok (.lreturn, 1) := by decide +kernel
theorem dX3_beat_95 : decode cX3_beat 95 = .ok (.iload 4, 2) := by decide +kernel
theorem dX3_beat_97 : decode cX3_beat 97 = .ok (.iconst 2, 1) := by decide +kernel
theorem dX3_beat_98 : decode cX3_beat 98 = .ok (.if_icmp .ne 16, 3) := by decide +kernel
theorem dX3_beat_101 : decode cX3_beat 101 = .ok (.aload_n 0, 1) := by decide +kernel
theorem dX3_beat_102 : decode cX3_beat 102 = .ok (.iload 5, 2) := by decide +kernel
theorem dX3_beat_104 : decode cX3_beat 104 = .ok (.invokevirtual 105, 3) := by decide +kernel
theorem dX3_beat_107 : decode cX3_beat 107 = .ok (.iload 5, 2) := by decide +kernel
theorem dX3_beat_109 : decode cX3_beat 109 = .ok (.isub, 1) := by decide +kernel
theorem dX3_beat_110 : decode cX3_beat 110 = .ok (.i2l, 1) := by decide +kernel
theorem dX3_beat_111 : decode cX3_beat 111 = .ok (.goto 34, 3) := by decide +kernel
theorem dX3_beat_114 : decode cX3_beat 114 = .ok (.aload_n 0, 1) := by decide +kernel
theorem dX3_beat_115 : decode cX3_beat 115 = .ok (.getfield 19, 3) := by decide +kernel
theorem dX3_beat_118 : decode cX3_beat 118 = .ok (.iload 5, 2) := by decide +kernel
theorem dX3_beat_120 : decode cX3_beat 120 = .ok (.laload, 1) := by decide +kernel
theorem dX3_beat_121 : decode cX3_beat 121 = .ok (.lconst 0, 1) := by decide +kernel
theorem dX3_beat_122 : decode cX3_beat 122 = .ok (.lcmp, 1) := by decide +kernel
theorem dX3_beat_123 : decode cX3_beat 123 = .ok (.ifCond .ne 9, 3) := by decide +kernel
theorem dX3_beat_126 : decode cX3_beat 126 = .ok (.ldc2_w 115, 3) := by decide +kernel
theorem dX3_beat_129 : decode cX3_beat 129 = .ok (.goto 16, 3) := by decide +kernel
theorem dX3_beat_132 : decode cX3_beat 132 = .ok (.aload_n 0, 1) := by decide +kernel
theorem dX3_beat_133 : decode cX3_beat 133 = .ok (.getfield 19, 3) := by decide +kernel
theorem dX3_beat_136 : decode cX3_beat 136 = .ok (.iload 5, 2) := by decide +kernel
theorem dX3_beat_138 : decode cX3_beat 138 = .ok (.laload, 1) := by decide +kernel
theorem dX3_beat_139 : decode cX3_beat 139 = .ok (.lload 6, 2) := by decide +kernel
theorem dX3_beat_141 : decode cX3_beat 141 = .ok (.invokestatic 117, 3) := by decide +kernel
theorem dX3_beat_144 : decode cX3_beat 144 = .ok (.i2l, 1) := by decide +kernel
theorem dX3_beat_145 : decode cX3_beat 145 = .ok (.lreturn, 1) := by decide +kernel
theorem dX3_beatNumerator_0 : decode cX3_beatNumerator 0 = .ok (.aload_n 0, 1) := by decide +kernel
theorem dX3_beatNumerator_1 : decode cX3_beatNumerator 1 = .ok (.iload_n 1, 1) := by decide +kernel
theorem dX3_beatNumerator_2 : decode cX3_beatNumerator 2 = .ok (.iload_n 2, 1) := by decide +kernel
theorem dX3_beatNumerator_3 : decode cX3_beatNumerator 3 = .ok (.iload_n 3, 1) := by decide +kernel
theorem dX3_beatNumerator_4 : decode cX3_beatNumerator 4 = .ok (.iconst 0, 1) := by decide +kernel
theorem dX3_beatNumerator_5 : decode cX3_beatNumerator 5 = .ok (.invokevirtual 120, 3) := by decide +kernel
theorem dX3_beatNumerator_8 : decode cX3_beatNumerator 8 = .ok (.lreturn, 1) := by decide +kernel
theorem dX3_beatDenominator_0 : decode cX3_beatDenominator 0 = .ok (.aload_n 0, 1) := by decide +kernel
theorem dX3_beatDenominator_1 : decode cX3_beatDenominator 1 = .ok (.iload_n 1, 1) := by decide +kernel
theorem dX3_beatDenominator_2 : decode cX3_beatDenominator 2 = .ok (.iload_n 2, 1) := by decide +kernel
theorem dX3_beatDenominator_3 : decode cX3_beatDenominator 3 = .ok (.iload_n 3, 1) := by decide +kernel
theorem dX3_beatDenominator_4 : decode cX3_beatDenominator 4 = .ok (.iconst 1, 1) := by decide +kernel
theorem dX3_beatDenominator_5 : decode cX3_beatDenominator 5 = .ok (.invokevirtual 120, 3) := by decide +kernel
theorem dX3_beatDenominator_8 : decode cX3_beatDenominator 8 = .ok (.lreturn, 1) := by decide +kernel
theorem dX3_beatFrequency_0 : decode cX3_beatFrequency 0 = .ok (.aload_n 0, 1) := by decide +kernel
theorem dX3_beatFrequency_1 : decode cX3_beatFrequency 1 = .ok (.iload_n 1, 1) := by decide +kernel
theorem dX3_beatFrequency_2 : decode cX3_beatFrequency 2 = .ok (.iload_n 2, 1) := by decide +kernel
theorem dX3_beatFrequency_3 : decode cX3_beatFrequency 3 = .ok (.iload_n 3, 1) := by decide +kernel
theorem dX3_beatFrequency_4 : decode cX3_beatFrequency 4 = .ok (.iconst 2, 1) := by decide +kernel
theorem dX3_beatFrequency_5 : decode cX3_beatFrequency 5 = .ok (.invokevirtual 120, 3) := by decide +kernel
theorem dX3_beatFrequency_8 : decode cX3_beatFrequency 8 = .ok (.l2i, 1) := by decide +kernel
theorem dX3_beatFrequency_9 : decode cX3_beatFrequency 9 = .ok (.ireturn, 1) := by decide +kernel
theorem dX3_beatPeriod_0 : decode cX3_beatPeriod 0 = .ok (.aload_n 0, 1) := by decide +kernel
theorem dX3_beatPeriod_1 : decode cX3_beatPeriod 1 = .ok (.iload_n 1, 1) := by decide +kernel
theorem dX3_beatPeriod_2 : decode cX3_beatPeriod 2 = .ok (.iload_n 2, 1) := by decide +kernel
theorem dX3_beatPeriod_3 : decode cX3_beatPeriod 3 = .ok (.iload_n 3, 1) := by decide +kernel
theorem dX3_beatPeriod_4 : decode cX3_beatPeriod 4 = .ok (.iconst 3, 1) := by decide +kernel
theorem dX3_beatPeriod_5 : decode cX3_beatPeriod 5 = .ok (.invokevirtual 120, 3) := by decide +kernel
theorem dX3_beatPeriod_8 : decode cX3_beatPeriod 8 = .ok (.l2i, 1) := by decide +kernel
theorem dX3_beatPeriod_9 : decode cX3_beatPeriod 9 = .ok (.ireturn, 1) := by decide +kernel
theorem dX3_ofKind_0 : decode cX3_ofKind 0 = .ok (.iconst 0, 1) := by decide +kernel
theorem dX3_ofKind_1 : decode cX3_ofKind 1 = .ok (.istore 4, 2) := by decide +kernel
theorem dX3_ofKind_3 : decode cX3_ofKind 3 = .ok (.aload_n 0, 1) := by decide +kernel
theorem dX3_ofKind_4 : decode cX3_ofKind 4 = .ok (.lconst 0, 1) := by decide +kernel
theorem dX3_ofKind_5 : decode cX3_ofKind 5 = .ok (.putfield 124, 3) := by decide +kernel
theorem dX3_ofKind_8 : decode cX3_ofKind 8 = .ok (.aload_n 0, 1) := by decide +kernel
theorem dX3_ofKind_9 : decode cX3_ofKind 9 = .ok (.iload_n 1, 1) := by decide +kernel
theorem dX3_ofKind_10 : decode cX3_ofKind 10 = .ok (.iload_n 2, 1) := by decide +kernel
theorem dX3_ofKind_11 : decode cX3_ofKind 11 = .ok (.invokevirtual 86, 3) := by decide +kernel
theorem dX3_ofKind_14 : decode cX3_ofKind 14 = .ok (.lstore 5, 2) := by decide +kernel
theorem dX3_ofKind_16 : decode cX3_ofKind 16 = .ok (.aload_n 0, 1) := by decide +kernel
theorem dX3_ofKind_17 : decode cX3_ofKind 17 = .ok (.getfield 7, 3) := by decide +kernel
theorem dX3_ofKind_20 : decode cX3_ofKind 20 = .ok (.iconst 1, 1) := by decide +kernel
theorem dX3_ofKind_21 : decode cX3_ofKind 21 = .ok (.iaload, 1) := by decide +kernel
theorem dX3_ofKind_22 : decode cX3_ofKind 22 = .ok (.istore 7, 2) := by decide +kernel
theorem dX3_ofKind_24 : decode cX3_ofKind 24 = .ok (.iconst 2, 1) := by decide +kernel
theorem dX3_ofKind_25 : decode cX3_ofKind 25 = .ok (.iload 7, 2) := by decide +kernel
theorem dX3_ofKind_27 : decode cX3_ofKind 27 = .ok (.imul, 1) := by decide +kernel
theorem dX3_ofKind_28 : decode cX3_ofKind 28 = .ok (.iconst 1, 1) := by decide +kernel
theorem dX3_ofKind_29 : decode cX3_ofKind 29 = .ok (.iadd, 1) := by decide +kernel
theorem dX3_ofKind_30 : decode cX3_ofKind 30 = .ok (.istore 8, 2) := by decide +kernel
theorem dX3_ofKind_32 : decode cX3_ofKind 32 = .ok (.iconst 0, 1) := by decide +kernel
theorem dX3_ofKind_33 : decode cX3_ofKind 33 = .ok (.istore 9, 2) := by decide +kernel
theorem dX3_ofKind_35 : decode cX3_ofKind 35 = .ok (.iload 9, 2) := by decide +kernel
theorem dX3_ofKind_37 : decode cX3_ofKind 37 = .ok (.iload 8, 2) := by decide +kernel
theorem dX3_ofKind_39 : decode cX3_ofKind 39 = .ok (.iload 8, 2) := by decide +kernel
theorem dX3_ofKind_41 : decode cX3_ofKind 41 = .ok (.imul, 1) := by decide +kernel
theorem dX3_ofKind_42 : decode cX3_ofKind 42 = .ok (.iload 8, 2) := by decide +kernel
theorem dX3_ofKind_44 : decode cX3_ofKind 44 = .ok (.imul, 1) := by decide +kernel
theorem dX3_ofKind_45 : decode cX3_ofKind 45 = .ok (.iload 8, 2) := by decide +kernel
theorem dX3_ofKind_47 : decode cX3_ofKind 47 = .ok (.imul, 1) := by decide +kernel
theorem dX3_ofKind_48 : decode cX3_ofKind 48 = .ok (.if_icmp .ge 173, 3) := by decide +kernel
theorem dX3_ofKind_51 : decode cX3_ofKind 51 = .ok (.iload 9, 2) := by decide +kernel
theorem dX3_ofKind_53 : decode cX3_ofKind 53 = .ok (.iload 8, 2) := by decide +kernel
theorem dX3_ofKind_55 : decode cX3_ofKind 55 = .ok (.iload 8, 2) := by decide +kernel
theorem dX3_ofKind_57 : decode cX3_ofKind 57 = .ok (.imul, 1) := by decide +kernel
theorem dX3_ofKind_58 : decode cX3_ofKind 58 = .ok (.iload 8, 2) := by decide +kernel
theorem dX3_ofKind_60 : decode cX3_ofKind 60 = .ok (.imul, 1) := by decide +kernel
theorem dX3_ofKind_61 : decode cX3_ofKind 61 = .ok (.idiv, 1) := by decide +kernel
theorem dX3_ofKind_62 : decode cX3_ofKind 62 = .ok (.iload 7, 2) := by decide +kernel
theorem dX3_ofKind_64 : decode cX3_ofKind 64 = .ok (.isub, 1) := by decide +kernel
theorem dX3_ofKind_65 : decode cX3_ofKind 65 = .ok (.istore 10, 2) := by decide +kernel
theorem dX3_ofKind_67 : decode cX3_ofKind 67 = .ok (.iload 9, 2) := by decide +kernel
theorem dX3_ofKind_69 : decode cX3_ofKind 69 = .ok (.iload 8, 2) := by decide +kernel
theorem dX3_ofKind_71 : decode cX3_ofKind 71 = .ok (.iload 8, 2) := by decide +kernel
theorem dX3_ofKind_73 : decode cX3_ofKind 73 = .ok (.imul, 1) := by decide +kernel
theorem dX3_ofKind_74 : decode cX3_ofKind 74 = .ok (.idiv, 1) := by decide +kernel
theorem dX3_ofKind_75 : decode cX3_ofKind 75 = .ok (.iload 8, 2) := by decide +kernel
theorem dX3_ofKind_77 : decode cX3_ofKind 77 = .ok (.irem, 1) := by decide +kernel
theorem dX3_ofKind_78 : decode cX3_ofKind 78 = .ok (.iload 7, 2) := by decide +kernel
theorem dX3_ofKind_80 : decode cX3_ofKind 80 = .ok (.isub, 1) := by decide +kernel
theorem dX3_ofKind_81 : decode cX3_ofKind 81 = .ok (.istore 11, 2) := by decide +kernel
theorem dX3_ofKind_83 : decode cX3_ofKind 83 = .ok (.iload 9, 2) := by decide +kernel
theorem dX3_ofKind_85 : decode cX3_ofKind 85 = .ok (.iload 8, 2) := by decide +kernel
theorem dX3_ofKind_87 : decode cX3_ofKind 87 = .ok (.idiv, 1) := by decide +kernel
theorem dX3_ofKind_88 : decode cX3_ofKind 88 = .ok (.iload 8, 2) := by decide +kernel
theorem dX3_ofKind_90 : decode cX3_ofKind 90 = .ok (.irem, 1) := by decide +kernel
theorem dX3_ofKind_91 : decode cX3_ofKind 91 = .ok (.iload 7, 2) := by decide +kernel
theorem dX3_ofKind_93 : decode cX3_ofKind 93 = .ok (.isub, 1) := by decide +kernel
theorem dX3_ofKind_94 : decode cX3_ofKind 94 = .ok (.istore 12, 2) := by decide +kernel
theorem dX3_ofKind_96 : decode cX3_ofKind 96 = .ok (.iload 9, 2) := by decide +kernel
theorem dX3_ofKind_98 : decode cX3_ofKind 98 = .ok (.iload 8, 2) := by decide +kernel
theorem dX3_ofKind_100 : decode cX3_ofKind 100 = .ok (.irem, 1) := by decide +kernel
theorem dX3_ofKind_101 : decode cX3_ofKind 101 = .ok (.iload 7, 2) := by decide +kernel
theorem dX3_ofKind_103 : decode cX3_ofKind 103 = .ok (.isub, 1) := by decide +kernel
theorem dX3_ofKind_104 : decode cX3_ofKind 104 = .ok (.istore 13, 2) := by decide +kernel
theorem dX3_ofKind_106 : decode cX3_ofKind 106 = .ok (.iload 10, 2) := by decide +kernel
theorem dX3_ofKind_108 : decode cX3_ofKind 108 = .ok (.ifCond .ne 8, 3) := by decide +kernel
theorem dX3_ofKind_111 : decode cX3_ofKind 111 = .ok (.iload 11, 2) := by decide +kernel
theorem dX3_ofKind_113 : decode cX3_ofKind 113 = .ok (.ifCond .eq 102, 3) := by decide +kernel
theorem dX3_ofKind_116 : decode cX3_ofKind 116 = .ok (.iload 12, 2) := by decide +kernel
theorem dX3_ofKind_118 : decode cX3_ofKind 118 = .ok (.ifCond .ne 8, 3) := by decide +kernel
theorem dX3_ofKind_121 : decode cX3_ofKind 121 = .ok (.iload 13, 2) := by decide +kernel
theorem dX3_ofKind_123 : decode cX3_ofKind 123 = .ok (.ifCond .eq 92, 3) := by decide +kernel
theorem dX3_ofKind_126 : decode cX3_ofKind 126 = .ok (.aload_n 0, 1) := by decide +kernel
theorem dX3_ofKind_127 : decode cX3_ofKind 127 = .ok (.iload_n 1, 1) := by decide +kernel
theorem dX3_ofKind_128 : decode cX3_ofKind 128 = .ok (.iload_n 2, 1) := by decide +kernel
theorem dX3_ofKind_129 : decode cX3_ofKind 129 = .ok (.iload 10, 2) := by decide +kernel
theorem dX3_ofKind_131 : decode cX3_ofKind 131 = .ok (.iload 11, 2) := by decide +kernel
theorem dX3_ofKind_133 : decode cX3_ofKind 133 = .ok (.iload 12, 2) := by decide +kernel
theorem dX3_ofKind_135 : decode cX3_ofKind 135 = .ok (.iload 13, 2) := by decide +kernel
theorem dX3_ofKind_137 : decode cX3_ofKind 137 = .ok (.invokevirtual 82, 3) := by decide +kernel
theorem dX3_ofKind_140 : decode cX3_ofKind 140 = .ok (.lstore 14, 2) := by decide +kernel
theorem dX3_ofKind_142 : decode cX3_ofKind 142 = .ok (.aload_n 0, 1) := by decide +kernel
theorem dX3_ofKind_143 : decode cX3_ofKind 143 = .ok (.lload 14, 2) := by decide +kernel
theorem dX3_ofKind_145 : decode cX3_ofKind 145 = .ok (.lload 5, 2) := by decide +kernel
theorem dX3_ofKind_147 : decode cX3_ofKind 147 = .ok (.invokevirtual 90, 3) := by decide +kernel
theorem dX3_ofKind_150 : decode cX3_ofKind 150 = .ok (.iload_n 3, 1) := by decide +kernel
theorem dX3_ofKind_151 : decode cX3_ofKind 151 = .ok (.if_icmp .ne 7, 3) := by decide +kernel
theorem dX3_ofKind_154 : decode cX3_ofKind 154 = .ok (.iconst 1, 1) := by decide +kernel
theorem dX3_ofKind_155 : decode cX3_ofKind 155 = .ok (.goto 4, 3) := by decide +kernel
theorem dX3_ofKind_158 : decode cX3_ofKind 158 = .ok (.iconst 0, 1) := by decide +kernel
theorem dX3_ofKind_159 : decode cX3_ofKind 159 = .ok (.istore 16, 2) := by decide +kernel
theorem dX3_ofKind_161 : decode cX3_ofKind 161 = .ok (.iload 4, 2) := by decide +kernel
theorem dX3_ofKind_163 : decode cX3_ofKind 163 = .ok (.iload 16, 2) := by decide +kernel
theorem dX3_ofKind_165 : decode cX3_ofKind 165 = .ok (.ifCond .eq 7, 3) := by decide +kernel
theorem dX3_ofKind_168 : decode cX3_ofKind 168 = .ok (.iconst 1, 1) := by decide +kernel
theorem dX3_ofKind_169 : decode cX3_ofKind 169 = .ok (.goto 4, 3) := by decide +kernel
theorem dX3_ofKind_172 : decode cX3_ofKind 172 = .ok (.iconst 0, 1) := by decide +kernel
theorem dX3_ofKind_173 : decode cX3_ofKind 173 = .ok (.iadd, 1) := by decide +kernel
theorem dX3_ofKind_174 : decode cX3_ofKind 174 = .ok (.istore 4, 2) := by decide +kernel
theorem dX3_ofKind_176 : decode cX3_ofKind 176 = .ok (.aload_n 0, 1) := by decide +kernel
theorem dX3_ofKind_177 : decode cX3_ofKind 177 = .ok (.iload 16, 2) := by decide +kernel
theorem dX3_ofKind_179 : decode cX3_ofKind 179 = .ok (.ifCond .eq 29, 3) := by decide +kernel
theorem dX3_ofKind_182 : decode cX3_ofKind 182 = .ok (.iload_n 3, 1) := by decide +kernel
theorem dX3_ofKind_183 : decode cX3_ofKind 183 = .ok (.iconst 3, 1) := by decide +kernel
theorem dX3_ofKind_184 : decode cX3_ofKind 184 = .ok (.if_icmp .ne 24, 3) := by decide +kernel
theorem dX3_ofKind_187 : decode cX3_ofKind 187 = .ok (.lload 5, 2) := by decide +kernel
theorem dX3_ofKind_189 : decode cX3_ofKind 189 = .ok (.lload 14, 2) := by decide +kernel
theorem dX3_ofKind_191 : decode cX3_ofKind 191 = .ok (.ldiv, 1) := by decide +kernel
theorem dX3_ofKind_192 : decode cX3_ofKind 192 = .ok (.aload_n 0, 1) := by decide +kernel
theorem dX3_ofKind_193 : decode cX3_ofKind 193 = .ok (.getfield 124, 3) := by decide +kernel
theorem dX3_ofKind_196 : decode cX3_ofKind 196 = .ok (.lcmp, 1) := by decide +kernel
theorem dX3_ofKind_197 : decode cX3_ofKind 197 = .ok (.ifCond .le 11, 3) := by decide +kernel
theorem dX3_ofKind_200 : decode cX3_ofKind 200 = .ok (.lload 5, 2) := by decide +kernel
theorem dX3_ofKind_202 : decode cX3_ofKind 202 = .ok (.lload 14, 2) := by decide +kernel
theorem dX3_ofKind_204 : decode cX3_ofKind 204 = .ok (.ldiv, 1) := by decide +kernel
theorem dX3_ofKind_205 : decode cX3_ofKind 205 = .ok (.goto 7, 3) := by decide +kernel
theorem dX3_ofKind_208 : decode cX3_ofKind 208 = .ok (.aload_n 0, 1) := by decide +kernel
theorem dX3_ofKind_209 : decode cX3_ofKind 209 = .ok (.getfield 124, 3) := by decide +kernel
theorem dX3_ofKind_212 : decode cX3_ofKind 212 = .ok (.putfield 124, 3) := by decide +kernel
theorem dX3_ofKind_215 : decode cX3_ofKind 215 = .ok (.iinc 9 1, 3) := by decide +kernel
theorem dX3_ofKind_218 : decode cX3_ofKind 218 = .ok (.goto (-183), 3) := by decide +kernel
theorem dX3_ofKind_221 : decode cX3_ofKind 221 = .ok (.iload 4, 2) := by decide +kernel
theorem dX3_ofKind_223 : decode cX3_ofKind 223 = .ok (.ireturn, 1) := by decide +kernel
theorem dX3_locked_0 : decode cX3_locked 0 = .ok (.aload_n 0, 1) := by decide +kernel
theorem dX3_locked_1 : decode cX3_locked 1 = .ok (.iload_n 1, 1) := by decide +kernel
theorem dX3_locked_2 : decode cX3_locked 2 = .ok (.iload_n 2, 1) := by decide +kernel
theorem dX3_locked_3 : decode cX3_locked 3 = .ok (.invokevirtual 70, 3) := by decide +kernel
theorem dX3_locked_6 : decode cX3_locked 6 = .ok (.ifCond .eq 13, 3) := by decide +kernel
theorem dX3_locked_9 : decode cX3_locked 9 = .ok (.aload_n 0, 1) := by decide +kernel
theorem dX3_locked_10 : decode cX3_locked 10 = .ok (.iload_n 1, 1) := by decide +kernel
theorem dX3_locked_11 : decode cX3_locked 11 = .ok (.iload_n 2, 1) := by decide +kernel
theorem dX3_locked_12 : decode cX3_locked 12 = .ok (.iconst 0, 1) := by decide +kernel
theorem dX3_locked_13 : decode cX3_locked 13 = .ok (.invokevirtual 128, 3) := by decide +kernel
theorem dX3_locked_16 : decode cX3_locked 16 = .ok (.goto 4, 3) := by decide +kernel
theorem dX3_locked_19 : decode cX3_locked 19 = .ok (.iconst (-1), 1) := by decide +kernel
theorem dX3_locked_20 : decode cX3_locked 20 = .ok (.ireturn, 1) := by decide +kernel
theorem dX3_bands_0 : decode cX3_bands 0 = .ok (.aload_n 0, 1) := by decide +kernel
theorem dX3_bands_1 : decode cX3_bands 1 = .ok (.iload_n 1, 1) := by decide +kernel
theorem dX3_bands_2 : decode cX3_bands 2 = .ok (.iload_n 2, 1) := by decide +kernel
theorem dX3_bands_3 : decode cX3_bands 3 = .ok (.invokevirtual 70, 3) := by decide +kernel
theorem dX3_bands_6 : decode cX3_bands 6 = .ok (.ifCond .eq 13, 3) := by decide +kernel
theorem dX3_bands_9 : decode cX3_bands 9 = .ok (.aload_n 0, 1) := by decide +kernel
theorem dX3_bands_10 : decode cX3_bands 10 = .ok (.iload_n 1, 1) := by decide +kernel
theorem dX3_bands_11 : decode cX3_bands 11 = .ok (.iload_n 2, 1) := by decide +kernel
theorem dX3_bands_12 : decode cX3_bands 12 = .ok (.iconst 3, 1) := by decide +kernel
theorem dX3_bands_13 : decode cX3_bands 13 = .ok (.invokevirtual 128, 3) := by decide +kernel
theorem dX3_bands_16 : decode cX3_bands 16 = .ok (.goto 4, 3) := by decide +kernel
theorem dX3_bands_19 : decode cX3_bands 19 = .ok (.iconst (-1), 1) := by decide +kernel
theorem dX3_bands_20 : decode cX3_bands 20 = .ok (.ireturn, 1) := by decide +kernel
theorem dX3_bandsOfThree_0 : decode cX3_bandsOfThree 0 = .ok (.iconst 0, 1) := by decide +kernel
theorem dX3_bandsOfThree_1 : decode cX3_bandsOfThree 1 = .ok (.istore 4, 2) := by decide +kernel
theorem dX3_bandsOfThree_3 : decode cX3_bandsOfThree 3 = .ok (.aload_n 0, 1) := by decide +kernel
theorem dX3_bandsOfThree_4 : decode cX3_bandsOfThree 4 = .ok (.lconst 0, 1) := by decide +kernel
theorem dX3_bandsOfThree_5 : decode cX3_bandsOfThree 5 = .ok (.putfield 124, 3) := by decide +kernel
theorem dX3_bandsOfThree_8 : decode cX3_bandsOfThree 8 = .ok (.aload_n 0, 1) := by decide +kernel
theorem dX3_bandsOfThree_9 : decode cX3_bandsOfThree 9 = .ok (.iload_n 1, 1) := by decide +kernel
theorem dX3_bandsOfThree_10 : decode cX3_bandsOfThree 10 = .ok (.iload_n 2, 1) := by decide +kernel
theorem dX3_bandsOfThree_11 : decode cX3_bandsOfThree 11 = .ok (.iload_n 3, 1) := by decide +kernel
theorem dX3_bandsOfThree_12 : decode cX3_bandsOfThree 12 = .ok (.invokevirtual 132, 3) := by decide +kernel
theorem dX3_bandsOfThree_15 : decode cX3_bandsOfThree 15 = .ok (.lstore 5, 2) := by decide +kernel
theorem dX3_bandsOfThree_17 : decode cX3_bandsOfThree 17 = .ok (.iconst 0, 1) := by decide +kernel
theorem dX3_bandsOfThree_18 : decode cX3_bandsOfThree 18 = .ok (.istore 7, 2) := by decide +kernel
theorem dX3_bandsOfThree_20 : decode cX3_bandsOfThree 20 = .ok (.iload 7, 2) := by decide +kernel
theorem dX3_bandsOfThree_22 : decode cX3_bandsOfThree 22 = .ok (.bipush 64, 2) := by decide +kernel
theorem dX3_bandsOfThree_24 : decode cX3_bandsOfThree 24 = .ok (.if_icmp .ge 88, 3) := by decide +kernel
theorem dX3_bandsOfThree_27 : decode cX3_bandsOfThree 27 = .ok (.aload_n 0, 1) := by decide +kernel
theorem dX3_bandsOfThree_28 : decode cX3_bandsOfThree 28 = .ok (.iload_n 1, 1) := by decide +kernel
theorem dX3_bandsOfThree_29 : decode cX3_bandsOfThree 29 = .ok (.iload_n 2, 1) := by decide +kernel
theorem dX3_bandsOfThree_30 : decode cX3_bandsOfThree 30 = .ok (.iload_n 3, 1) := by decide +kernel
theorem dX3_bandsOfThree_31 : decode cX3_bandsOfThree 31 = .ok (.iload 7, 2) := by decide +kernel
theorem dX3_bandsOfThree_33 : decode cX3_bandsOfThree 33 = .ok (.invokevirtual 136, 3) := by decide +kernel
theorem dX3_bandsOfThree_36 : decode cX3_bandsOfThree 36 = .ok (.lstore 8, 2) := by decide +kernel
theorem dX3_bandsOfThree_38 : decode cX3_bandsOfThree 38 = .ok (.aload_n 0, 1) := by decide +kernel
theorem dX3_bandsOfThree_39 : decode cX3_bandsOfThree 39 = .ok (.lload 8, 2) := by decide +kernel
theorem dX3_bandsOfThree_41 : decode cX3_bandsOfThree 41 = .ok (.lload 5, 2) := by decide +kernel
theorem dX3_bandsOfThree_43 : decode cX3_bandsOfThree 43 = .ok (.invokevirtual 90, 3) := by decide +kernel
theorem dX3_bandsOfThree_46 : decode cX3_bandsOfThree 46 = .ok (.iconst 3, 1) := by decide +kernel
theorem dX3_bandsOfThree_47 : decode cX3_bandsOfThree 47 = .ok (.if_icmp .ne 7, 3) := by decide +kernel
theorem dX3_bandsOfThree_50 : decode cX3_bandsOfThree 50 = .ok (.iconst 1, 1) := by decide +kernel
theorem dX3_bandsOfThree_51 : decode cX3_bandsOfThree 51 = .ok (.goto 4, 3) := by decide +kernel
theorem dX3_bandsOfThree_54 : decode cX3_bandsOfThree 54 = .ok (.iconst 0, 1) := by decide +kernel
theorem dX3_bandsOfThree_55 : decode cX3_bandsOfThree 55 = .ok (.istore 10, 2) := by decide +kernel
theorem dX3_bandsOfThree_57 : decode cX3_bandsOfThree 57 = .ok (.iload 4, 2) := by decide +kernel
theorem dX3_bandsOfThree_59 : decode cX3_bandsOfThree 59 = .ok (.iload 10, 2) := by decide +kernel
theorem dX3_bandsOfThree_61 : decode cX3_bandsOfThree 61 = .ok (.ifCond .eq 7, 3) := by decide +kernel
theorem dX3_bandsOfThree_64 : decode cX3_bandsOfThree 64 = .ok (.iconst 1, 1) := by decide +kernel
theorem dX3_bandsOfThree_65 : decode cX3_bandsOfThree 65 = .ok (.goto 4, 3) := by decide +kernel
theorem dX3_bandsOfThree_68 : decode cX3_bandsOfThree 68 = .ok (.iconst 0, 1) := by decide +kernel
theorem dX3_bandsOfThree_69 : decode cX3_bandsOfThree 69 = .ok (.iadd, 1) := by decide +kernel
theorem dX3_bandsOfThree_70 : decode cX3_bandsOfThree 70 = .ok (.istore 4, 2) := by decide +kernel
theorem dX3_bandsOfThree_72 : decode cX3_bandsOfThree 72 = .ok (.aload_n 0, 1) := by decide +kernel
theorem dX3_bandsOfThree_73 : decode cX3_bandsOfThree 73 = .ok (.iload 10, 2) := by decide +kernel
theorem dX3_bandsOfThree_75 : decode cX3_bandsOfThree 75 = .ok (.ifCond .eq 24, 3) := by decide +kernel
theorem dX3_bandsOfThree_78 : decode cX3_bandsOfThree 78 = .ok (.lload 5, 2) := by decide +kernel
theorem dX3_bandsOfThree_80 : decode cX3_bandsOfThree 80 = .ok (.lload 8, 2) := by decide +kernel
theorem dX3_bandsOfThree_82 : decode cX3_bandsOfThree 82 = .ok (.ldiv, 1) := by decide +kernel
theorem dX3_bandsOfThree_83 : decode cX3_bandsOfThree 83 = .ok (.aload_n 0, 1) := by decide +kernel
theorem dX3_bandsOfThree_84 : decode cX3_bandsOfThree 84 = .ok (.getfield 124, 3) := by decide +kernel
theorem dX3_bandsOfThree_87 : decode cX3_bandsOfThree 87 = .ok (.lcmp, 1) := by decide +kernel
theorem dX3_bandsOfThree_88 : decode cX3_bandsOfThree 88 = .ok (.ifCond .le 11, 3) := by decide +kernel
theorem dX3_bandsOfThree_91 : decode cX3_bandsOfThree 91 = .ok (.lload 5, 2) := by decide +kernel
theorem dX3_bandsOfThree_93 : decode cX3_bandsOfThree 93 = .ok (.lload 8, 2) := by decide +kernel
theorem dX3_bandsOfThree_95 : decode cX3_bandsOfThree 95 = .ok (.ldiv, 1) := by decide +kernel
theorem dX3_bandsOfThree_96 : decode cX3_bandsOfThree 96 = .ok (.goto 7, 3) := by decide +kernel
theorem dX3_bandsOfThree_99 : decode cX3_bandsOfThree 99 = .ok (.aload_n 0, 1) := by decide +kernel
theorem dX3_bandsOfThree_100 : decode cX3_bandsOfThree 100 = .ok (.getfield 124, 3) := by decide +kernel
theorem dX3_bandsOfThree_103 : decode cX3_bandsOfThree 103 = .ok (.putfield 124, 3) := by decide +kernel
theorem dX3_bandsOfThree_106 : decode cX3_bandsOfThree 106 = .ok (.iinc 7 1, 3) := by decide +kernel
theorem dX3_bandsOfThree_109 : decode cX3_bandsOfThree 109 = .ok (.goto (-89), 3) := by decide +kernel
theorem dX3_bandsOfThree_112 : decode cX3_bandsOfThree 112 = .ok (.iload 4, 2) := by decide +kernel
theorem dX3_bandsOfThree_114 : decode cX3_bandsOfThree 114 = .ok (.ireturn, 1) := by decide +kernel
theorem dX3_tripleBands_0 : decode cX3_tripleBands 0 = .ok (.aload_n 0, 1) := by decide +kernel
theorem dX3_tripleBands_1 : decode cX3_tripleBands 1 = .ok (.iload_n 1, 1) := by decide +kernel
theorem dX3_tripleBands_2 : decode cX3_tripleBands 2 = .ok (.iload_n 2, 1) := by decide +kernel
theorem dX3_tripleBands_3 : decode cX3_tripleBands 3 = .ok (.invokevirtual 70, 3) := by decide +kernel
theorem dX3_tripleBands_6 : decode cX3_tripleBands 6 = .ok (.ifCond .eq 22, 3) := by decide +kernel
theorem dX3_tripleBands_9 : decode cX3_tripleBands 9 = .ok (.aload_n 0, 1) := by decide +kernel
theorem dX3_tripleBands_10 : decode cX3_tripleBands 10 = .ok (.iload_n 2, 1) := by decide +kernel
theorem dX3_tripleBands_11 : decode cX3_tripleBands 11 = .ok (.iload_n 3, 1) := by decide +kernel
theorem dX3_tripleBands_12 : decode cX3_tripleBands 12 = .ok (.invokevirtual 70, 3) := by decide +kernel
theorem dX3_tripleBands_15 : decode cX3_tripleBands 15 = .ok (.ifCond .eq 13, 3) := by decide +kernel
theorem dX3_tripleBands_18 : decode cX3_tripleBands 18 = .ok (.aload_n 0, 1) := by decide +kernel
theorem dX3_tripleBands_19 : decode cX3_tripleBands 19 = .ok (.iload_n 1, 1) := by decide +kernel
theorem dX3_tripleBands_20 : decode cX3_tripleBands 20 = .ok (.iload_n 2, 1) := by decide +kernel
theorem dX3_tripleBands_21 : decode cX3_tripleBands 21 = .ok (.iload_n 3, 1) := by decide +kernel
theorem dX3_tripleBands_22 : decode cX3_tripleBands 22 = .ok (.invokevirtual 139, 3) := by decide +kernel
theorem dX3_tripleBands_25 : decode cX3_tripleBands 25 = .ok (.goto 4, 3) := by decide +kernel
theorem dX3_tripleBands_28 : decode cX3_tripleBands 28 = .ok (.iconst (-1), 1) := by decide +kernel
theorem dX3_tripleBands_29 : decode cX3_tripleBands 29 = .ok (.ireturn, 1) := by decide +kernel
theorem dX3_findAll_0 : decode cX3_findAll 0 = .ok (.iconst 0, 1) := by decide +kernel
theorem dX3_findAll_1 : decode cX3_findAll 1 = .ok (.istore_n 1, 1) := by decide +kernel
theorem dX3_findAll_2 : decode cX3_findAll 2 = .ok (.aload_n 0, 1) := by decide +kernel
theorem dX3_findAll_3 : decode cX3_findAll 3 = .ok (.bipush (-4), 2) := by decide +kernel
theorem dX3_findAll_5 : decode cX3_findAll 5 = .ok (.putfield 142, 3) := by decide +kernel
theorem dX3_findAll_8 : decode cX3_findAll 8 = .ok (.aload_n 0, 1) := by decide +kernel
theorem dX3_findAll_9 : decode cX3_findAll 9 = .ok (.bipush (-4), 2) := by decide +kernel
theorem dX3_findAll_11 : decode cX3_findAll 11 = .ok (.putfield 145, 3) := by decide +kernel
theorem dX3_findAll_14 : decode cX3_findAll 14 = .ok (.iconst 0, 1) := by decide +kernel
theorem dX3_findAll_15 : decode cX3_findAll 15 = .ok (.istore_n 2, 1) := by decide +kernel
theorem dX3_findAll_16 : decode cX3_findAll 16 = .ok (.iload_n 2, 1) := by decide +kernel
theorem dX3_findAll_17 : decode cX3_findAll 17 = .ok (.aload_n 0, 1) := by decide +kernel
theorem dX3_findAll_18 : decode cX3_findAll 18 = .ok (.getfield 7, 3) := by decide +kernel
theorem dX3_findAll_21 : decode cX3_findAll 21 = .ok (.iconst 0, 1) := by decide +kernel
theorem dX3_findAll_22 : decode cX3_findAll 22 = .ok (.iaload, 1) := by decide +kernel
theorem dX3_findAll_23 : decode cX3_findAll 23 = .ok (.if_icmp .ge 50, 3) := by decide +kernel
theorem dX3_findAll_26 : decode cX3_findAll 26 = .ok (.iload_n 2, 1) := by decide +kernel
theorem dX3_findAll_27 : decode cX3_findAll 27 = .ok (.iconst 1, 1) := by decide +kernel
theorem dX3_findAll_28 : decode cX3_findAll 28 = .ok (.iadd, 1) := by decide +kernel
theorem dX3_findAll_29 : decode cX3_findAll 29 = .ok (.istore_n 3, 1) := by decide +kernel
theorem dX3_findAll_30 : decode cX3_findAll 30 = .ok (.iload_n 3, 1) := by decide +kernel
theorem dX3_findAll_31 : decode cX3_findAll 31 = .ok (.aload_n 0, 1) := by decide +kernel
theorem dX3_findAll_32 : decode cX3_findAll 32 = .ok (.getfield 7, 3) := by decide +kernel
theorem dX3_findAll_35 : decode cX3_findAll 35 = .ok (.iconst 0, 1) := by decide +kernel
theorem dX3_findAll_36 : decode cX3_findAll 36 = .ok (.iaload, 1) := by decide +kernel
theorem dX3_findAll_37 : decode cX3_findAll 37 = .ok (.if_icmp .ge 30, 3) := by decide +kernel
theorem dX3_findAll_40 : decode cX3_findAll 40 = .ok (.iload_n 1, 1) := by decide +kernel
theorem dX3_findAll_41 : decode cX3_findAll 41 = .ok (.aload_n 0, 1) := by decide +kernel
theorem dX3_findAll_42 : decode cX3_findAll 42 = .ok (.iload_n 2, 1) := by decide +kernel
theorem dX3_findAll_43 : decode cX3_findAll 43 = .ok (.iload_n 3, 1) := by decide +kernel
theorem dX3_findAll_44 : decode cX3_findAll 44 = .ok (.iconst 3, 1) := by decide +kernel
theorem dX3_findAll_45 : decode cX3_findAll 45 = .ok (.invokevirtual 128, 3) := by decide +kernel
theorem dX3_findAll_48 : decode cX3_findAll 48 = .ok (.iadd, 1) := by decide +kernel
theorem dX3_findAll_49 : decode cX3_findAll 49 = .ok (.istore_n 1, 1) := by decide +kernel
theorem dX3_findAll_50 : decode cX3_findAll 50 = .ok (.aload_n 0, 1) := by decide +kernel
theorem dX3_findAll_51 : decode cX3_findAll 51 = .ok (.iconst 1, 1) := by decide +kernel
theorem dX3_findAll_52 : decode cX3_findAll 52 = .ok (.iload_n 2, 1) := by decide +kernel
theorem dX3_findAll_53 : decode cX3_findAll 53 = .ok (.ishl, 1) := by decide +kernel
theorem dX3_findAll_54 : decode cX3_findAll 54 = .ok (.iconst 1, 1) := by decide +kernel
theorem dX3_findAll_55 : decode cX3_findAll 55 = .ok (.iload_n 3, 1) := by decide +kernel
theorem dX3_findAll_56 : decode cX3_findAll 56 = .ok (.ishl, 1) := by decide +kernel
theorem dX3_findAll_57 : decode cX3_findAll 57 = .ok (.ior, 1) := by decide +kernel
theorem dX3_findAll_58 : decode cX3_findAll 58 = .ok (.invokevirtual 148, 3) := by decide +kernel
theorem dX3_findAll_61 : decode cX3_findAll 61 = .ok (.iinc 3 1, 3) := by decide +kernel
theorem dX3_findAll_64 : decode cX3_findAll 64 = .ok (.goto (-34), 3) := by decide +kernel
theorem dX3_findAll_67 : decode cX3_findAll 67 = .ok (.iinc 2 1, 3) := by decide +kernel
theorem dX3_findAll_70 : decode cX3_findAll 70 = .ok (.goto (-54), 3) := by decide +kernel
theorem dX3_findAll_73 : decode cX3_findAll 73 = .ok (.iconst 0, 1) := by decide +kernel
theorem dX3_findAll_74 : decode cX3_findAll 74 = .ok (.istore_n 2, 1) := by decide +kernel
theorem dX3_findAll_75 : decode cX3_findAll 75 = .ok (.iload_n 2, 1) := by decide +kernel
theorem dX3_findAll_76 : decode cX3_findAll 76 = .ok (.bipush 64, 2) := by decide +kernel
theorem dX3_findAll_78 : decode cX3_findAll 78 = .ok (.if_icmp .ge 76, 3) := by decide +kernel
theorem dX3_findAll_81 : decode cX3_findAll 81 = .ok (.iload_n 2, 1) := by decide +kernel
theorem dX3_findAll_82 : decode cX3_findAll 82 = .ok (.bipush 16, 2) := by decide +kernel
theorem dX3_findAll_84 : decode cX3_findAll 84 = .ok (.idiv, 1) := by decide +kernel
theorem dX3_findAll_85 : decode cX3_findAll 85 = .ok (.istore_n 3, 1) := by decide +kernel
theorem dX3_findAll_86 : decode cX3_findAll 86 = .ok (.iload_n 2, 1) := by decide +kernel
theorem dX3_findAll_87 : decode cX3_findAll 87 = .ok (.iconst 4, 1) := by decide +kernel
theorem dX3_findAll_88 : decode cX3_findAll 88 = .ok (.idiv, 1) := by decide +kernel
theorem dX3_findAll_89 : decode cX3_findAll 89 = .ok (.iconst 4, 1) := by decide +kernel
theorem dX3_findAll_90 : decode cX3_findAll 90 = .ok (.irem, 1) := by decide +kernel
theorem dX3_findAll_91 : decode cX3_findAll 91 = .ok (.istore 4, 2) := by decide +kernel
theorem dX3_findAll_93 : decode cX3_findAll 93 = .ok (.iload_n 2, 1) := by decide +kernel
theorem dX3_findAll_94 : decode cX3_findAll 94 = .ok (.iconst 4, 1) := by decide +kernel
theorem dX3_findAll_95 : decode cX3_findAll 95 = .ok (.irem, 1) := by decide +kernel
theorem dX3_findAll_96 : decode cX3_findAll 96 = .ok (.istore 5, 2) := by decide +kernel
theorem dX3_findAll_98 : decode cX3_findAll 98 = .ok (.aload_n 0, 1) := by decide +kernel
theorem dX3_findAll_99 : decode cX3_findAll 99 = .ok (.iload_n 3, 1) := by decide +kernel
theorem dX3_findAll_100 : decode cX3_findAll 100 = .ok (.iload 4, 2) := by decide +kernel
theorem dX3_findAll_102 : decode cX3_findAll 102 = .ok (.invokevirtual 70, 3) := by decide +kernel
theorem dX3_findAll_105 : decode cX3_findAll 105 = .ok (.ifCond .eq 43, 3) := by decide +kernel
theorem dX3_findAll_108 : decode cX3_findAll 108 = .ok (.aload_n 0, 1) := by decide +kernel
theorem dX3_findAll_109 : decode cX3_findAll 109 = .ok (.iload 4, 2) := by decide +kernel
theorem dX3_findAll_111 : decode cX3_findAll 111 = .ok (.iload 5, 2) := by decide +kernel
theorem dX3_findAll_113 : decode cX3_findAll 113 = .ok (.invokevirtual 70, 3) := by decide +kernel
theorem dX3_findAll_116 : decode cX3_findAll 116 = .ok (.ifCond .eq 32, 3) := by decide +kernel
theorem dX3_findAll_119 : decode cX3_findAll 119 = .ok (.iload_n 1, 1) := by decide +kernel
theorem dX3_findAll_120 : decode cX3_findAll 120 = .ok (.aload_n 0, 1) := by decide +kernel
theorem dX3_findAll_121 : decode cX3_findAll 121 = .ok (.iload_n 3, 1) := by decide +kernel
theorem dX3_findAll_122 : decode cX3_findAll 122 = .ok (.iload 4, 2) := by decide +kernel
theorem dX3_findAll_124 : decode cX3_findAll 124 = .ok (.iload 5, 2) := by decide +kernel
theorem dX3_findAll_126 : decode cX3_findAll 126 = .ok (.invokevirtual 139, 3) := by decide +kernel
theorem dX3_findAll_129 : decode cX3_findAll 129 = .ok (.iadd, 1) := by decide +kernel
theorem dX3_findAll_130 : decode cX3_findAll 130 = .ok (.istore_n 1, 1) := by decide +kernel
theorem dX3_findAll_131 : decode cX3_findAll 131 = .ok (.aload_n 0, 1) := by decide +kernel
theorem dX3_findAll_132 : decode cX3_findAll 132 = .ok (.iconst 1, 1) := by decide +kernel
theorem dX3_findAll_133 : decode cX3_findAll 133 = .ok (.iload_n 3, 1) := by decide +kernel
theorem dX3_findAll_134 : decode cX3_findAll 134 = .ok (.ishl, 1) := by decide +kernel
theorem dX3_findAll_135 : decode cX3_findAll 135 = .ok (.iconst 1, 1) := by decide +kernel
theorem dX3_findAll_136 : decode cX3_findAll 136 = .ok (.iload 4, 2) := by decide +kernel
theorem dX3_findAll_138 : decode cX3_findAll 138 = .ok (.ishl, 1) := by decide +kernel
theorem dX3_findAll_139 : decode cX3_findAll 139 = .ok (.ior, 1) := by decide +kernel
theorem dX3_findAll_140 : decode cX3_findAll 140 = .ok (.iconst 1, 1) := by decide +kernel
theorem dX3_findAll_141 : decode cX3_findAll 141 = .ok (.iload 5, 2) := by decide +kernel
theorem dX3_findAll_143 : decode cX3_findAll 143 = .ok (.ishl, 1) := by decide +kernel
theorem dX3_findAll_144 : decode cX3_findAll 144 = .ok (.ior, 1) := by decide +kernel
theorem dX3_findAll_145 : decode cX3_findAll 145 = .ok (.invokevirtual 148, 3) := by decide +kernel
theorem dX3_findAll_148 : decode cX3_findAll 148 = .ok (.iinc 2 1, 3) := by decide +kernel
theorem dX3_findAll_151 : decode cX3_findAll 151 = .ok (.goto (-76), 3) := by decide +kernel
theorem dX3_findAll_154 : decode cX3_findAll 154 = .ok (.iload_n 1, 1) := by decide +kernel
theorem dX3_findAll_155 : decode cX3_findAll 155 = .ok (.ireturn, 1) := by decide +kernel
theorem dX3_note_0 : decode cX3_note 0 = .ok (.aload_n 0, 1) := by decide +kernel
theorem dX3_note_1 : decode cX3_note 1 = .ok (.getfield 124, 3) := by decide +kernel
theorem dX3_note_4 : decode cX3_note 4 = .ok (.lconst 0, 1) := by decide +kernel
theorem dX3_note_5 : decode cX3_note 5 = .ok (.lcmp, 1) := by decide +kernel
theorem dX3_note_6 : decode cX3_note 6 = .ok (.ifCond .ne 8, 3) := by decide +kernel
theorem dX3_note_9 : decode cX3_note 9 = .ok (.bipush (-4), 2) := by decide +kernel
theorem dX3_note_11 : decode cX3_note 11 = .ok (.goto 11, 3) := by decide +kernel
theorem dX3_note_14 : decode cX3_note 14 = .ok (.lconst 1, 1) := by decide +kernel
theorem dX3_note_15 : decode cX3_note 15 = .ok (.aload_n 0, 1) := by decide +kernel
theorem dX3_note_16 : decode cX3_note 16 = .ok (.getfield 124, 3) := by decide +kernel
theorem dX3_note_19 : decode cX3_note 19 = .ok (.invokestatic 117, 3) := by decide +kernel
theorem dX3_note_22 : decode cX3_note 22 = .ok (.istore_n 2, 1) := by decide +kernel
theorem dX3_note_23 : decode cX3_note 23 = .ok (.iload_n 2, 1) := by decide +kernel
theorem dX3_note_24 : decode cX3_note 24 = .ok (.aload_n 0, 1) := by decide +kernel
theorem dX3_note_25 : decode cX3_note 25 = .ok (.getfield 142, 3) := by decide +kernel
theorem dX3_note_28 : decode cX3_note 28 = .ok (.if_icmp .le 7, 3) := by decide +kernel
theorem dX3_note_31 : decode cX3_note 31 = .ok (.iconst 1, 1) := by decide +kernel
theorem dX3_note_32 : decode cX3_note 32 = .ok (.goto 4, 3) := by decide +kernel
theorem dX3_note_35 : decode cX3_note 35 = .ok (.iconst 0, 1) := by decide +kernel
theorem dX3_note_36 : decode cX3_note 36 = .ok (.istore_n 3, 1) := by decide +kernel
theorem dX3_note_37 : decode cX3_note 37 = .ok (.aload_n 0, 1) := by decide +kernel
theorem dX3_note_38 : decode cX3_note 38 = .ok (.iload_n 3, 1) := by decide +kernel
theorem dX3_note_39 : decode cX3_note 39 = .ok (.ifCond .eq 7, 3) := by decide +kernel
theorem dX3_note_42 : decode cX3_note 42 = .ok (.iload_n 2, 1) := by decide +kernel
theorem dX3_note_43 : decode cX3_note 43 = .ok (.goto 7, 3) := by decide +kernel
theorem dX3_note_46 : decode cX3_note 46 = .ok (.aload_n 0, 1) := by decide +kernel
theorem dX3_note_47 : decode cX3_note 47 = .ok (.getfield 142, 3) := by decide +kernel
theorem dX3_note_50 : decode cX3_note 50 = .ok (.putfield 142, 3) := by decide +kernel
theorem dX3_note_53 : decode cX3_note 53 = .ok (.aload_n 0, 1) := by decide +kernel
theorem dX3_note_54 : decode cX3_note 54 = .ok (.iload_n 3, 1) := by decide +kernel
theorem dX3_note_55 : decode cX3_note 55 = .ok (.ifCond .eq 7, 3) := by decide +kernel
theorem dX3_note_58 : decode cX3_note 58 = .ok (.iload_n 1, 1) := by decide +kernel
theorem dX3_note_59 : decode cX3_note 59 = .ok (.goto 7, 3) := by decide +kernel
theorem dX3_note_62 : decode cX3_note 62 = .ok (.aload_n 0, 1) := by decide +kernel
theorem dX3_note_63 : decode cX3_note 63 = .ok (.getfield 145, 3) := by decide +kernel
theorem dX3_note_66 : decode cX3_note 66 = .ok (.putfield 145, 3) := by decide +kernel
theorem dX3_note_69 : decode cX3_note 69 = .ok (.return_, 1) := by decide +kernel
theorem dX3_allBands_0 : decode cX3_allBands 0 = .ok (.aload_n 0, 1) := by decide +kernel
theorem dX3_allBands_1 : decode cX3_allBands 1 = .ok (.invokevirtual 152, 3) := by decide +kernel
theorem dX3_allBands_4 : decode cX3_allBands 4 = .ok (.ireturn, 1) := by decide +kernel
theorem dX3_worstPlates_0 : decode cX3_worstPlates 0 = .ok (.aload_n 0, 1) := by decide +kernel
theorem dX3_worstPlates_1 : decode cX3_worstPlates 1 = .ok (.invokevirtual 152, 3) := by decide +kernel
theorem dX3_worstPlates_4 : decode cX3_worstPlates 4 = .ok (.istore_n 1, 1) := by decide +kernel
theorem dX3_worstPlates_5 : decode cX3_worstPlates 5 = .ok (.aload_n 0, 1) := by decide +kernel
theorem dX3_worstPlates_6 : decode cX3_worstPlates 6 = .ok (.getfield 145, 3) := by decide +kernel
theorem dX3_worstPlates_9 : decode cX3_worstPlates 9 = .ok (.ireturn, 1) := by decide +kernel
theorem dX3_worstPeriod_0 : decode cX3_worstPeriod 0 = .ok (.aload_n 0, 1) := by decide +kernel
theorem dX3_worstPeriod_1 : decode cX3_worstPeriod 1 = .ok (.invokevirtual 152, 3) := by decide +kernel
theorem dX3_worstPeriod_4 : decode cX3_worstPeriod 4 = .ok (.istore_n 1, 1) := by decide +kernel
theorem dX3_worstPeriod_5 : decode cX3_worstPeriod 5 = .ok (.aload_n 0, 1) := by decide +kernel
theorem dX3_worstPeriod_6 : decode cX3_worstPeriod 6 = .ok (.getfield 142, 3) := by decide +kernel
theorem dX3_worstPeriod_9 : decode cX3_worstPeriod 9 = .ok (.ireturn, 1) := by decide +kernel
theorem dX3_worstPair_0 : decode cX3_worstPair 0 = .ok (.bipush (-4), 2) := by decide +kernel
theorem dX3_worstPair_2 : decode cX3_worstPair 2 = .ok (.istore_n 1, 1) := by decide +kernel
theorem dX3_worstPair_3 : decode cX3_worstPair 3 = .ok (.bipush (-4), 2) := by decide +kernel
theorem dX3_worstPair_5 : decode cX3_worstPair 5 = .ok (.istore_n 2, 1) := by decide +kernel
theorem dX3_worstPair_6 : decode cX3_worstPair 6 = .ok (.iconst 0, 1) := by decide +kernel
theorem dX3_worstPair_7 : decode cX3_worstPair 7 = .ok (.istore_n 3, 1) := by decide +kernel
theorem dX3_worstPair_8 : decode cX3_worstPair 8 = .ok (.iload_n 3, 1) := by decide +kernel
theorem dX3_worstPair_9 : decode cX3_worstPair 9 = .ok (.aload_n 0, 1) := by decide +kernel
theorem dX3_worstPair_10 : decode cX3_worstPair 10 = .ok (.getfield 7, 3) := by decide +kernel
theorem dX3_worstPair_13 : decode cX3_worstPair 13 = .ok (.iconst 0, 1) := by decide +kernel
theorem dX3_worstPair_14 : decode cX3_worstPair 14 = .ok (.iaload, 1) := by decide +kernel
theorem dX3_worstPair_15 : decode cX3_worstPair 15 = .ok (.if_icmp .ge 72, 3) := by decide +kernel
theorem dX3_worstPair_18 : decode cX3_worstPair 18 = .ok (.iload_n 3, 1) := by decide +kernel
theorem dX3_worstPair_19 : decode cX3_worstPair 19 = .ok (.iconst 1, 1) := by decide +kernel
theorem dX3_worstPair_20 : decode cX3_worstPair 20 = .ok (.iadd, 1) := by decide +kernel
theorem dX3_worstPair_21 : decode cX3_worstPair 21 = .ok (.istore 4, 2) := by decide +kernel
theorem dX3_worstPair_23 : decode cX3_worstPair 23 = .ok (.iload 4, 2) := by decide +kernel
theorem dX3_worstPair_25 : decode cX3_worstPair 25 = .ok (.aload_n 0, 1) := by decide +kernel
theorem dX3_worstPair_26 : decode cX3_worstPair 26 = .ok (.getfield 7, 3) := by decide +kernel
theorem dX3_worstPair_29 : decode cX3_worstPair 29 = .ok (.iconst 0, 1) := by decide +kernel
theorem dX3_worstPair_30 : decode cX3_worstPair 30 = .ok (.iaload, 1) := by decide +kernel
theorem dX3_worstPair_31 : decode cX3_worstPair 31 = .ok (.if_icmp .ge 50, 3) := by decide +kernel
theorem dX3_worstPair_34 : decode cX3_worstPair 34 = .ok (.aload_n 0, 1) := by decide +kernel
theorem dX3_worstPair_35 : decode cX3_worstPair 35 = .ok (.iload_n 3, 1) := by decide +kernel
theorem dX3_worstPair_36 : decode cX3_worstPair 36 = .ok (.iload 4, 2) := by decide +kernel
theorem dX3_worstPair_38 : decode cX3_worstPair 38 = .ok (.iconst 3, 1) := by decide +kernel
theorem dX3_worstPair_39 : decode cX3_worstPair 39 = .ok (.invokevirtual 128, 3) := by decide +kernel
theorem dX3_worstPair_42 : decode cX3_worstPair 42 = .ok (.istore 5, 2) := by decide +kernel
theorem dX3_worstPair_44 : decode cX3_worstPair 44 = .ok (.iload 5, 2) := by decide +kernel
theorem dX3_worstPair_46 : decode cX3_worstPair 46 = .ok (.iload_n 2, 1) := by decide +kernel
theorem dX3_worstPair_47 : decode cX3_worstPair 47 = .ok (.if_icmp .le 13, 3) := by decide +kernel
theorem dX3_worstPair_50 : decode cX3_worstPair 50 = .ok (.bipush 10, 2) := by decide +kernel
theorem dX3_worstPair_52 : decode cX3_worstPair 52 = .ok (.iload_n 3, 1) := by decide +kernel
theorem dX3_worstPair_53 : decode cX3_worstPair 53 = .ok (.imul, 1) := by decide +kernel
theorem dX3_worstPair_54 : decode cX3_worstPair 54 = .ok (.iload 4, 2) := by decide +kernel
theorem dX3_worstPair_56 : decode cX3_worstPair 56 = .ok (.iadd, 1) := by decide +kernel
theorem dX3_worstPair_57 : decode cX3_worstPair 57 = .ok (.goto 4, 3) := by decide +kernel
theorem dX3_worstPair_60 : decode cX3_worstPair 60 = .ok (.iload_n 1, 1) := by decide +kernel
theorem dX3_worstPair_61 : decode cX3_worstPair 61 = .ok (.istore_n 1, 1) := by decide +kernel
theorem dX3_worstPair_62 : decode cX3_worstPair 62 = .ok (.iload 5, 2) := by decide +kernel
theorem dX3_worstPair_64 : decode cX3_worstPair 64 = .ok (.iload_n 2, 1) := by decide +kernel
theorem dX3_worstPair_65 : decode cX3_worstPair 65 = .ok (.if_icmp .le 8, 3) := by decide +kernel
theorem dX3_worstPair_68 : decode cX3_worstPair 68 = .ok (.iload 5, 2) := by decide +kernel
theorem dX3_worstPair_70 : decode cX3_worstPair 70 = .ok (.goto 4, 3) := by decide +kernel
theorem dX3_worstPair_73 : decode cX3_worstPair 73 = .ok (.iload_n 2, 1) := by decide +kernel
theorem dX3_worstPair_74 : decode cX3_worstPair 74 = .ok (.istore_n 2, 1) := by decide +kernel
theorem dX3_worstPair_75 : decode cX3_worstPair 75 = .ok (.iinc 4 1, 3) := by decide +kernel
theorem dX3_worstPair_78 : decode cX3_worstPair 78 = .ok (.goto (-55), 3) := by decide +kernel
theorem dX3_worstPair_81 : decode cX3_worstPair 81 = .ok (.iinc 3 1, 3) := by decide +kernel
theorem dX3_worstPair_84 : decode cX3_worstPair 84 = .ok (.goto (-76), 3) := by decide +kernel
theorem dX3_worstPair_87 : decode cX3_worstPair 87 = .ok (.iload_n 1, 1) := by decide +kernel
theorem dX3_worstPair_88 : decode cX3_worstPair 88 = .ok (.ireturn, 1) := by decide +kernel
theorem dX3_size_0 : decode cX3_size 0 = .ok (.iload_n 0, 1) := by decide +kernel
theorem dX3_size_1 : decode cX3_size 1 = .ok (.ifCond .ge 8, 3) := by decide +kernel
theorem dX3_size_4 : decode cX3_size 4 = .ok (.iload_n 0, 1) := by decide +kernel
theorem dX3_size_5 : decode cX3_size 5 = .ok (.ineg, 1) := by decide +kernel
theorem dX3_size_6 : decode cX3_size 6 = .ok (.goto 4, 3) := by decide +kernel
theorem dX3_size_9 : decode cX3_size 9 = .ok (.iload_n 0, 1) := by decide +kernel
theorem dX3_size_10 : decode cX3_size 10 = .ok (.ireturn, 1) := by decide +kernel
theorem dX3_search_0 : decode cX3_search 0 = .ok (.aload_n 0, 1) := by decide +kernel
theorem dX3_search_1 : decode cX3_search 1 = .ok (.iload_n 1, 1) := by decide +kernel
theorem dX3_search_2 : decode cX3_search 2 = .ok (.invokevirtual 35, 3) := by decide +kernel
theorem dX3_search_5 : decode cX3_search 5 = .ok (.istore 4, 2) := by decide +kernel
theorem dX3_search_7 : decode cX3_search 7 = .ok (.aload_n 0, 1) := by decide +kernel
theorem dX3_search_8 : decode cX3_search 8 = .ok (.iload_n 1, 1) := by decide +kernel
theorem dX3_search_9 : decode cX3_search 9 = .ok (.invokevirtual 39, 3) := by decide +kernel
theorem dX3_search_12 : decode cX3_search 12 = .ok (.istore 5, 2) := by decide +kernel
theorem dX3_search_14 : decode cX3_search 14 = .ok (.aload_n 0, 1) := by decide +kernel
theorem dX3_search_15 : decode cX3_search 15 = .ok (.iload_n 1, 1) := by decide +kernel
theorem dX3_search_16 : decode cX3_search 16 = .ok (.invokevirtual 49, 3) := by decide +kernel
theorem dX3_search_19 : decode cX3_search 19 = .ok (.istore 6, 2) := by decide +kernel
theorem dX3_search_21 : decode cX3_search 21 = .ok (.bipush (-4), 2) := by decide +kernel
theorem dX3_search_23 : decode cX3_search 23 = .ok (.istore 7, 2) := by decide +kernel
theorem dX3_search_25 : decode cX3_search 25 = .ok (.iconst 0, 1) := by decide +kernel
theorem dX3_search_26 : decode cX3_search 26 = .ok (.istore 8, 2) := by decide +kernel
theorem dX3_search_28 : decode cX3_search 28 = .ok (.aload_n 0, 1) := by decide +kernel
theorem dX3_search_29 : decode cX3_search 29 = .ok (.bipush (-4), 2) := by decide +kernel
theorem dX3_search_31 : decode cX3_search 31 = .ok (.putfield 156, 3) := by decide +kernel
theorem dX3_search_34 : decode cX3_search 34 = .ok (.iconst 1, 1) := by decide +kernel
theorem dX3_search_35 : decode cX3_search 35 = .ok (.istore 9, 2) := by decide +kernel
theorem dX3_search_37 : decode cX3_search 37 = .ok (.iload 9, 2) := by decide +kernel
theorem dX3_search_39 : decode cX3_search 39 = .ok (.bipush 20, 2) := by decide +kernel
theorem dX3_search_41 : decode cX3_search 41 = .ok (.if_icmp .gt 181, 3) := by decide +kernel
theorem dX3_search_44 : decode cX3_search 44 = .ok (.iconst 0, 1) := by decide +kernel
theorem dX3_search_45 : decode cX3_search 45 = .ok (.istore 10, 2) := by decide +kernel
theorem dX3_search_47 : decode cX3_search 47 = .ok (.iload 10, 2) := by decide +kernel
theorem dX3_search_49 : decode cX3_search 49 = .ok (.bipush 20, 2) := by decide +kernel
theorem dX3_search_51 : decode cX3_search 51 = .ok (.if_icmp .gt 165, 3) := by decide +kernel
theorem dX3_search_54 : decode cX3_search 54 = .ok (.iload 9, 2) := by decide +kernel
theorem dX3_search_56 : decode cX3_search 56 = .ok (.iload 9, 2) := by decide +kernel
theorem dX3_search_58 : decode cX3_search 58 = .ok (.imul, 1) := by decide +kernel
theorem dX3_search_59 : decode cX3_search 59 = .ok (.iload 10, 2) := by decide +kernel
theorem dX3_search_61 : decode cX3_search 61 = .ok (.iload 10, 2) := by decide +kernel
theorem dX3_search_63 : decode cX3_search 63 = .ok (.imul, 1) := by decide +kernel
theorem dX3_search_64 : decode cX3_search 64 = .ok (.iadd, 1) := by decide +kernel
theorem dX3_search_65 : decode cX3_search 65 = .ok (.istore 11, 2) := by decide +kernel
theorem dX3_search_67 : decode cX3_search 67 = .ok (.iload 11, 2) := by decide +kernel
theorem dX3_search_69 : decode cX3_search 69 = .ok (.iload_n 2, 1) := by decide +kernel
theorem dX3_search_70 : decode cX3_search 70 = .ok (.iload_n 3, 1) := by decide +kernel
theorem dX3_search_71 : decode cX3_search 71 = .ok (.invokestatic 27, 3) := by decide +kernel
theorem dX3_search_74 : decode cX3_search 74 = .ok (.ifCond .eq 136, 3) := by decide +kernel
theorem dX3_search_77 : decode cX3_search 77 = .ok (.aload_n 0, 1) := by decide +kernel
theorem dX3_search_78 : decode cX3_search 78 = .ok (.getfield 7, 3) := by decide +kernel
theorem dX3_search_81 : decode cX3_search 81 = .ok (.iconst 4, 1) := by decide +kernel
theorem dX3_search_82 : decode cX3_search 82 = .ok (.iconst 2, 1) := by decide +kernel
theorem dX3_search_83 : decode cX3_search 83 = .ok (.iload_n 1, 1) := by decide +kernel
theorem dX3_search_84 : decode cX3_search 84 = .ok (.imul, 1) := by decide +kernel
theorem dX3_search_85 : decode cX3_search 85 = .ok (.iadd, 1) := by decide +kernel
theorem dX3_search_86 : decode cX3_search 86 = .ok (.iload 9, 2) := by decide +kernel
theorem dX3_search_88 : decode cX3_search 88 = .ok (.iastore, 1) := by decide +kernel
theorem dX3_search_89 : decode cX3_search 89 = .ok (.aload_n 0, 1) := by decide +kernel
theorem dX3_search_90 : decode cX3_search 90 = .ok (.getfield 7, 3) := by decide +kernel
theorem dX3_search_93 : decode cX3_search 93 = .ok (.iconst 4, 1) := by decide +kernel
theorem dX3_search_94 : decode cX3_search 94 = .ok (.iconst 2, 1) := by decide +kernel
theorem dX3_search_95 : decode cX3_search 95 = .ok (.iload_n 1, 1) := by decide +kernel
theorem dX3_search_96 : decode cX3_search 96 = .ok (.imul, 1) := by decide +kernel
theorem dX3_search_97 : decode cX3_search 97 = .ok (.iadd, 1) := by decide +kernel
theorem dX3_search_98 : decode cX3_search 98 = .ok (.iconst 1, 1) := by decide +kernel
theorem dX3_search_99 : decode cX3_search 99 = .ok (.iadd, 1) := by decide +kernel
theorem dX3_search_100 : decode cX3_search 100 = .ok (.iload 10, 2) := by decide +kernel
theorem dX3_search_102 : decode cX3_search 102 = .ok (.iastore, 1) := by decide +kernel
theorem dX3_search_103 : decode cX3_search 103 = .ok (.aload_n 0, 1) := by decide +kernel
theorem dX3_search_104 : decode cX3_search 104 = .ok (.invokevirtual 152, 3) := by decide +kernel
theorem dX3_search_107 : decode cX3_search 107 = .ok (.istore 12, 2) := by decide +kernel
theorem dX3_search_109 : decode cX3_search 109 = .ok (.iload 7, 2) := by decide +kernel
theorem dX3_search_111 : decode cX3_search 111 = .ok (.ifCond .lt 34, 3) := by decide +kernel
theorem dX3_search_114 : decode cX3_search 114 = .ok (.iload 12, 2) := by decide +kernel
theorem dX3_search_116 : decode cX3_search 116 = .ok (.aload_n 0, 1) := by decide +kernel
theorem dX3_search_117 : decode cX3_search 117 = .ok (.getfield 156, 3) := by decide +kernel
theorem dX3_search_120 : decode cX3_search 120 = .ok (.if_icmp .lt 25, 3) := by decide +kernel
theorem dX3_search_123 : decode cX3_search 123 = .ok (.iload 12, 2) := by decide +kernel
theorem dX3_search_125 : decode cX3_search 125 = .ok (.aload_n 0, 1) := by decide +kernel
theorem dX3_search_126 : decode cX3_search 126 = .ok (.getfield 156, 3) := by decide +kernel
theorem dX3_search_129 : decode cX3_search 129 = .ok (.if_icmp .ne 20, 3) := by decide +kernel
theorem dX3_search_132 : decode cX3_search 132 = .ok (.iload 11, 2) := by decide +kernel
theorem dX3_search_134 : decode cX3_search 134 = .ok (.iload 6, 2) := by decide +kernel
theorem dX3_search_136 : decode cX3_search 136 = .ok (.isub, 1) := by decide +kernel
theorem dX3_search_137 : decode cX3_search 137 = .ok (.invokestatic 159, 3) := by decide +kernel
theorem dX3_search_140 : decode cX3_search 140 = .ok (.iload 8, 2) := by decide +kernel
theorem dX3_search_142 : decode cX3_search 142 = .ok (.if_icmp .ge 7, 3) := by decide +kernel
theorem dX3_search_145 : decode cX3_search 145 = .ok (.iconst 1, 1) := by decide +kernel
theorem dX3_search_146 : decode cX3_search 146 = .ok (.goto 4, 3) := by decide +kernel
theorem dX3_search_149 : decode cX3_search 149 = .ok (.iconst 0, 1) := by decide +kernel
theorem dX3_search_150 : decode cX3_search 150 = .ok (.istore 13, 2) := by decide +kernel
theorem dX3_search_152 : decode cX3_search 152 = .ok (.iload 13, 2) := by decide +kernel
theorem dX3_search_154 : decode cX3_search 154 = .ok (.ifCond .eq 14, 3) := by decide +kernel
theorem dX3_search_157 : decode cX3_search 157 = .ok (.bipush 100, 2) := by decide +kernel
theorem dX3_search_159 : decode cX3_search 159 = .ok (.iload 9, 2) := by decide +kernel
theorem dX3_search_161 : decode cX3_search 161 = .ok (.imul, 1) := by decide +kernel
theorem dX3_search_162 : decode cX3_search 162 = .ok (.iload 10, 2) := by decide +kernel
theorem dX3_search_164 : decode cX3_search 164 = .ok (.iadd, 1) := by decide +kernel
theorem dX3_search_165 : decode cX3_search 165 = .ok (.goto 5, 3) := by decide +kernel
theorem dX3_search_168 : decode cX3_search 168 = .ok (.iload 7, 2) := by decide +kernel
theorem dX3_search_170 : decode cX3_search 170 = .ok (.istore 7, 2) := by decide +kernel
theorem dX3_search_172 : decode cX3_search 172 = .ok (.aload_n 0, 1) := by decide +kernel
theorem dX3_search_173 : decode cX3_search 173 = .ok (.iload 13, 2) := by decide +kernel
theorem dX3_search_175 : decode cX3_search 175 = .ok (.ifCond .eq 8, 3) := by decide +kernel
theorem dX3_search_178 : decode cX3_search 178 = .ok (.iload 12, 2) := by decide +kernel
theorem dX3_search_180 : decode cX3_search 180 = .ok (.goto 7, 3) := by decide +kernel
theorem dX3_search_183 : decode cX3_search 183 = .ok (.aload_n 0, 1) := by decide +kernel
theorem dX3_search_184 : decode cX3_search 184 = .ok (.getfield 156, 3) := by decide +kernel
theorem dX3_search_187 : decode cX3_search 187 = .ok (.putfield 156, 3) := by decide +kernel
theorem dX3_search_190 : decode cX3_search 190 = .ok (.iload 13, 2) := by decide +kernel
theorem dX3_search_192 : decode cX3_search 192 = .ok (.ifCond .eq 14, 3) := by decide +kernel
theorem dX3_search_195 : decode cX3_search 195 = .ok (.iload 11, 2) := by decide +kernel
theorem dX3_search_197 : decode cX3_search 197 = .ok (.iload 6, 2) := by decide +kernel
theorem dX3_search_199 : decode cX3_search 199 = .ok (.isub, 1) := by decide +kernel
theorem dX3_search_200 : decode cX3_search 200 = .ok (.invokestatic 159, 3) := by decide +kernel
theorem dX3_search_203 : decode cX3_search 203 = .ok (.goto 5, 3) := by decide +kernel
theorem dX3_search_206 : decode cX3_search 206 = .ok (.iload 8, 2) := by decide +kernel
theorem dX3_search_208 : decode cX3_search 208 = .ok (.istore 8, 2) := by decide +kernel
theorem dX3_search_210 : decode cX3_search 210 = .ok (.iinc 10 1, 3) := by decide +kernel
theorem dX3_search_213 : decode cX3_search 213 = .ok (.goto (-166), 3) := by decide +kernel
theorem dX3_search_216 : decode cX3_search 216 = .ok (.iinc 9 1, 3) := by decide +kernel
theorem dX3_search_219 : decode cX3_search 219 = .ok (.goto (-182), 3) := by decide +kernel
theorem dX3_search_222 : decode cX3_search 222 = .ok (.aload_n 0, 1) := by decide +kernel
theorem dX3_search_223 : decode cX3_search 223 = .ok (.getfield 7, 3) := by decide +kernel
theorem dX3_search_226 : decode cX3_search 226 = .ok (.iconst 4, 1) := by decide +kernel
theorem dX3_search_227 : decode cX3_search 227 = .ok (.iconst 2, 1) := by decide +kernel
theorem dX3_search_228 : decode cX3_search 228 = .ok (.iload_n 1, 1) := by decide +kernel
theorem dX3_search_229 : decode cX3_search 229 = .ok (.imul, 1) := by decide +kernel
theorem dX3_search_230 : decode cX3_search 230 = .ok (.iadd, 1) := by decide +kernel
theorem dX3_search_231 : decode cX3_search 231 = .ok (.iload 4, 2) := by decide +kernel
theorem dX3_search_233 : decode cX3_search 233 = .ok (.iastore, 1) := by decide +kernel
theorem dX3_search_234 : decode cX3_search 234 = .ok (.aload_n 0, 1) := by decide +kernel
theorem dX3_search_235 : decode cX3_search 235 = .ok (.getfield 7, 3) := by decide +kernel
theorem dX3_search_238 : decode cX3_search 238 = .ok (.iconst 4, 1) := by decide +kernel
theorem dX3_search_239 : decode cX3_search 239 = .ok (.iconst 2, 1) := by decide +kernel
theorem dX3_search_240 : decode cX3_search 240 = .ok (.iload_n 1, 1) := by decide +kernel
theorem dX3_search_241 : decode cX3_search 241 = .ok (.imul, 1) := by decide +kernel
theorem dX3_search_242 : decode cX3_search 242 = .ok (.iadd, 1) := by decide +kernel
theorem dX3_search_243 : decode cX3_search 243 = .ok (.iconst 1, 1) := by decide +kernel
theorem dX3_search_244 : decode cX3_search 244 = .ok (.iadd, 1) := by decide +kernel
theorem dX3_search_245 : decode cX3_search 245 = .ok (.iload 5, 2) := by decide +kernel
theorem dX3_search_247 : decode cX3_search 247 = .ok (.iastore, 1) := by decide +kernel
theorem dX3_search_248 : decode cX3_search 248 = .ok (.iload 7, 2) := by decide +kernel
theorem dX3_search_250 : decode cX3_search 250 = .ok (.ireturn, 1) := by decide +kernel
theorem dX3_isRange_0 : decode cX3_isRange 0 = .ok (.aload_n 0, 1) := by decide +kernel
theorem dX3_isRange_1 : decode cX3_isRange 1 = .ok (.iload_n 1, 1) := by decide +kernel
theorem dX3_isRange_2 : decode cX3_isRange 2 = .ok (.invokevirtual 31, 3) := by decide +kernel
theorem dX3_isRange_5 : decode cX3_isRange 5 = .ok (.ifCond .eq 29, 3) := by decide +kernel
theorem dX3_isRange_8 : decode cX3_isRange 8 = .ok (.iload_n 2, 1) := by decide +kernel
theorem dX3_isRange_9 : decode cX3_isRange 9 = .ok (.iconst 1, 1) := by decide +kernel
theorem dX3_isRange_10 : decode cX3_isRange 10 = .ok (.sipush 800, 3) := by decide +kernel
theorem dX3_isRange_13 : decode cX3_isRange 13 = .ok (.invokestatic 27, 3) := by decide +kernel
theorem dX3_isRange_16 : decode cX3_isRange 16 = .ok (.ifCond .eq 18, 3) := by decide +kernel
theorem dX3_isRange_19 : decode cX3_isRange 19 = .ok (.iload_n 3, 1) := by decide +kernel
theorem dX3_isRange_20 : decode cX3_isRange 20 = .ok (.iload_n 2, 1) := by decide +kernel
theorem dX3_isRange_21 : decode cX3_isRange 21 = .ok (.sipush 800, 3) := by decide +kernel
theorem dX3_isRange_24 : decode cX3_isRange 24 = .ok (.invokestatic 27, 3) := by decide +kernel
theorem dX3_isRange_27 : decode cX3_isRange 27 = .ok (.ifCond .eq 7, 3) := by decide +kernel
theorem dX3_isRange_30 : decode cX3_isRange 30 = .ok (.iconst 1, 1) := by decide +kernel
theorem dX3_isRange_31 : decode cX3_isRange 31 = .ok (.goto 4, 3) := by decide +kernel
theorem dX3_isRange_34 : decode cX3_isRange 34 = .ok (.iconst 0, 1) := by decide +kernel
theorem dX3_isRange_35 : decode cX3_isRange 35 = .ok (.ireturn, 1) := by decide +kernel
theorem dX3_bestScreen_0 : decode cX3_bestScreen 0 = .ok (.aload_n 0, 1) := by decide +kernel
theorem dX3_bestScreen_1 : decode cX3_bestScreen 1 = .ok (.iload_n 1, 1) := by decide +kernel
theorem dX3_bestScreen_2 : decode cX3_bestScreen 2 = .ok (.iload_n 2, 1) := by decide +kernel
theorem dX3_bestScreen_3 : decode cX3_bestScreen 3 = .ok (.iload_n 3, 1) := by decide +kernel
theorem dX3_bestScreen_4 : decode cX3_bestScreen 4 = .ok (.invokevirtual 162, 3) := by decide +kernel
theorem dX3_bestScreen_7 : decode cX3_bestScreen 7 = .ok (.ifCond .eq 13, 3) := by decide +kernel
theorem dX3_bestScreen_10 : decode cX3_bestScreen 10 = .ok (.aload_n 0, 1) := by decide +kernel
theorem dX3_bestScreen_11 : decode cX3_bestScreen 11 = .ok (.iload_n 1, 1) := by decide +kernel
theorem dX3_bestScreen_12 : decode cX3_bestScreen 12 = .ok (.iload_n 2, 1) := by decide +kernel
theorem dX3_bestScreen_13 : decode cX3_bestScreen 13 = .ok (.iload_n 3, 1) := by decide +kernel
theorem dX3_bestScreen_14 : decode cX3_bestScreen 14 = .ok (.invokevirtual 165, 3) := by decide +kernel
theorem dX3_bestScreen_17 : decode cX3_bestScreen 17 = .ok (.goto 4, 3) := by decide +kernel
theorem dX3_bestScreen_20 : decode cX3_bestScreen 20 = .ok (.iconst (-1), 1) := by decide +kernel
theorem dX3_bestScreen_21 : decode cX3_bestScreen 21 = .ok (.ireturn, 1) := by decide +kernel
theorem dX3_bandsWithBest_0 : decode cX3_bandsWithBest 0 = .ok (.aload_n 0, 1) := by decide +kernel
theorem dX3_bandsWithBest_1 : decode cX3_bandsWithBest 1 = .ok (.iload_n 1, 1) := by decide +kernel
theorem dX3_bandsWithBest_2 : decode cX3_bandsWithBest 2 = .ok (.iload_n 2, 1) := by decide +kernel
theorem dX3_bandsWithBest_3 : decode cX3_bandsWithBest 3 = .ok (.iload_n 3, 1) := by decide +kernel
theorem dX3_bandsWithBest_4 : decode cX3_bandsWithBest 4 = .ok (.invokevirtual 162, 3) := by decide +kernel
theorem dX3_bandsWithBest_7 : decode cX3_bandsWithBest 7 = .ok (.ifCond .ne 5, 3) := by decide +kernel
theorem dX3_bandsWithBest_10 : decode cX3_bandsWithBest 10 = .ok (.iconst (-1), 1) := by decide +kernel
theorem dX3_bandsWithBest_11 : decode cX3_bandsWithBest 11 = .ok (.ireturn, 1) := by decide +kernel
theorem dX3_bandsWithBest_12 : decode cX3_bandsWithBest 12 = .ok (.aload_n 0, 1) := by decide +kernel
theorem dX3_bandsWithBest_13 : decode cX3_bandsWithBest 13 = .ok (.iload_n 1, 1) := by decide +kernel
theorem dX3_bandsWithBest_14 : decode cX3_bandsWithBest 14 = .ok (.iload_n 2, 1) := by decide +kernel
theorem dX3_bandsWithBest_15 : decode cX3_bandsWithBest 15 = .ok (.iload_n 3, 1) := by decide +kernel
theorem dX3_bandsWithBest_16 : decode cX3_bandsWithBest 16 = .ok (.invokevirtual 165, 3) := by decide +kernel
theorem dX3_bandsWithBest_19 : decode cX3_bandsWithBest 19 = .ok (.istore 4, 2) := by decide +kernel
theorem dX3_bandsWithBest_21 : decode cX3_bandsWithBest 21 = .ok (.aload_n 0, 1) := by decide +kernel
theorem dX3_bandsWithBest_22 : decode cX3_bandsWithBest 22 = .ok (.getfield 156, 3) := by decide +kernel
theorem dX3_bandsWithBest_25 : decode cX3_bandsWithBest 25 = .ok (.ireturn, 1) := by decide +kernel
theorem dX3_save_0 : decode cX3_save 0 = .ok (.iload_n 1, 1) := by decide +kernel
theorem dX3_save_1 : decode cX3_save 1 = .ok (.iconst 0, 1) := by decide +kernel
theorem dX3_save_2 : decode cX3_save 2 = .ok (.iconst 1, 1) := by decide +kernel
theorem dX3_save_3 : decode cX3_save 3 = .ok (.invokestatic 27, 3) := by decide +kernel
theorem dX3_save_6 : decode cX3_save 6 = .ok (.ifCond .ne 5, 3) := by decide +kernel
theorem dX3_save_9 : decode cX3_save 9 = .ok (.iconst (-1), 1) := by decide +kernel
theorem dX3_save_10 : decode cX3_save 10 = .ok (.ireturn, 1) := by decide +kernel
theorem dX3_save_11 : decode cX3_save 11 = .ok (.aload_n 0, 1) := by decide +kernel
theorem dX3_save_12 : decode cX3_save 12 = .ok (.getfield 16, 3) := by decide +kernel
theorem dX3_save_15 : decode cX3_save 15 = .ok (.bipush 13, 2) := by decide +kernel
theorem dX3_save_17 : decode cX3_save 17 = .ok (.iload_n 1, 1) := by decide +kernel
theorem dX3_save_18 : decode cX3_save 18 = .ok (.imul, 1) := by decide +kernel
theorem dX3_save_19 : decode cX3_save 19 = .ok (.iconst 1, 1) := by decide +kernel
theorem dX3_save_20 : decode cX3_save 20 = .ok (.iastore, 1) := by decide +kernel
theorem dX3_save_21 : decode cX3_save 21 = .ok (.iconst 0, 1) := by decide +kernel
theorem dX3_save_22 : decode cX3_save 22 = .ok (.istore_n 2, 1) := by decide +kernel
theorem dX3_save_23 : decode cX3_save 23 = .ok (.iload_n 2, 1) := by decide +kernel
theorem dX3_save_24 : decode cX3_save 24 = .ok (.bipush 12, 2) := by decide +kernel
theorem dX3_save_26 : decode cX3_save 26 = .ok (.if_icmp .ge 28, 3) := by decide +kernel
theorem dX3_save_29 : decode cX3_save 29 = .ok (.aload_n 0, 1) := by decide +kernel
theorem dX3_save_30 : decode cX3_save 30 = .ok (.getfield 16, 3) := by decide +kernel
theorem dX3_save_33 : decode cX3_save 33 = .ok (.bipush 13, 2) := by decide +kernel
theorem dX3_save_35 : decode cX3_save 35 = .ok (.iload_n 1, 1) := by decide +kernel
theorem dX3_save_36 : decode cX3_save 36 = .ok (.imul, 1) := by decide +kernel
theorem dX3_save_37 : decode cX3_save 37 = .ok (.iconst 1, 1) := by decide +kernel
theorem dX3_save_38 : decode cX3_save 38 = .ok (.iadd, 1) := by decide +kernel
theorem dX3_save_39 : decode cX3_save 39 = .ok (.iload_n 2, 1) := by decide +kernel
theorem dX3_save_40 : decode cX3_save 40 = .ok (.iadd, 1) := by decide +kernel
theorem dX3_save_41 : decode cX3_save 41 = .ok (.aload_n 0, 1) := by decide +kernel
theorem dX3_save_42 : decode cX3_save 42 = .ok (.getfield 7, 3) := by decide +kernel
theorem dX3_save_45 : decode cX3_save 45 = .ok (.iload_n 2, 1) := by decide +kernel
theorem dX3_save_46 : decode cX3_save 46 = .ok (.iaload, 1) := by decide +kernel
theorem dX3_save_47 : decode cX3_save 47 = .ok (.iastore, 1) := by decide +kernel
theorem dX3_save_48 : decode cX3_save 48 = .ok (.iinc 2 1, 3) := by decide +kernel
theorem dX3_save_51 : decode cX3_save 51 = .ok (.goto (-28), 3) := by decide +kernel
theorem dX3_save_54 : decode cX3_save 54 = .ok (.aload_n 0, 1) := by decide +kernel
theorem dX3_save_55 : decode cX3_save 55 = .ok (.getfield 7, 3) := by decide +kernel
theorem dX3_save_58 : decode cX3_save 58 = .ok (.iconst 0, 1) := by decide +kernel
theorem dX3_save_59 : decode cX3_save 59 = .ok (.iaload, 1) := by decide +kernel
theorem dX3_save_60 : decode cX3_save 60 = .ok (.ireturn, 1) := by decide +kernel
theorem dX3_restore_0 : decode cX3_restore 0 = .ok (.iload_n 1, 1) := by decide +kernel
theorem dX3_restore_1 : decode cX3_restore 1 = .ok (.iconst 0, 1) := by decide +kernel
theorem dX3_restore_2 : decode cX3_restore 2 = .ok (.iconst 1, 1) := by decide +kernel
theorem dX3_restore_3 : decode cX3_restore 3 = .ok (.invokestatic 27, 3) := by decide +kernel
theorem dX3_restore_6 : decode cX3_restore 6 = .ok (.ifCond .ne 5, 3) := by decide +kernel
theorem dX3_restore_9 : decode cX3_restore 9 = .ok (.iconst (-1), 1) := by decide +kernel
theorem dX3_restore_10 : decode cX3_restore 10 = .ok (.ireturn, 1) := by decide +kernel
theorem dX3_restore_11 : decode cX3_restore 11 = .ok (.aload_n 0, 1) := by decide +kernel
theorem dX3_restore_12 : decode cX3_restore 12 = .ok (.getfield 16, 3) := by decide +kernel
theorem dX3_restore_15 : decode cX3_restore 15 = .ok (.bipush 13, 2) := by decide +kernel
theorem dX3_restore_17 : decode cX3_restore 17 = .ok (.iload_n 1, 1) := by decide +kernel
theorem dX3_restore_18 : decode cX3_restore 18 = .ok (.imul, 1) := by decide +kernel
theorem dX3_restore_19 : decode cX3_restore 19 = .ok (.iaload, 1) := by decide +kernel
theorem dX3_restore_20 : decode cX3_restore 20 = .ok (.ifCond .ne 6, 3) := by decide +kernel
theorem dX3_restore_23 : decode cX3_restore 23 = .ok (.bipush (-2), 2) := by decide +kernel
theorem dX3_restore_25 : decode cX3_restore 25 = .ok (.ireturn, 1) := by decide +kernel
theorem dX3_restore_26 : decode cX3_restore 26 = .ok (.aload_n 0, 1) := by decide +kernel
theorem dX3_restore_27 : decode cX3_restore 27 = .ok (.invokevirtual 46, 3) := by decide +kernel
theorem dX3_restore_30 : decode cX3_restore 30 = .ok (.iconst 0, 1) := by decide +kernel
theorem dX3_restore_31 : decode cX3_restore 31 = .ok (.istore_n 2, 1) := by decide +kernel
theorem dX3_restore_32 : decode cX3_restore 32 = .ok (.iload_n 2, 1) := by decide +kernel
theorem dX3_restore_33 : decode cX3_restore 33 = .ok (.bipush 12, 2) := by decide +kernel
theorem dX3_restore_35 : decode cX3_restore 35 = .ok (.if_icmp .ge 28, 3) := by decide +kernel
theorem dX3_restore_38 : decode cX3_restore 38 = .ok (.aload_n 0, 1) := by decide +kernel
theorem dX3_restore_39 : decode cX3_restore 39 = .ok (.getfield 7, 3) := by decide +kernel
theorem dX3_restore_42 : decode cX3_restore 42 = .ok (.iload_n 2, 1) := by decide +kernel
theorem dX3_restore_43 : decode cX3_restore 43 = .ok (.aload_n 0, 1) := by decide +kernel
theorem dX3_restore_44 : decode cX3_restore 44 = .ok (.getfield 16, 3) := by decide +kernel
theorem dX3_restore_47 : decode cX3_restore 47 = .ok (.bipush 13, 2) := by decide +kernel
theorem dX3_restore_49 : decode cX3_restore 49 = .ok (.iload_n 1, 1) := by decide +kernel
theorem dX3_restore_50 : decode cX3_restore 50 = .ok (.imul, 1) := by decide +kernel
theorem dX3_restore_51 : decode cX3_restore 51 = .ok (.iconst 1, 1) := by decide +kernel
theorem dX3_restore_52 : decode cX3_restore 52 = .ok (.iadd, 1) := by decide +kernel
theorem dX3_restore_53 : decode cX3_restore 53 = .ok (.iload_n 2, 1) := by decide +kernel
theorem dX3_restore_54 : decode cX3_restore 54 = .ok (.iadd, 1) := by decide +kernel
theorem dX3_restore_55 : decode cX3_restore 55 = .ok (.iaload, 1) := by decide +kernel
theorem dX3_restore_56 : decode cX3_restore 56 = .ok (.iastore, 1) := by decide +kernel
theorem dX3_restore_57 : decode cX3_restore 57 = .ok (.iinc 2 1, 3) := by decide +kernel
theorem dX3_restore_60 : decode cX3_restore 60 = .ok (.goto (-28), 3) := by decide +kernel
theorem dX3_restore_63 : decode cX3_restore 63 = .ok (.aload_n 0, 1) := by decide +kernel
theorem dX3_restore_64 : decode cX3_restore 64 = .ok (.getfield 7, 3) := by decide +kernel
theorem dX3_restore_67 : decode cX3_restore 67 = .ok (.iconst 0, 1) := by decide +kernel
theorem dX3_restore_68 : decode cX3_restore 68 = .ok (.iaload, 1) := by decide +kernel
theorem dX3_restore_69 : decode cX3_restore 69 = .ok (.ireturn, 1) := by decide +kernel
theorem dX3_historySize_0 : decode cX3_historySize 0 = .ok (.aload_n 0, 1) := by decide +kernel
theorem dX3_historySize_1 : decode cX3_historySize 1 = .ok (.getfield 23, 3) := by decide +kernel
theorem dX3_historySize_4 : decode cX3_historySize 4 = .ok (.ireturn, 1) := by decide +kernel
theorem dX3_undo_0 : decode cX3_undo 0 = .ok (.aload_n 0, 1) := by decide +kernel
theorem dX3_undo_1 : decode cX3_undo 1 = .ok (.getfield 23, 3) := by decide +kernel
theorem dX3_undo_4 : decode cX3_undo 4 = .ok (.ifCond .ne 6, 3) := by decide +kernel
theorem dX3_undo_7 : decode cX3_undo 7 = .ok (.bipush (-2), 2) := by decide +kernel
theorem dX3_undo_9 : decode cX3_undo 9 = .ok (.ireturn, 1) := by decide +kernel
theorem dX3_undo_10 : decode cX3_undo 10 = .ok (.aload_n 0, 1) := by decide +kernel
theorem dX3_undo_11 : decode cX3_undo 11 = .ok (.dup, 1) := by decide +kernel
theorem dX3_undo_12 : decode cX3_undo 12 = .ok (.getfield 23, 3) := by decide +kernel
theorem dX3_undo_15 : decode cX3_undo 15 = .ok (.iconst 1, 1) := by decide +kernel
theorem dX3_undo_16 : decode cX3_undo 16 = .ok (.isub, 1) := by decide +kernel
theorem dX3_undo_17 : decode cX3_undo 17 = .ok (.putfield 23, 3) := by decide +kernel
theorem dX3_undo_20 : decode cX3_undo 20 = .ok (.iconst 0, 1) := by decide +kernel
theorem dX3_undo_21 : decode cX3_undo 21 = .ok (.istore_n 1, 1) := by decide +kernel
theorem dX3_undo_22 : decode cX3_undo 22 = .ok (.iload_n 1, 1) := by decide +kernel
theorem dX3_undo_23 : decode cX3_undo 23 = .ok (.bipush 12, 2) := by decide +kernel
theorem dX3_undo_25 : decode cX3_undo 25 = .ok (.if_icmp .ge 29, 3) := by decide +kernel
theorem dX3_undo_28 : decode cX3_undo 28 = .ok (.aload_n 0, 1) := by decide +kernel
theorem dX3_undo_29 : decode cX3_undo 29 = .ok (.getfield 7, 3) := by decide +kernel
theorem dX3_undo_32 : decode cX3_undo 32 = .ok (.iload_n 1, 1) := by decide +kernel
theorem dX3_undo_33 : decode cX3_undo 33 = .ok (.aload_n 0, 1) := by decide +kernel
theorem dX3_undo_34 : decode cX3_undo 34 = .ok (.getfield 13, 3) := by decide +kernel
theorem dX3_undo_37 : decode cX3_undo 37 = .ok (.bipush 12, 2) := by decide +kernel
theorem dX3_undo_39 : decode cX3_undo 39 = .ok (.aload_n 0, 1) := by decide +kernel
theorem dX3_undo_40 : decode cX3_undo 40 = .ok (.getfield 23, 3) := by decide +kernel
theorem dX3_undo_43 : decode cX3_undo 43 = .ok (.imul, 1) := by decide +kernel
theorem dX3_undo_44 : decode cX3_undo 44 = .ok (.iload_n 1, 1) := by decide +kernel
theorem dX3_undo_45 : decode cX3_undo 45 = .ok (.iadd, 1) := by decide +kernel
theorem dX3_undo_46 : decode cX3_undo 46 = .ok (.iaload, 1) := by decide +kernel
theorem dX3_undo_47 : decode cX3_undo 47 = .ok (.iastore, 1) := by decide +kernel
theorem dX3_undo_48 : decode cX3_undo 48 = .ok (.iinc 1 1, 3) := by decide +kernel
theorem dX3_undo_51 : decode cX3_undo 51 = .ok (.goto (-29), 3) := by decide +kernel
theorem dX3_undo_54 : decode cX3_undo 54 = .ok (.aload_n 0, 1) := by decide +kernel
theorem dX3_undo_55 : decode cX3_undo 55 = .ok (.getfield 23, 3) := by decide +kernel
theorem dX3_undo_58 : decode cX3_undo 58 = .ok (.ireturn, 1) := by decide +kernel
end
section
/-! exact contracts, and the rows of the kit over goals that name no heap -/
abbrev XT : Type := va_G × ClassId × ClassId × ClassId × ClassId
abbrev Ty (X : XT) : List (ClassId × FieldType) := [(X.2.1, .int), (X.2.2.1, .long), (X.2.2.2.1, .boolean), (X.2.2.2.2, .object RX1)]
def nestF : List (String × Nat × String × String × String × String) := [("PlateBeats", 208, "PlateBeats$State", "p", "[I", "PlateBeats"), ("PlateBeats", 211, "PlateBeats$State", "q", "[I", "PlateBeats"), ("PlateBeats", 41, "PlateBeats$State", "count", "I", "PlateBeats"), ("PlateBeats$Group", 53, "PlateBeats$State", "order", "I", "PlateBeats"), ("PlateBeats", 88, "PlateBeats$State", "order", "I", "PlateBeats"), ("PlateBeats$Group", 39, "PlateBeats$State", "fineLimit", "I", "PlateBeats"), ("PlateBeats", 91, "PlateBeats$State", "fineLimit", "I", "PlateBeats"), ("PlateBeats$Group", 42, "PlateBeats$State", "longLimit", "I", "PlateBeats"), ("PlateBeats", 94, "PlateBeats$State", "longLimit", "I", "PlateBeats")]
def nestM : List (String × Nat × MethodName × String) := [("PlateBeats", 9, ⟨"PlateBeats$State", "<init>", "()V"⟩, "PlateBeats"), ("PlateBeats", 32, ⟨"PlateBeats$Group", "<init>", "()V"⟩, "PlateBeats"), ("PlateBeats", 48, ⟨"PlateBeats$State", "append", "(II)V"⟩, "PlateBeats"), ("PlateBeats", 52, ⟨"PlateBeats$State", "has", "(I)Z"⟩, "PlateBeats"), ("PlateBeats", 56, ⟨"PlateBeats$State", "areaOf", "(I)I"⟩, "PlateBeats"), ("PlateBeats", 60, ⟨"PlateBeats$State", "put", "(III)V"⟩, "PlateBeats"), ("PlateBeats", 64, ⟨"PlateBeats$State", "drop", "(I)V"⟩, "PlateBeats"), ("PlateBeats", 68, ⟨"PlateBeats$State", "pOf", "(I)I"⟩, "PlateBeats"), ("PlateBeats", 71, ⟨"PlateBeats$State", "qOf", "(I)I"⟩, "PlateBeats"), ("PlateBeats", 120, ⟨"PlateBeats$State", "hasPair", "(II)Z"⟩, "PlateBeats"), ("PlateBeats", 147, ⟨"PlateBeats$State", "isFactorPair", "(II)Z"⟩, "PlateBeats"), ("PlateBeats", 103, ⟨"PlateBeats$Group", "startPair", "(LPlateBeats$State;II)V"⟩, "PlateBeats"), ("PlateBeats$Group", 25, ⟨"PlateBeats$State", "areaOf", "(I)I"⟩, "PlateBeats"), ("PlateBeats$Group", 45, ⟨"PlateBeats", "divided", "(JJ)J"⟩, "PlateBeats"), ("PlateBeats", 107, ⟨"PlateBeats$State", "pairNorm", "(IIIIII)I"⟩, "PlateBeats"), ("PlateBeats$State", 46, ⟨"PlateBeats", "realPart", "(IIII)I"⟩, "PlateBeats"), ("PlateBeats$State", 50, ⟨"PlateBeats", "imaginaryPart", "(IIII)I"⟩, "PlateBeats"), ("PlateBeats", 111, ⟨"PlateBeats$Group", "numerator", "(I)J"⟩, "PlateBeats"), ("PlateBeats$Group", 101, ⟨"PlateBeats", "gcd", "(JJ)J"⟩, "PlateBeats"), ("PlateBeats", 114, ⟨"PlateBeats$Group", "denominator", "(I)J"⟩, "PlateBeats"), ("PlateBeats", 117, ⟨"PlateBeats$Group", "kindOf", "(I)I"⟩, "PlateBeats"), ("PlateBeats", 123, ⟨"PlateBeats$Group", "fillPair", "(LPlateBeats$State;II)V"⟩, "PlateBeats"), ("PlateBeats$Group", 60, ⟨"PlateBeats$State", "pOf", "(I)I"⟩, "PlateBeats"), ("PlateBeats$Group", 63, ⟨"PlateBeats$State", "qOf", "(I)I"⟩, "PlateBeats"), ("PlateBeats$Group", 66, ⟨"PlateBeats", "realPart", "(IIII)I"⟩, "PlateBeats"), ("PlateBeats$Group", 70, ⟨"PlateBeats", "imaginaryPart", "(IIII)I"⟩, "PlateBeats"), ("PlateBeats", 126, ⟨"PlateBeats$Group", "sort", "()V"⟩, "PlateBeats"), ("PlateBeats", 129, ⟨"PlateBeats$Group", "differentNorms", "()I"⟩, "PlateBeats"), ("PlateBeats", 150, ⟨"PlateBeats$Group", "normAt", "(I)I"⟩, "PlateBeats"), ("PlateBeats", 137, ⟨"PlateBeats$Group", "combinationsWith", "(I)I"⟩, "PlateBeats"), ("PlateBeats", 140, ⟨"PlateBeats$Group", "period", "(I)I"⟩, "PlateBeats"), ("PlateBeats$Group", 104, ⟨"PlateBeats", "root", "(J)I"⟩, "PlateBeats"), ("PlateBeats", 153, ⟨"PlateBeats$Group", "bandCount", "()I"⟩, "PlateBeats"), ("PlateBeats", 156, ⟨"PlateBeats$Group", "fillTriple", "(LPlateBeats$State;III)V"⟩, "PlateBeats"), ("PlateBeats", 174, ⟨"PlateBeats$State", "hasAll", "(I)Z"⟩, "PlateBeats"), ("PlateBeats", 177, ⟨"PlateBeats$Group", "fillPlates", "(LPlateBeats$State;I)V"⟩, "PlateBeats"), ("PlateBeats", 181, ⟨"PlateBeats$Group", "worstPeriodFound", "()I"⟩, "PlateBeats")]
def NW (U : State) : Prop := (∀ q ∈ nestF, va_Nw (.fieldLinkNest q.1 q.2.1 q.2.2.1 q.2.2.2.1 q.2.2.2.2.1 q.2.2.2.2.2) U) ∧ ∀ q ∈ nestM, va_Nw (.methodLinkNest q.1 q.2.1 q.2.2.1 q.2.2.2) U
theorem NW.warm {s U : State} (hW : s.WarmedH U.vm) (h : NW s) : NW U := ⟨fun q hq => va_Nw.warmF hW (h.1 q hq), fun q hq => va_Nw.warmM hW (h.2 q hq)⟩
theorem NW.same {s U : State} (hv : s.vm = U.vm) (h : NW s) : NW U := ⟨fun q hq => va_Nw.same rfl hv (h.1 q hq), fun q hq => va_Nw.same rfl hv (h.2 q hq)⟩
def gN (k : Nat) : Int32 := ([3, 5, 9, 6, 10, 12, 7, 11, 13, 14] : List Int32).getD k 0
def GS (A : Nat → Prop) (U : State) : Prop := ∃ tG : Nat, va_Z "PlateBeats" "GROUPS" "[I" (.ref tG) A U U.heap ∧ va_T .int tG 10 (fun k => .int (gN k)) A U U.heap
theorem GS.calling {A : Nat → Prop} {U : State} {g : JFrame} {mk : MethodId} {a : Array Value} (h : GS A U) : GS A (U.calling g mk a) := by
  obtain ⟨tG, h1, h2⟩ := h
  exact ⟨tG, va_Z.moved (u := U) (U := U.calling g mk a) (Vm.Alike.refl U.vm) h1, va_T.moved (u := U) (U := U.calling g mk a) (Vm.Alike.refl U.vm) h2⟩
theorem GS.to {A B : Nat → Prop} {s U : State} {H : Heap} {locs : List Loc} (h : GS A s) (hS : va_S A s.heap H locs) (hU : U.heap = H) (hW : s.WarmedH U.vm) (hAB : ∀ q, B q → A q) : GS B U := by
  obtain ⟨tG, h1, h2⟩ := h
  refine ⟨tG, ?_, ?_⟩
  · rw [hU]; exact va_Z.moved hW.alike ((h1.kept hS.2.1).narrow hAB)
  · rw [hU]; exact va_T.moved hW.alike ((h2.kept hS.2.1).narrow hAB)
def PcX (X : XT) (av : List Value) (ws : va_W) (sz : Nat) : Array Value → State → Prop := va_Pc av (fun U => U.heap.size = sz ∧ va_P X.1 vwCl ws U.heap ∧ va_K X.1 vwCl (Ty X) U ∧ va_D (fun _ => True) ws ∧ NW U ∧ GS (va_A ws sz) U)
theorem PcX.blind {X : XT} {av : List Value} {ws : va_W} {sz : Nat} : FrameBlind (PcX X av ws sz) := by
  intro a U g mk q
  obtain ⟨q0, q1, q2, q3, q4, q5, q6⟩ := q
  exact ⟨q0, q1, q2, va_K.moved (u := U) (U := U.calling g mk a) (Vm.Alike.refl U.vm) q3, q4, NW.same (s := U) (U := U.calling g mk a) rfl q5, GS.calling q6⟩
def BX (X : XT) (ws' : va_W) (A : Nat → Prop) : Unit → State → Prop := fun _ t => va_P X.1 vwCl ws' t.heap ∧ va_D A ws'
abbrev QI (X : XT) (ws' : va_W) (A : Nat → Prop) (r : Int32) : Array Value → State → Outcome → State → Prop := va_Qi (fun (r' : Int32) (_ : Unit) => r' = r) (BX X ws' A) A
abbrev QL (X : XT) (ws' : va_W) (A : Nat → Prop) (r : Int64) : Array Value → State → Outcome → State → Prop := va_Ql (fun (r' : Int64) (_ : Unit) => r' = r) (BX X ws' A) A
abbrev QV (X : XT) (ws' : va_W) (A : Nat → Prop) : Array Value → State → Outcome → State → Prop := va_Qv (fun (_ : Unit) => True) (BX X ws' A) A
/-- the method with these values and these cells answers just r, and then the cells are ws' -/
def KI (l : Launch) (y : MethodName) (wy : List Cond) (rm : Room) (X : XT) (av : List Value) (ws ws' : va_W) (r : Int32) : Prop := ∀ sz : Nat, Met l y wy rm (PcX X av ws sz) (QI X ws' (va_A ws sz) r) 0 0 (va_A ws sz)
def KL (l : Launch) (y : MethodName) (wy : List Cond) (rm : Room) (X : XT) (av : List Value) (ws ws' : va_W) (r : Int64) : Prop := ∀ sz : Nat, Met l y wy rm (PcX X av ws sz) (QL X ws' (va_A ws sz) r) 0 0 (va_A ws sz)
def KV (l : Launch) (y : MethodName) (wy : List Cond) (rm : Room) (X : XT) (av : List Value) (ws ws' : va_W) : Prop := ∀ sz : Nat, Met l y wy rm (PcX X av ws sz) (QV X ws' (va_A ws sz)) 0 0 (va_A ws sz)
abbrev LT : Type := List (Nat × Value)
abbrev GT : Type := va_W → Nat → LT → List Value → Prop
def Gd (p : Program) (l : Launch) (e : Env) (R : Room) (s : State) (m : MethodId) (args : Array Value) (below : List Frame) (meth : Method) (c : Code) (nL : Nat) (X : XT) (A : Nat → Prop) (cells slots : Nat) (Q : State → Prop) : GT := fun ws pc ls st => ∀ (H : Heap) (locs : List Loc) (la : Array Slot), va_P X.1 vwCl ws H → va_D A ws → va_S A s.heap H locs → lv_has la nL ls → W p l e R s m args below meth c H locs cells slots Q (F0 m pc la st)
/-- what stands fast while one method is walked; g: 'from these cells, here, with these locals and this stack, the method comes to its end' -/
def Cx (p : Program) (l : Launch) (e : Env) (R : Room) (s : State) (m : MethodId) (args : Array Value) (below : List Frame) (meth : Method) (c : Code) (cc : ByteArray) (nL : Nat) (own : String) (Ts : List Cond) (X : XT) (A : Nat → Prop) (cells slots : Nat) (Q : State → Prop) (g : GT) : Prop :=
  g = Gd p l e R s m args below meth c nL X A cells slots Q ∧ p.tables.exec = Jvm.exec ∧ c.code = cc ∧ c.maxLocals = nL ∧ s.vm.findClass own = some m.cls ∧ (∀ w ∈ Ts, w.before args s = true) ∧ va_K X.1 vwCl (Ty X) s ∧ (∀ q : Nat, s.heap.size ≤ q → A q) ∧ NW s ∧ GS A s
section KIT
variable {p : Program} {l : Launch} {e : Env} {R : Room} {s : State} {m : MethodId} {args : Array Value} {below : List Frame} {meth : Method} {c : Code} {cc : ByteArray} {nL : Nat} {own : String} {Ts : List Cond} {X : XT} {A : Nat → Prop} {cells slots : Nat} {Q : State → Prop} {g : GT} {ws ws' : va_W} {pc : Nat} {ls ls' : LT} {st : List Value}
theorem Cx.go (C : Cx p l e R s m args below meth c cc nL own Ts X A cells slots Q g) (h : Gd p l e R s m args below meth c nL X A cells slots Q ws pc ls st) : g ws pc ls st := by rw [C.1]; exact h
theorem Cx.un (C : Cx p l e R s m args below meth c cc nL own Ts X A cells slots Q g) (h : g ws pc ls st) : Gd p l e R s m args below meth c nL X A cells slots Q ws pc ls st := by rw [← C.1]; exact h
theorem Cx.x (C : Cx p l e R s m args below meth c cc nL own Ts X A cells slots Q g) : p.tables.exec = Jvm.exec := C.2.1
theorem Cx.b (C : Cx p l e R s m args below meth c cc nL own Ts X A cells slots Q g) : c.code = cc := C.2.2.1
theorem Cx.ml (C : Cx p l e R s m args below meth c cc nL own Ts X A cells slots Q g) : c.maxLocals = nL := C.2.2.2.1
theorem Cx.ow (C : Cx p l e R s m args below meth c cc nL own Ts X A cells slots Q g) : s.vm.findClass own = some m.cls := C.2.2.2.2.1
theorem Cx.ts (C : Cx p l e R s m args below meth c cc nL own Ts X A cells slots Q g) : ∀ w ∈ Ts, w.before args s = true := C.2.2.2.2.2.1
theorem Cx.K (C : Cx p l e R s m args below meth c cc nL own Ts X A cells slots Q g) : va_K X.1 vwCl (Ty X) s := C.2.2.2.2.2.2.1
theorem Cx.hA (C : Cx p l e R s m args below meth c cc nL own Ts X A cells slots Q g) : ∀ q : Nat, s.heap.size ≤ q → A q := C.2.2.2.2.2.2.2.1
theorem Cx.N (C : Cx p l e R s m args below meth c cc nL own Ts X A cells slots Q g) : NW s := C.2.2.2.2.2.2.2.2.1
theorem Cx.S (C : Cx p l e R s m args below meth c cc nL own Ts X A cells slots Q g) : GS A s := C.2.2.2.2.2.2.2.2.2
theorem Cx.nf (C : Cx p l e R s m args below meth c cc nL own Ts X A cells slots Q g) (i : Nat) {q : String × Nat × String × String × String × String} (h : nestF[i]? = some q) : (Cond.fieldLinkNest q.1 q.2.1 q.2.2.1 q.2.2.2.1 q.2.2.2.2.1 q.2.2.2.2.2).before args s = true := va_Nw.use rfl (C.N.1 q (List.mem_of_getElem? h))
theorem Cx.nm (C : Cx p l e R s m args below meth c cc nL own Ts X A cells slots Q g) (i : Nat) {q : String × Nat × MethodName × String} (h : nestM[i]? = some q) : va_Nw (.methodLinkNest q.1 q.2.1 q.2.2.1 q.2.2.2) s := C.N.2 q (List.mem_of_getElem? h)
theorem fm_of {α β : Type} {f : α → Option β} : ∀ {is : List α} {ws : List β}, is.map f = ws.map some → is.filterMap f = ws
  | [], [], _ => rfl
  | [], _ :: _, h => by simp at h
  | _ :: _, [], h => by simp at h
  | i :: is, w :: ws, h => by
    simp only [List.map_cons, List.cons.injEq] at h
    simp [List.filterMap_cons, h.1, fm_of h.2]
theorem s_iconst (C : Cx p l e R s m args below meth c cc nL own Ts X A cells slots Q g) {n : Int} {v : Int32} (hd : decode cc pc = .ok (.iconst n, 1)) (hv : Int32.ofInt n = v) (k : g ws (pc + 1) ls (.int v :: st)) : g ws pc ls (st) := C.go fun H locs la hP hD hS hl => lv_iconst C.x C.b hd hv (C.un k H locs la hP hD hS hl)
theorem s_bipush (C : Cx p l e R s m args below meth c cc nL own Ts X A cells slots Q g) {n : Int} {v : Int32} (hd : decode cc pc = .ok (.bipush n, 2)) (hv : (Int8.ofInt n).toInt32 = v) (k : g ws (pc + 2) ls (.int v :: st)) : g ws pc ls (st) := C.go fun H locs la hP hD hS hl => lv_bipush C.x C.b hd hv (C.un k H locs la hP hD hS hl)
theorem s_sipush (C : Cx p l e R s m args below meth c cc nL own Ts X A cells slots Q g) {n : Int} {v : Int32} (hd : decode cc pc = .ok (.sipush n, 3)) (hv : (Int16.ofInt n).toInt32 = v) (k : g ws (pc + 3) ls (.int v :: st)) : g ws pc ls (st) := C.go fun H locs la hP hD hS hl => lv_sipush C.x C.b hd hv (C.un k H locs la hP hD hS hl)
theorem s_lconst (C : Cx p l e R s m args below meth c cc nL own Ts X A cells slots Q g) {n : Fin 2} {v : Int64} (hd : decode cc pc = .ok (.lconst n, 1)) (hv : Int64.ofNat (n : Nat) = v) (k : g ws (pc + 1) ls (.long v :: st)) : g ws pc ls (st) := C.go fun H locs la hP hD hS hl => lv_lconst C.x C.b hd hv (C.un k H locs la hP hD hS hl)
theorem s_iload_n (C : Cx p l e R s m args below meth c cc nL own Ts X A cells slots Q g) {kk : Fin 4} {i : Nat} {x : Int32} (hd : decode cc pc = .ok (.iload_n kk, 1)) (hi : (kk : Nat) = i) (j : Nat) (hk : ls[j]? = some (i, .int x)) (k : g ws (pc + 1) ls (.int x :: st)) : g ws pc ls (st) := C.go fun H locs la hP hD hS hl => lv_iload_n C.x C.b hd hi (lv_at hl j hk) (C.un k H locs la hP hD hS hl)
theorem s_iload (C : Cx p l e R s m args below meth c cc nL own Ts X A cells slots Q g) {i : Nat} {x : Int32} (hd : decode cc pc = .ok (.iload i, 2)) (j : Nat) (hk : ls[j]? = some (i, .int x)) (k : g ws (pc + 2) ls (.int x :: st)) : g ws pc ls (st) := C.go fun H locs la hP hD hS hl => lv_iload C.x C.b hd (lv_at hl j hk) (C.un k H locs la hP hD hS hl)
theorem s_lload_n (C : Cx p l e R s m args below meth c cc nL own Ts X A cells slots Q g) {kk : Fin 4} {i : Nat} {x : Int64} (hd : decode cc pc = .ok (.lload_n kk, 1)) (hi : (kk : Nat) = i) (j : Nat) (hk : ls[j]? = some (i, .long x)) (k : g ws (pc + 1) ls (.long x :: st)) : g ws pc ls (st) := C.go fun H locs la hP hD hS hl => lv_lload_n C.x C.b hd hi (lv_at hl j hk) (C.un k H locs la hP hD hS hl)
theorem s_lload (C : Cx p l e R s m args below meth c cc nL own Ts X A cells slots Q g) {i : Nat} {x : Int64} (hd : decode cc pc = .ok (.lload i, 2)) (j : Nat) (hk : ls[j]? = some (i, .long x)) (k : g ws (pc + 2) ls (.long x :: st)) : g ws pc ls (st) := C.go fun H locs la hP hD hS hl => lv_lload C.x C.b hd (lv_at hl j hk) (C.un k H locs la hP hD hS hl)
theorem s_aload_n (C : Cx p l e R s m args below meth c cc nL own Ts X A cells slots Q g) {kk : Fin 4} {i : Nat} {x : Nat} (hd : decode cc pc = .ok (.aload_n kk, 1)) (hi : (kk : Nat) = i) (j : Nat) (hk : ls[j]? = some (i, .ref x)) (k : g ws (pc + 1) ls (.ref x :: st)) : g ws pc ls (st) := C.go fun H locs la hP hD hS hl => lv_aload_n C.x C.b hd hi (lv_at hl j hk) (C.un k H locs la hP hD hS hl)
theorem s_aload (C : Cx p l e R s m args below meth c cc nL own Ts X A cells slots Q g) {i : Nat} {x : Nat} (hd : decode cc pc = .ok (.aload i, 2)) (j : Nat) (hk : ls[j]? = some (i, .ref x)) (k : g ws (pc + 2) ls (.ref x :: st)) : g ws pc ls (st) := C.go fun H locs la hP hD hS hl => lv_aload C.x C.b hd (lv_at hl j hk) (C.un k H locs la hP hD hS hl)
theorem s_istore_n (C : Cx p l e R s m args below meth c cc nL own Ts X A cells slots Q g) {kk : Fin 4} {i : Nat} {x : Int32} (hd : decode cc pc = .ok (.istore_n kk, 1)) (hi : (kk : Nat) = i) (hn : i < nL) (hl2 : (i, Value.int x) :: ls.filter (fun q => !(q.1 == i) && !(q.1 + 1 == i && q.2.category == 2)) = ls') (k : g ws (pc + 1) ls' st) : g ws pc ls (Value.int x :: st) := C.go fun H locs la hP hD hS hl => lv_istore_n C.x C.b hd hi hl hn hl2 (fun la2 hl3 => C.un k H locs la2 hP hD hS hl3)
theorem s_istore (C : Cx p l e R s m args below meth c cc nL own Ts X A cells slots Q g) {i : Nat} {x : Int32} (hd : decode cc pc = .ok (.istore i, 2)) (hn : i < nL) (hl2 : (i, Value.int x) :: ls.filter (fun q => !(q.1 == i) && !(q.1 + 1 == i && q.2.category == 2)) = ls') (k : g ws (pc + 2) ls' st) : g ws pc ls (Value.int x :: st) := C.go fun H locs la hP hD hS hl => lv_istore C.x C.b hd hl hn hl2 (fun la2 hl3 => C.un k H locs la2 hP hD hS hl3)
theorem s_lstore_n (C : Cx p l e R s m args below meth c cc nL own Ts X A cells slots Q g) {kk : Fin 4} {i : Nat} {x : Int64} (hd : decode cc pc = .ok (.lstore_n kk, 1)) (hi : (kk : Nat) = i) (hn : i + 1 < nL) (hl2 : (i, Value.long x) :: ls.filter (fun q => !(q.1 == i) && (!(q.1 == i + 1) && !(q.1 + 1 == i && q.2.category == 2))) = ls') (k : g ws (pc + 1) ls' st) : g ws pc ls (Value.long x :: st) := C.go fun H locs la hP hD hS hl => lv_lstore_n C.x C.b hd hi hl hn hl2 (fun la2 hl3 => C.un k H locs la2 hP hD hS hl3)
theorem s_lstore (C : Cx p l e R s m args below meth c cc nL own Ts X A cells slots Q g) {i : Nat} {x : Int64} (hd : decode cc pc = .ok (.lstore i, 2)) (hn : i + 1 < nL) (hl2 : (i, Value.long x) :: ls.filter (fun q => !(q.1 == i) && (!(q.1 == i + 1) && !(q.1 + 1 == i && q.2.category == 2))) = ls') (k : g ws (pc + 2) ls' st) : g ws pc ls (Value.long x :: st) := C.go fun H locs la hP hD hS hl => lv_lstore C.x C.b hd hl hn hl2 (fun la2 hl3 => C.un k H locs la2 hP hD hS hl3)
theorem s_astore_n (C : Cx p l e R s m args below meth c cc nL own Ts X A cells slots Q g) {kk : Fin 4} {i : Nat} {x : Nat} (hd : decode cc pc = .ok (.astore_n kk, 1)) (hi : (kk : Nat) = i) (hn : i < nL) (hl2 : (i, Value.ref x) :: ls.filter (fun q => !(q.1 == i) && !(q.1 + 1 == i && q.2.category == 2)) = ls') (k : g ws (pc + 1) ls' st) : g ws pc ls (Value.ref x :: st) := C.go fun H locs la hP hD hS hl => lv_astore_n C.x C.b hd hi hl hn hl2 (fun la2 hl3 => C.un k H locs la2 hP hD hS hl3)
theorem s_astore (C : Cx p l e R s m args below meth c cc nL own Ts X A cells slots Q g) {i : Nat} {x : Nat} (hd : decode cc pc = .ok (.astore i, 2)) (hn : i < nL) (hl2 : (i, Value.ref x) :: ls.filter (fun q => !(q.1 == i) && !(q.1 + 1 == i && q.2.category == 2)) = ls') (k : g ws (pc + 2) ls' st) : g ws pc ls (Value.ref x :: st) := C.go fun H locs la hP hD hS hl => lv_astore C.x C.b hd hl hn hl2 (fun la2 hl3 => C.un k H locs la2 hP hD hS hl3)
theorem s_iinc (C : Cx p l e R s m args below meth c cc nL own Ts X A cells slots Q g) {i : Nat} {n : Int} {x v : Int32} (hd : decode cc pc = .ok (.iinc i n, 3)) (j : Nat) (hk : ls[j]? = some (i, .int x)) (hv : x + Int32.ofInt n = v) (hn : i < nL) (hl2 : (i, Value.int v) :: ls.filter (fun q => !(q.1 == i) && !(q.1 + 1 == i && q.2.category == 2)) = ls') (k : g ws (pc + 3) ls' st) : g ws pc ls st := C.go fun H locs la hP hD hS hl => lv_iinc C.x C.b hd hl hk hv hn hl2 (fun la2 hl3 => C.un k H locs la2 hP hD hS hl3)
theorem s_iadd (C : Cx p l e R s m args below meth c cc nL own Ts X A cells slots Q g) {x y : Int32} (hd : decode cc pc = .ok (.iadd, 1))  (k : g ws (pc + 1) ls (.int (x + y) :: st)) : g ws pc ls (.int y :: .int x :: st) := C.go fun H locs la hP hD hS hl => lv_iadd C.x C.b hd  (C.un k H locs la hP hD hS hl)
theorem s_isub (C : Cx p l e R s m args below meth c cc nL own Ts X A cells slots Q g) {x y : Int32} (hd : decode cc pc = .ok (.isub, 1))  (k : g ws (pc + 1) ls (.int (x - y) :: st)) : g ws pc ls (.int y :: .int x :: st) := C.go fun H locs la hP hD hS hl => lv_isub C.x C.b hd  (C.un k H locs la hP hD hS hl)
theorem s_imul (C : Cx p l e R s m args below meth c cc nL own Ts X A cells slots Q g) {x y : Int32} (hd : decode cc pc = .ok (.imul, 1))  (k : g ws (pc + 1) ls (.int (x * y) :: st)) : g ws pc ls (.int y :: .int x :: st) := C.go fun H locs la hP hD hS hl => lv_imul C.x C.b hd  (C.un k H locs la hP hD hS hl)
theorem s_ior (C : Cx p l e R s m args below meth c cc nL own Ts X A cells slots Q g) {x y : Int32} (hd : decode cc pc = .ok (.ior, 1))  (k : g ws (pc + 1) ls (.int (x ||| y) :: st)) : g ws pc ls (.int y :: .int x :: st) := C.go fun H locs la hP hD hS hl => lv_ior C.x C.b hd  (C.un k H locs la hP hD hS hl)
theorem s_iand (C : Cx p l e R s m args below meth c cc nL own Ts X A cells slots Q g) {x y : Int32} (hd : decode cc pc = .ok (.iand, 1))  (k : g ws (pc + 1) ls (.int (x &&& y) :: st)) : g ws pc ls (.int y :: .int x :: st) := C.go fun H locs la hP hD hS hl => lv_iand C.x C.b hd  (C.un k H locs la hP hD hS hl)
theorem s_ixor (C : Cx p l e R s m args below meth c cc nL own Ts X A cells slots Q g) {x y : Int32} (hd : decode cc pc = .ok (.ixor, 1))  (k : g ws (pc + 1) ls (.int (x ^^^ y) :: st)) : g ws pc ls (.int y :: .int x :: st) := C.go fun H locs la hP hD hS hl => lv_ixor C.x C.b hd  (C.un k H locs la hP hD hS hl)
theorem s_idiv (C : Cx p l e R s m args below meth c cc nL own Ts X A cells slots Q g) {x y : Int32} (hd : decode cc pc = .ok (.idiv, 1)) (hne : ¬ y = 0) (k : g ws (pc + 1) ls (.int (x / y) :: st)) : g ws pc ls (.int y :: .int x :: st) := C.go fun H locs la hP hD hS hl => lv_idiv C.x C.b hd hne (C.un k H locs la hP hD hS hl)
theorem s_irem (C : Cx p l e R s m args below meth c cc nL own Ts X A cells slots Q g) {x y : Int32} (hd : decode cc pc = .ok (.irem, 1)) (hne : ¬ y = 0) (k : g ws (pc + 1) ls (.int (x - x / y * y) :: st)) : g ws pc ls (.int y :: .int x :: st) := C.go fun H locs la hP hD hS hl => lv_irem C.x C.b hd hne (C.un k H locs la hP hD hS hl)
theorem s_ineg (C : Cx p l e R s m args below meth c cc nL own Ts X A cells slots Q g) {x : Int32} (hd : decode cc pc = .ok (.ineg, 1))  (k : g ws (pc + 1) ls (.int (-x) :: st)) : g ws pc ls (.int x :: st) := C.go fun H locs la hP hD hS hl => lv_ineg C.x C.b hd  (C.un k H locs la hP hD hS hl)
theorem s_ladd (C : Cx p l e R s m args below meth c cc nL own Ts X A cells slots Q g) {x y : Int64} (hd : decode cc pc = .ok (.ladd, 1))  (k : g ws (pc + 1) ls (.long (x + y) :: st)) : g ws pc ls (.long y :: .long x :: st) := C.go fun H locs la hP hD hS hl => lv_ladd C.x C.b hd  (C.un k H locs la hP hD hS hl)
theorem s_lsub (C : Cx p l e R s m args below meth c cc nL own Ts X A cells slots Q g) {x y : Int64} (hd : decode cc pc = .ok (.lsub, 1))  (k : g ws (pc + 1) ls (.long (x - y) :: st)) : g ws pc ls (.long y :: .long x :: st) := C.go fun H locs la hP hD hS hl => lv_lsub C.x C.b hd  (C.un k H locs la hP hD hS hl)
theorem s_lmul (C : Cx p l e R s m args below meth c cc nL own Ts X A cells slots Q g) {x y : Int64} (hd : decode cc pc = .ok (.lmul, 1))  (k : g ws (pc + 1) ls (.long (x * y) :: st)) : g ws pc ls (.long y :: .long x :: st) := C.go fun H locs la hP hD hS hl => lv_lmul C.x C.b hd  (C.un k H locs la hP hD hS hl)
theorem s_ldiv (C : Cx p l e R s m args below meth c cc nL own Ts X A cells slots Q g) {x y : Int64} (hd : decode cc pc = .ok (.ldiv, 1)) (hne : ¬ y = 0) (k : g ws (pc + 1) ls (.long (x / y) :: st)) : g ws pc ls (.long y :: .long x :: st) := C.go fun H locs la hP hD hS hl => lv_ldiv C.x C.b hd hne (C.un k H locs la hP hD hS hl)
theorem s_lrem (C : Cx p l e R s m args below meth c cc nL own Ts X A cells slots Q g) {x y : Int64} (hd : decode cc pc = .ok (.lrem, 1)) (hne : ¬ y = 0) (k : g ws (pc + 1) ls (.long (x - x / y * y) :: st)) : g ws pc ls (.long y :: .long x :: st) := C.go fun H locs la hP hD hS hl => lv_lrem C.x C.b hd hne (C.un k H locs la hP hD hS hl)
theorem s_ishl (C : Cx p l e R s m args below meth c cc nL own Ts X A cells slots Q g) {x y : Int32} (hd : decode cc pc = .ok (.ishl, 1))  (k : g ws (pc + 1) ls (.int (x <<< (y &&& 31)) :: st)) : g ws pc ls (.int y :: .int x :: st) := C.go fun H locs la hP hD hS hl => lv_ishl C.x C.b hd  (C.un k H locs la hP hD hS hl)
theorem s_ishr (C : Cx p l e R s m args below meth c cc nL own Ts X A cells slots Q g) {x y : Int32} (hd : decode cc pc = .ok (.ishr, 1))  (k : g ws (pc + 1) ls (.int (x >>> (y &&& 31)) :: st)) : g ws pc ls (.int y :: .int x :: st) := C.go fun H locs la hP hD hS hl => lv_ishr C.x C.b hd  (C.un k H locs la hP hD hS hl)
theorem s_i2l (C : Cx p l e R s m args below meth c cc nL own Ts X A cells slots Q g) {x : Int32} (hd : decode cc pc = .ok (.i2l, 1))  (k : g ws (pc + 1) ls (.long x.toInt64 :: st)) : g ws pc ls (.int x :: st) := C.go fun H locs la hP hD hS hl => lv_i2l C.x C.b hd rfl (C.un k H locs la hP hD hS hl)
theorem s_l2i (C : Cx p l e R s m args below meth c cc nL own Ts X A cells slots Q g) {x : Int64} (hd : decode cc pc = .ok (.l2i, 1))  (k : g ws (pc + 1) ls (.int x.toInt32 :: st)) : g ws pc ls (.long x :: st) := C.go fun H locs la hP hD hS hl => lv_l2i C.x C.b hd rfl (C.un k H locs la hP hD hS hl)
theorem s_dup (C : Cx p l e R s m args below meth c cc nL own Ts X A cells slots Q g) {va : Value} (hd : decode cc pc = .ok (.dup, 1)) (hva : va.category = 1) (k : g ws (pc + 1) ls (va :: va :: st)) : g ws pc ls (va :: st) := C.go fun H locs la hP hD hS hl => lv_dup C.x C.b hd hva (C.un k H locs la hP hD hS hl)
theorem s_dup2 (C : Cx p l e R s m args below meth c cc nL own Ts X A cells slots Q g) {va vb : Value} (hd : decode cc pc = .ok (.dup2, 1)) (hva : va.category = 1) (hvb : vb.category = 1) (k : g ws (pc + 1) ls (va :: vb :: va :: vb :: st)) : g ws pc ls (va :: vb :: st) := C.go fun H locs la hP hD hS hl => lv_dup2_11 C.x C.b hd hva hvb (C.un k H locs la hP hD hS hl)
theorem s_goto (C : Cx p l e R s m args below meth c cc nL own Ts X A cells slots Q g) {off : Int} {tgt : Nat} (hd : decode cc pc = .ok (.goto off, 3)) (ht : (pc : Int) + off = (tgt : Int)) (k : g ws tgt ls st) : g ws pc ls st := C.go fun H locs la hP hD hS hl => lv_goto C.x C.b hd ht (C.un k H locs la hP hD hS hl)
theorem s_if_eq (C : Cx p l e R s m args below meth c cc nL own Ts X A cells slots Q g) {x : Int32} {off : Int} {tgt : Nat} (hd : decode cc pc = .ok (.ifCond .eq off, 3)) (ht : (pc : Int) + off = (tgt : Int)) (kt : x = 0 → g ws tgt ls st) (kf : ¬ x = 0 → g ws (pc + 3) ls st) : g ws pc ls (.int x :: st) := C.go fun H locs la hP hD hS hl => lv_if_eq C.x C.b hd ht (fun h => C.un (kt h) H locs la hP hD hS hl) (fun h => C.un (kf h) H locs la hP hD hS hl)
theorem s_icmp_eq (C : Cx p l e R s m args below meth c cc nL own Ts X A cells slots Q g) {x y : Int32} {off : Int} {tgt : Nat} (hd : decode cc pc = .ok (.if_icmp .eq off, 3)) (ht : (pc : Int) + off = (tgt : Int)) (kt : x = y → g ws tgt ls st) (kf : ¬ x = y → g ws (pc + 3) ls st) : g ws pc ls (.int y :: .int x :: st) := C.go fun H locs la hP hD hS hl => lv_icmp_eq C.x C.b hd ht (fun h => C.un (kt h) H locs la hP hD hS hl) (fun h => C.un (kf h) H locs la hP hD hS hl)
theorem s_if_ne (C : Cx p l e R s m args below meth c cc nL own Ts X A cells slots Q g) {x : Int32} {off : Int} {tgt : Nat} (hd : decode cc pc = .ok (.ifCond .ne off, 3)) (ht : (pc : Int) + off = (tgt : Int)) (kt : ¬ x = 0 → g ws tgt ls st) (kf : x = 0 → g ws (pc + 3) ls st) : g ws pc ls (.int x :: st) := C.go fun H locs la hP hD hS hl => lv_if_ne C.x C.b hd ht (fun h => C.un (kt h) H locs la hP hD hS hl) (fun h => C.un (kf h) H locs la hP hD hS hl)
theorem s_icmp_ne (C : Cx p l e R s m args below meth c cc nL own Ts X A cells slots Q g) {x y : Int32} {off : Int} {tgt : Nat} (hd : decode cc pc = .ok (.if_icmp .ne off, 3)) (ht : (pc : Int) + off = (tgt : Int)) (kt : ¬ x = y → g ws tgt ls st) (kf : x = y → g ws (pc + 3) ls st) : g ws pc ls (.int y :: .int x :: st) := C.go fun H locs la hP hD hS hl => lv_icmp_ne C.x C.b hd ht (fun h => C.un (kt h) H locs la hP hD hS hl) (fun h => C.un (kf h) H locs la hP hD hS hl)
theorem s_if_lt (C : Cx p l e R s m args below meth c cc nL own Ts X A cells slots Q g) {x : Int32} {off : Int} {tgt : Nat} (hd : decode cc pc = .ok (.ifCond .lt off, 3)) (ht : (pc : Int) + off = (tgt : Int)) (kt : x < 0 → g ws tgt ls st) (kf : ¬ x < 0 → g ws (pc + 3) ls st) : g ws pc ls (.int x :: st) := C.go fun H locs la hP hD hS hl => lv_if_lt C.x C.b hd ht (fun h => C.un (kt h) H locs la hP hD hS hl) (fun h => C.un (kf h) H locs la hP hD hS hl)
theorem s_icmp_lt (C : Cx p l e R s m args below meth c cc nL own Ts X A cells slots Q g) {x y : Int32} {off : Int} {tgt : Nat} (hd : decode cc pc = .ok (.if_icmp .lt off, 3)) (ht : (pc : Int) + off = (tgt : Int)) (kt : x < y → g ws tgt ls st) (kf : ¬ x < y → g ws (pc + 3) ls st) : g ws pc ls (.int y :: .int x :: st) := C.go fun H locs la hP hD hS hl => lv_icmp_lt C.x C.b hd ht (fun h => C.un (kt h) H locs la hP hD hS hl) (fun h => C.un (kf h) H locs la hP hD hS hl)
theorem s_if_ge (C : Cx p l e R s m args below meth c cc nL own Ts X A cells slots Q g) {x : Int32} {off : Int} {tgt : Nat} (hd : decode cc pc = .ok (.ifCond .ge off, 3)) (ht : (pc : Int) + off = (tgt : Int)) (kt : 0 ≤ x → g ws tgt ls st) (kf : ¬ 0 ≤ x → g ws (pc + 3) ls st) : g ws pc ls (.int x :: st) := C.go fun H locs la hP hD hS hl => lv_if_ge C.x C.b hd ht (fun h => C.un (kt h) H locs la hP hD hS hl) (fun h => C.un (kf h) H locs la hP hD hS hl)
theorem s_icmp_ge (C : Cx p l e R s m args below meth c cc nL own Ts X A cells slots Q g) {x y : Int32} {off : Int} {tgt : Nat} (hd : decode cc pc = .ok (.if_icmp .ge off, 3)) (ht : (pc : Int) + off = (tgt : Int)) (kt : y ≤ x → g ws tgt ls st) (kf : ¬ y ≤ x → g ws (pc + 3) ls st) : g ws pc ls (.int y :: .int x :: st) := C.go fun H locs la hP hD hS hl => lv_icmp_ge C.x C.b hd ht (fun h => C.un (kt h) H locs la hP hD hS hl) (fun h => C.un (kf h) H locs la hP hD hS hl)
theorem s_if_gt (C : Cx p l e R s m args below meth c cc nL own Ts X A cells slots Q g) {x : Int32} {off : Int} {tgt : Nat} (hd : decode cc pc = .ok (.ifCond .gt off, 3)) (ht : (pc : Int) + off = (tgt : Int)) (kt : 0 < x → g ws tgt ls st) (kf : ¬ 0 < x → g ws (pc + 3) ls st) : g ws pc ls (.int x :: st) := C.go fun H locs la hP hD hS hl => lv_if_gt C.x C.b hd ht (fun h => C.un (kt h) H locs la hP hD hS hl) (fun h => C.un (kf h) H locs la hP hD hS hl)
theorem s_icmp_gt (C : Cx p l e R s m args below meth c cc nL own Ts X A cells slots Q g) {x y : Int32} {off : Int} {tgt : Nat} (hd : decode cc pc = .ok (.if_icmp .gt off, 3)) (ht : (pc : Int) + off = (tgt : Int)) (kt : y < x → g ws tgt ls st) (kf : ¬ y < x → g ws (pc + 3) ls st) : g ws pc ls (.int y :: .int x :: st) := C.go fun H locs la hP hD hS hl => lv_icmp_gt C.x C.b hd ht (fun h => C.un (kt h) H locs la hP hD hS hl) (fun h => C.un (kf h) H locs la hP hD hS hl)
theorem s_if_le (C : Cx p l e R s m args below meth c cc nL own Ts X A cells slots Q g) {x : Int32} {off : Int} {tgt : Nat} (hd : decode cc pc = .ok (.ifCond .le off, 3)) (ht : (pc : Int) + off = (tgt : Int)) (kt : x ≤ 0 → g ws tgt ls st) (kf : ¬ x ≤ 0 → g ws (pc + 3) ls st) : g ws pc ls (.int x :: st) := C.go fun H locs la hP hD hS hl => lv_if_le C.x C.b hd ht (fun h => C.un (kt h) H locs la hP hD hS hl) (fun h => C.un (kf h) H locs la hP hD hS hl)
theorem s_icmp_le (C : Cx p l e R s m args below meth c cc nL own Ts X A cells slots Q g) {x y : Int32} {off : Int} {tgt : Nat} (hd : decode cc pc = .ok (.if_icmp .le off, 3)) (ht : (pc : Int) + off = (tgt : Int)) (kt : x ≤ y → g ws tgt ls st) (kf : ¬ x ≤ y → g ws (pc + 3) ls st) : g ws pc ls (.int y :: .int x :: st) := C.go fun H locs la hP hD hS hl => lv_icmp_le C.x C.b hd ht (fun h => C.un (kt h) H locs la hP hD hS hl) (fun h => C.un (kf h) H locs la hP hD hS hl)
theorem s_lcmp (C : Cx p l e R s m args below meth c cc nL own Ts X A cells slots Q g) {x y : Int64} (hd : decode cc pc = .ok (.lcmp, 1)) (k : g ws (pc + 1) ls (.int (lg_cmp x y) :: st)) : g ws pc ls (.long y :: .long x :: st) := C.go fun H locs la hP hD hS hl => W.lcmp C.x C.b hd (C.un k H locs la hP hD hS hl)
theorem lc_lt {x y : Int64} : lg_cmp x y < 0 ↔ x < y := by
  unfold lg_cmp
  by_cases h1 : x > y
  · rw [if_pos h1]; exact ⟨fun h => absurd h (by decide), fun h => absurd h (Int64.lt_asymm h1)⟩
  · by_cases h2 : x = y
    · rw [if_neg h1, if_pos h2]; exact ⟨fun h => absurd h (by decide), fun h => absurd h (by rw [h2]; exact Int64.lt_irrefl)⟩
    · rw [if_neg h1, if_neg h2]; exact ⟨fun _ => (Int64.lt_or_eq_of_le (Int64.not_lt.mp h1)).resolve_right h2, fun _ => by decide⟩
theorem lc_gt {x y : Int64} : 0 < lg_cmp x y ↔ y < x := by
  unfold lg_cmp
  by_cases h1 : x > y
  · rw [if_pos h1]; exact ⟨fun _ => h1, fun _ => by decide⟩
  · by_cases h2 : x = y
    · rw [if_neg h1, if_pos h2]; exact ⟨fun h => absurd h (by decide), fun h => absurd h h1⟩
    · rw [if_neg h1, if_neg h2]; exact ⟨fun h => absurd h (by decide), fun h => absurd h h1⟩
theorem lc_eq {x y : Int64} : lg_cmp x y = 0 ↔ x = y := by
  unfold lg_cmp
  by_cases h1 : x > y
  · rw [if_pos h1]; exact ⟨fun h => absurd h (by decide), fun h => absurd h1 (by rw [h]; exact Int64.lt_irrefl)⟩
  · by_cases h2 : x = y
    · rw [if_neg h1, if_pos h2]; exact ⟨fun _ => h2, fun _ => rfl⟩
    · rw [if_neg h1, if_neg h2]; exact ⟨fun h => absurd h (by decide), fun h => absurd h h2⟩
theorem lc_le {x y : Int64} : lg_cmp x y ≤ 0 ↔ x ≤ y := by rw [← Int32.not_lt, lc_gt, Int64.not_lt]
theorem lc_ge {x y : Int64} : 0 ≤ lg_cmp x y ↔ y ≤ x := by rw [← Int32.not_lt, lc_lt, Int64.not_lt]
theorem s_lcmp_eq (C : Cx p l e R s m args below meth c cc nL own Ts X A cells slots Q g) {x y : Int64} {off : Int} {tgt : Nat} (hd : decode cc pc = .ok (.lcmp, 1)) (hd2 : decode cc (pc + 1) = .ok (.ifCond .eq off, 3)) (ht : ((pc + 1 : Nat) : Int) + off = (tgt : Int)) (kt : x = y → g ws tgt ls st) (kf : ¬ x = y → g ws (pc + 1 + 3) ls st) : g ws pc ls (.long y :: .long x :: st) := s_lcmp C hd (s_if_eq C hd2 ht (fun h => kt (lc_eq.mp h)) (fun h => kf (fun h2 => h (lc_eq.mpr h2))))
theorem s_lcmp_ne (C : Cx p l e R s m args below meth c cc nL own Ts X A cells slots Q g) {x y : Int64} {off : Int} {tgt : Nat} (hd : decode cc pc = .ok (.lcmp, 1)) (hd2 : decode cc (pc + 1) = .ok (.ifCond .ne off, 3)) (ht : ((pc + 1 : Nat) : Int) + off = (tgt : Int)) (kt : ¬ x = y → g ws tgt ls st) (kf : x = y → g ws (pc + 1 + 3) ls st) : g ws pc ls (.long y :: .long x :: st) := s_lcmp C hd (s_if_ne C hd2 ht (fun h => kt (fun h2 => h (lc_eq.mpr h2))) (fun h => kf (lc_eq.mp h)))
theorem s_lcmp_lt (C : Cx p l e R s m args below meth c cc nL own Ts X A cells slots Q g) {x y : Int64} {off : Int} {tgt : Nat} (hd : decode cc pc = .ok (.lcmp, 1)) (hd2 : decode cc (pc + 1) = .ok (.ifCond .lt off, 3)) (ht : ((pc + 1 : Nat) : Int) + off = (tgt : Int)) (kt : x < y → g ws tgt ls st) (kf : ¬ x < y → g ws (pc + 1 + 3) ls st) : g ws pc ls (.long y :: .long x :: st) := s_lcmp C hd (s_if_lt C hd2 ht (fun h => kt (lc_lt.mp h)) (fun h => kf (fun h2 => h (lc_lt.mpr h2))))
theorem s_lcmp_ge (C : Cx p l e R s m args below meth c cc nL own Ts X A cells slots Q g) {x y : Int64} {off : Int} {tgt : Nat} (hd : decode cc pc = .ok (.lcmp, 1)) (hd2 : decode cc (pc + 1) = .ok (.ifCond .ge off, 3)) (ht : ((pc + 1 : Nat) : Int) + off = (tgt : Int)) (kt : y ≤ x → g ws tgt ls st) (kf : ¬ y ≤ x → g ws (pc + 1 + 3) ls st) : g ws pc ls (.long y :: .long x :: st) := s_lcmp C hd (s_if_ge C hd2 ht (fun h => kt (lc_ge.mp h)) (fun h => kf (fun h2 => h (lc_ge.mpr h2))))
theorem s_lcmp_gt (C : Cx p l e R s m args below meth c cc nL own Ts X A cells slots Q g) {x y : Int64} {off : Int} {tgt : Nat} (hd : decode cc pc = .ok (.lcmp, 1)) (hd2 : decode cc (pc + 1) = .ok (.ifCond .gt off, 3)) (ht : ((pc + 1 : Nat) : Int) + off = (tgt : Int)) (kt : y < x → g ws tgt ls st) (kf : ¬ y < x → g ws (pc + 1 + 3) ls st) : g ws pc ls (.long y :: .long x :: st) := s_lcmp C hd (s_if_gt C hd2 ht (fun h => kt (lc_gt.mp h)) (fun h => kf (fun h2 => h (lc_gt.mpr h2))))
theorem s_lcmp_le (C : Cx p l e R s m args below meth c cc nL own Ts X A cells slots Q g) {x y : Int64} {off : Int} {tgt : Nat} (hd : decode cc pc = .ok (.lcmp, 1)) (hd2 : decode cc (pc + 1) = .ok (.ifCond .le off, 3)) (ht : ((pc + 1 : Nat) : Int) + off = (tgt : Int)) (kt : x ≤ y → g ws tgt ls st) (kf : ¬ x ≤ y → g ws (pc + 1 + 3) ls st) : g ws pc ls (.long y :: .long x :: st) := s_lcmp C hd (s_if_le C hd2 ht (fun h => kt (lc_le.mp h)) (fun h => kf (fun h2 => h (lc_le.mpr h2))))
theorem s_ldc2 (C : Cx p l e R s m args below meth c cc nL own Ts X A cells slots Q g) {index : Nat} {v : Int64} (hc : (Cond.constantLong own index v) ∈ Ts) (hd : decode cc pc = .ok (.ldc2_w index, 3)) (k : g ws (pc + 3) ls (.long v :: st)) : g ws pc ls st := C.go fun H locs la hP hD hS hl => lv_ldc2 C.x C.b C.ow (C.ts _ hc) hd (C.un k H locs la hP hD hS hl)
theorem s_loc (C : Cx p l e R s m args below meth c cc nL own Ts X A cells slots Q g) (ks : List Nat) (h : lv_pick ls ks = ls') (k : g ws pc ls' st) : g ws pc ls st := C.go fun H locs la hP hD hS hl => C.un k H locs la hP hD hS (lv_sub hl ks h)
theorem s_sub (C : Cx p l e R s m args below meth c cc nL own Ts X A cells slots Q g) (is : List Nat) (hn : va_nd is = true) (h : is.map (fun i => ws[i]?) = ws'.map some) (k : g ws' pc ls st) : g ws pc ls st := C.go fun H locs la hP hD hS hl => C.un k H locs la (hP.sub is (fm_of h)) (hD.sub is hn h) hS hl
theorem s_get (C : Cx p l e R s m args below meth c cc nL own Ts X A cells slots Q g) {C0 ref : String} {T : u_T} {N ci index a : Nat} {fs : List Value} (hin : ∀ w ∈ u_ws C0 T N, w ∈ Ts) (q0 : Nat) (he : ws[q0]? = some (a, .inr (ci, fs))) (hc : vwCl[ci]? = some (C0, T, N)) (j : Nat) (hj : j < N) (hlink : Cond.fieldLink own index ref (T j).2.1 (T j).2.2.1 ∈ Ts) (hsame : (T j).1 = ref) {v : Value} (hv : fs[j]? = some v) (hd : decode cc pc = .ok (.getfield index, 3)) (k : g ws (pc + 3) ls (v :: st)) : g ws pc ls (.ref a :: st) := C.go fun H locs la hP hD hS hl => va_get C.x C.b C.ts hin C.ow C.K hP q0 he hc j hj (C.ts _ hlink) (fun _ h => by rw [← hsame]; exact h) hv hd (C.un k H locs la hP hD hS hl)
theorem s_getN (C : Cx p l e R s m args below meth c cc nL own Ts X A cells slots Q g) {host : String} {C0 ref : String} {T : u_T} {N ci index a : Nat} {fs : List Value} (hin : ∀ w ∈ u_ws C0 T N, w ∈ Ts) (q0 : Nat) (he : ws[q0]? = some (a, .inr (ci, fs))) (hc : vwCl[ci]? = some (C0, T, N)) (j : Nat) (hj : j < N) (hlink : (Cond.fieldLinkNest own index ref (T j).2.1 (T j).2.2.1 host).before args s = true) (hsame : (T j).1 = ref) {v : Value} (hv : fs[j]? = some v) (hd : decode cc pc = .ok (.getfield index, 3)) (k : g ws (pc + 3) ls (v :: st)) : g ws pc ls (.ref a :: st) := C.go fun H locs la hP hD hS hl => va_getN C.x C.b C.ts hin C.ow C.K hP q0 he hc j hj hlink (fun _ h => by rw [← hsame]; exact h) hv hd (C.un k H locs la hP hD hS hl)
theorem s_put (C : Cx p l e R s m args below meth c cc nL own Ts X A cells slots Q g) {C0 ref : String} {T : u_T} {N ci index a : Nat} {fs : List Value} (hin : ∀ w ∈ u_ws C0 T N, w ∈ Ts) (q0 : Nat) (he : ws[q0]? = some (a, .inr (ci, fs))) (hc : vwCl[ci]? = some (C0, T, N)) (ty0 : Nat → FieldType) (hty : ∀ k, k < N → parseFieldDescriptor (T k).2.2.1 = some (ty0 k)) (hnm : ∀ a, a < N → ∀ b, b < N → a ≠ b → (T a).2.1 ≠ (T b).2.1) (j : Nat) (hj : j < N) (hlink : Cond.fieldLink own index ref (T j).2.1 (T j).2.2.1 ∈ Ts) (hsame : (T j).1 = ref) (hfin : (T j).2.2.2 = false) {v : Value} (hn : narrow (ty0 j) v = v) (hfit : fits (ty0 j) v = true) (hlen : j < fs.length) (hw : ws.set q0 (a, .inr (ci, fs.set j v)) = ws') (hd : decode cc pc = .ok (.putfield index, 3)) (k : g ws' (pc + 3) ls st) : g ws pc ls (v :: .ref a :: st) := C.go fun H locs la hP hD hS hl => va_put C.x C.b C.ts hin ty0 hty hnm C.ow C.K hP hD hS q0 he hc j hj (C.ts _ hlink) (fun _ h => by rw [← hsame]; exact h) hfin (hty j hj) hn hfit hlen hd (fun H1 locs1 hP1 hD1 hS1 => C.un k H1 locs1 la (by rw [← hw]; exact hP1) (by rw [← hw]; exact hD1) hS1 hl)
theorem s_putN (C : Cx p l e R s m args below meth c cc nL own Ts X A cells slots Q g) {host : String} {C0 ref : String} {T : u_T} {N ci index a : Nat} {fs : List Value} (hin : ∀ w ∈ u_ws C0 T N, w ∈ Ts) (q0 : Nat) (he : ws[q0]? = some (a, .inr (ci, fs))) (hc : vwCl[ci]? = some (C0, T, N)) (ty0 : Nat → FieldType) (hty : ∀ k, k < N → parseFieldDescriptor (T k).2.2.1 = some (ty0 k)) (hnm : ∀ a, a < N → ∀ b, b < N → a ≠ b → (T a).2.1 ≠ (T b).2.1) (j : Nat) (hj : j < N) (hlink : (Cond.fieldLinkNest own index ref (T j).2.1 (T j).2.2.1 host).before args s = true) (hsame : (T j).1 = ref) (hfin : (T j).2.2.2 = false) {v : Value} (hn : narrow (ty0 j) v = v) (hfit : fits (ty0 j) v = true) (hlen : j < fs.length) (hw : ws.set q0 (a, .inr (ci, fs.set j v)) = ws') (hd : decode cc pc = .ok (.putfield index, 3)) (k : g ws' (pc + 3) ls st) : g ws pc ls (v :: .ref a :: st) := C.go fun H locs la hP hD hS hl => va_putN C.x C.b C.ts hin ty0 hty hnm C.ow C.K hP hD hS q0 he hc j hj hlink (fun _ h => by rw [← hsame]; exact h) hfin (hty j hj) hn hfit hlen hd (fun H1 locs1 hP1 hD1 hS1 => C.un k H1 locs1 la (by rw [← hw]; exact hP1) (by rw [← hw]; exact hD1) hS1 hl)
theorem s_iald (C : Cx p l e R s m args below meth c cc nL own Ts X A cells slots Q g) (q0 : Nat) {a n : Nat} {f : Nat → Int32} (ha : ws[q0]? = some (a, .inl (X.2.1, n, .inl f))) {x : Int32} (i : Nat) (hx : x = nI i) (hi : i < n) (hn : n ≤ 1000) (hd : decode cc pc = .ok (.iaload, 1)) (k : g ws (pc + 1) ls (.int (f i) :: st)) : g ws pc ls (.int x :: .ref a :: st) := C.go fun H locs la hP hD hS hl => by
  have hi2 : i < 2 ^ 31 := by omega
  subst hx
  refine va_iald C.x C.b C.K hP q0 0 ha rfl (vp_in_nI hi (by omega)) hd ?_
  rw [nI_clamp hi2]
  exact (C.un k H locs la hP hD hS hl)
theorem s_zald (C : Cx p l e R s m args below meth c cc nL own Ts X A cells slots Q g) (q0 : Nat) {a n : Nat} {f : Nat → Int32} (ha : ws[q0]? = some (a, .inl (X.2.2.2.1, n, .inl f))) {x : Int32} (i : Nat) (hx : x = nI i) (hi : i < n) (hn : n ≤ 1000) (hd : decode cc pc = .ok (.baload, 1)) (k : g ws (pc + 1) ls (.int (f i) :: st)) : g ws pc ls (.int x :: .ref a :: st) := C.go fun H locs la hP hD hS hl => by
  have hi2 : i < 2 ^ 31 := by omega
  subst hx
  refine va_zald C.x C.b C.K hP q0 2 ha rfl (vp_in_nI hi (by omega)) hd ?_
  rw [nI_clamp hi2]
  exact (C.un k H locs la hP hD hS hl)
theorem s_lald (C : Cx p l e R s m args below meth c cc nL own Ts X A cells slots Q g) (q0 : Nat) {a n : Nat} {f : Nat → Int64} (ha : ws[q0]? = some (a, .inl (X.2.2.1, n, .inr (.inl f)))) {x : Int32} (i : Nat) (hx : x = nI i) (hi : i < n) (hn : n ≤ 1000) (hd : decode cc pc = .ok (.laload, 1)) (k : g ws (pc + 1) ls (.long (f i) :: st)) : g ws pc ls (.int x :: .ref a :: st) := C.go fun H locs la hP hD hS hl => by
  have hi2 : i < 2 ^ 31 := by omega
  subst hx
  refine va_lald C.x C.b C.K hP q0 1 ha rfl (vp_in_nI hi (by omega)) hd ?_
  rw [nI_clamp hi2]
  exact (C.un k H locs la hP hD hS hl)
theorem s_aald (C : Cx p l e R s m args below meth c cc nL own Ts X A cells slots Q g) (q0 : Nat) {a n : Nat} {f : Nat → Option Nat} (ha : ws[q0]? = some (a, .inl (X.2.2.2.2, n, .inr (.inr (.inr (.inr f)))))) {x : Int32} (i : Nat) (hx : x = nI i) (hi : i < n) (hn : n ≤ 1000) {b : Nat} (hb : f i = some b) (hd : decode cc pc = .ok (.aaload, 1)) (k : g ws (pc + 1) ls (.ref b :: st)) : g ws pc ls (.int x :: .ref a :: st) := C.go fun H locs la hP hD hS hl => by
  have hi2 : i < 2 ^ 31 := by omega
  subst hx
  refine va_aldq C.x C.b C.K hP q0 3 ha rfl (vp_in_nI hi (by omega)) hd ?_
  rw [nI_clamp hi2, hb]
  exact (C.un k H locs la hP hD hS hl)
theorem s_iast (C : Cx p l e R s m args below meth c cc nL own Ts X A cells slots Q g) (q0 : Nat) {a n : Nat} {f : Nat → Int32} (ha : ws[q0]? = some (a, .inl (X.2.1, n, .inl f))) {x : Int32} {v : Int32} (i : Nat) (hx : x = nI i) (hi : i < n) (hn : n ≤ 1000) (hw : ws.set q0 (a, .inl (X.2.1, n, .inl (upd f i v))) = ws') (hd : decode cc pc = .ok (.iastore, 1)) (k : g ws' (pc + 1) ls st) : g ws pc ls (.int v :: .int x :: .ref a :: st) := C.go fun H locs la hP hD hS hl => by
  have hi2 : i < 2 ^ 31 := by omega
  subst hx
  refine va_iast C.x C.b C.K hP hD hS q0 0 ha rfl (vp_in_nI hi (by omega)) hd (fun H1 locs1 hP1 hD1 hS1 => ?_)
  rw [nI_clamp hi2] at hP1 hD1
  exact C.un k H1 locs1 la (by rw [← hw]; exact hP1) (by rw [← hw]; exact hD1) hS1 hl
theorem s_last (C : Cx p l e R s m args below meth c cc nL own Ts X A cells slots Q g) (q0 : Nat) {a n : Nat} {f : Nat → Int64} (ha : ws[q0]? = some (a, .inl (X.2.2.1, n, .inr (.inl f)))) {x : Int32} {v : Int64} (i : Nat) (hx : x = nI i) (hi : i < n) (hn : n ≤ 1000) (hw : ws.set q0 (a, .inl (X.2.2.1, n, .inr (.inl (vp_updL f i v)))) = ws') (hd : decode cc pc = .ok (.lastore, 1)) (k : g ws' (pc + 1) ls st) : g ws pc ls (.long v :: .int x :: .ref a :: st) := C.go fun H locs la hP hD hS hl => by
  have hi2 : i < 2 ^ 31 := by omega
  subst hx
  refine va_last C.x C.b C.K hP hD hS q0 1 ha rfl (vp_in_nI hi (by omega)) hd (fun H1 locs1 hP1 hD1 hS1 => ?_)
  rw [nI_clamp hi2] at hP1 hD1
  exact C.un k H1 locs1 la (by rw [← hw]; exact hP1) (by rw [← hw]; exact hD1) hS1 hl
theorem s_zast (C : Cx p l e R s m args below meth c cc nL own Ts X A cells slots Q g) (q0 : Nat) {a n : Nat} {f : Nat → Int32} (ha : ws[q0]? = some (a, .inl (X.2.2.2.1, n, .inl f))) {x : Int32} {v : Int32} (i : Nat) (hx : x = nI i) (hi : i < n) (hn : n ≤ 1000) (hw : ws.set q0 (a, .inl (X.2.2.2.1, n, .inl (upd f i (vp_nar .boolean v)))) = ws') (hd : decode cc pc = .ok (.bastore, 1)) (k : g ws' (pc + 1) ls st) : g ws pc ls (.int v :: .int x :: .ref a :: st) := C.go fun H locs la hP hD hS hl => by
  have hi2 : i < 2 ^ 31 := by omega
  subst hx
  refine va_zast C.x C.b C.K hP hD hS q0 2 ha rfl (vp_in_nI hi (by omega)) hd (fun H1 locs1 hP1 hD1 hS1 => ?_)
  rw [nI_clamp hi2] at hP1 hD1
  exact C.un k H1 locs1 la (by rw [← hw]; exact hP1) (by rw [← hw]; exact hD1) hS1 hl
theorem s_aast (C : Cx p l e R s m args below meth c cc nL own Ts X A cells slots Q g) (q0 qk : Nat) {a n b : Nat} {f : Nat → Option Nat} {vs : List Value} (ha : ws[q0]? = some (a, .inl (X.2.2.2.2, n, .inr (.inr (.inr (.inr f)))))) (hv : ws[qk]? = some (b, .inr (1, vs))) {x : Int32} (i : Nat) (hx : x = nI i) (hi : i < n) (hn : n ≤ 1000) (hw : ws.set q0 (a, .inl (X.2.2.2.2, n, .inr (.inr (.inr (.inr (va_up f i (some b))))))) = ws') (hd : decode cc pc = .ok (.aastore, 1)) (k : g ws' (pc + 1) ls st) : g ws pc ls (.ref b :: .int x :: .ref a :: st) := C.go fun H locs la hP hD hS hl => by
  have hi2 : i < 2 ^ 31 := by omega
  subst hx
  refine va_astq C.x C.b C.K hP hD hS q0 3 qk 1 (r := (RX1, TX1, 6)) ha rfl hv rfl (vp_in_nI hi (by omega)) hd (fun H1 locs1 hP1 hD1 hS1 => ?_)
  rw [nI_clamp hi2] at hP1 hD1
  exact C.un k H1 locs1 la (by rw [← hw]; exact hP1) (by rw [← hw]; exact hD1) hS1 hl
theorem s_groups (C : Cx p l e R s m args below meth c cc nL own Ts X A cells slots Q g) {index : Nat} {ref : String} (hlink : Cond.fieldLink own index ref "GROUPS" "[I" ∈ Ts) (hsame : "PlateBeats" = ref) (hd : decode cc pc = .ok (.getstatic index, 3)) (k : ∀ tG : Nat, va_T .int tG 10 (fun k => .int (gN k)) A s s.heap → g ws (pc + 3) ls (.ref tG :: st)) : g ws pc ls st := C.go fun H locs la hP hD hS hl => by
  obtain ⟨tG, h1, h2⟩ := C.S
  exact va_gets C.x C.b h1 hS C.ow (C.ts _ hlink) (fun _ h => by rw [← hsame]; exact h) hd (C.un (k tG h2) H locs la hP hD hS hl)
theorem s_gald (C : Cx p l e R s m args below meth c cc nL own Ts X A cells slots Q g) {t : Nat} (hT : va_T .int t 10 (fun k => .int (gN k)) A s s.heap) {x : Int32} (i : Nat) (hx : x = nI i) (hi : i < 10) (hd : decode cc pc = .ok (.iaload, 1)) (k : g ws (pc + 1) ls (.int (gN i) :: st)) : g ws pc ls (.int x :: .ref t :: st) := C.go fun H locs la hP hD hS hl => by
  subst hx
  exact va_ti C.x C.b hT hS (vp_in_nI hi (by omega)) (by show Value.int (gN (nI i).toNatClampNeg) = _; rw [nI_clamp (by omega)]) hd (C.un k H locs la hP hD hS hl)
theorem s_glen (C : Cx p l e R s m args below meth c cc nL own Ts X A cells slots Q g) {t : Nat} (hT : va_T .int t 10 (fun k => .int (gN k)) A s s.heap) (hd : decode cc pc = .ok (.arraylength, 1)) (k : g ws (pc + 1) ls (.int 10 :: st)) : g ws pc ls (.ref t :: st) := C.go fun H locs la hP hD hS hl => va_tlen C.x C.b hT hS rfl hd (C.un k H locs la hP hD hS hl)
theorem s_nonnull (C : Cx p l e R s m args below meth c cc nL own Ts X A cells slots Q g) {x : Nat} {off : Int} {tgt : Nat} (hd : decode cc pc = .ok (.ifnonnull off, 3)) (ht : (pc : Int) + off = (tgt : Int)) (k : g ws tgt ls st) : g ws pc ls (.ref x :: st) := C.go fun H locs la hP hD hS hl => lv_ifnonnull C.x C.b hd ht (C.un k H locs la hP hD hS hl)
theorem s_null (C : Cx p l e R s m args below meth c cc nL own Ts X A cells slots Q g) {x : Nat} {off : Int} (hd : decode cc pc = .ok (.ifnull off, 3)) (k : g ws (pc + 3) ls st) : g ws pc ls (.ref x :: st) := C.go fun H locs la hP hD hS hl => lv_ifnull C.x C.b hd (C.un k H locs la hP hD hS hl)
theorem pcx_of (C : Cx p l e R s m args below meth c cc nL own Ts X A cells slots Q g) {H : Heap} {locs : List Loc} (hP : va_P X.1 vwCl ws H) (hD : va_D A ws) (hS : va_S A s.heap H locs) {av : List Value} {wc : va_W} (iC : List Nat) (hnC : va_nd iC = true) (hC : iC.map (fun i => ws[i]?) = wc.map some) : ∀ U : State, U.heap = H → s.WarmedH U.vm → PcX X av wc H.size av.toArray U := fun U hU hW => ⟨rfl, by rw [hU], by rw [hU]; exact hP.sub iC (fm_of hC), va_K.moved hW.alike C.K, (hD.sub iC hnC hC).weaken (fun _ _ _ _ => trivial), NW.warm hW C.N, GS.to C.S hS hU hW (va_free hD hS C.hA iC hC)⟩
theorem r_V (C : Cx p l e R s m args below meth c cc nL own Ts X A cells slots Q g) {y : MethodName} {bytes : ByteArray} {maxL n index : Nat} {ret : Option FieldType} {wy : List Cond} {rm : Room} {Qc : Nat → Array Value → State → Outcome → State → Prop} {wc : va_W} {As rest : List Value} {Cn : String} {T : u_T} {N b q0 ci : Nat} {fs : List Value} (hM : ∀ sz, Met l y wy rm (PcX X (.ref b :: As) wc sz) (Qc sz) 0 0 (va_A wc sz)) (cw : CallW R s args own Cn index y bytes maxL ret wy rm 0 0 n) (hq : ws[q0]? = some (b, .inr (ci, fs))) (hcl : vwCl[ci]? = some (Cn, T, N)) (iC : List Nat) (hnC : va_nd iC = true) (hC : iC.map (fun i => ws[i]?) = wc.map some) (hn : As.length = n) (hcat : (rest.map fun v => v.category).sum ≤ 8) (hst : st = As.reverse ++ .ref b :: rest) (hd : decode cc pc = .ok (.invokevirtual index, 3)) (hf : cells ≤ R.cells ∧ slots ≤ R.slots) : ∀ (H : Heap) (locs : List Loc) (la : Array Slot), va_P X.1 vwCl ws H → va_D A ws → va_S A s.heap H locs → lv_has la nL ls → va_Run p l e R s m args below meth c H locs cells slots 0 0 (F0 m pc la st) rest (Qc H.size (Value.ref b :: As).toArray) (va_A wc H.size) := fun H locs la hP hD hS hl => va_runV (cells := cells) (slots := slots) ⟨C.x, C.b, C.ml, C.ow, C.ts⟩ (hM H.size) cw ⟨PcX.blind, va_recv C.K hP hcl hq, pcx_of C hP hD hS iC hnC hC⟩ rfl hn hl.1 hst (lv_room hcat) hd hf
theorem r_VN (C : Cx p l e R s m args below meth c cc nL own Ts X A cells slots Q g) {y : MethodName} {bytes : ByteArray} {maxL n index : Nat} {ret : Option FieldType} {wy : List Cond} {rm : Room} {Qc : Nat → Array Value → State → Outcome → State → Prop} {wc : va_W} {As rest : List Value} {Cn host : String} {T : u_T} {N b q0 ci : Nat} {fs : List Value} (hM : ∀ sz, Met l y wy rm (PcX X (.ref b :: As) wc sz) (Qc sz) 0 0 (va_A wc sz)) (cw : va_CN R s args own index y host bytes maxL ret wy rm 0 0 n ∧ (Cond.instanceMethod y).before args s = true ∧ (Cond.selects Cn y y).before args s = true) (hq : ws[q0]? = some (b, .inr (ci, fs))) (hcl : vwCl[ci]? = some (Cn, T, N)) (iC : List Nat) (hnC : va_nd iC = true) (hC : iC.map (fun i => ws[i]?) = wc.map some) (hn : As.length = n) (hcat : (rest.map fun v => v.category).sum ≤ 8) (hst : st = As.reverse ++ .ref b :: rest) (hd : decode cc pc = .ok (.invokevirtual index, 3)) (hf : cells ≤ R.cells ∧ slots ≤ R.slots) : ∀ (H : Heap) (locs : List Loc) (la : Array Slot), va_P X.1 vwCl ws H → va_D A ws → va_S A s.heap H locs → lv_has la nL ls → va_Run p l e R s m args below meth c H locs cells slots 0 0 (F0 m pc la st) rest (Qc H.size (Value.ref b :: As).toArray) (va_A wc H.size) := fun H locs la hP hD hS hl => va_runVN (cells := cells) (slots := slots) ⟨C.x, C.b, C.ml, C.ow, C.ts⟩ (hM H.size) cw ⟨PcX.blind, va_recv C.K hP hcl hq, pcx_of C hP hD hS iC hnC hC⟩ rfl hn hl.1 hst (lv_room hcat) hd hf
theorem r_S (C : Cx p l e R s m args below meth c cc nL own Ts X A cells slots Q g) {y : MethodName} {bytes : ByteArray} {maxL n index : Nat} {ret : Option FieldType} {wy : List Cond} {rm : Room} {Qc : Nat → Array Value → State → Outcome → State → Prop} {wc : va_W} {As rest : List Value} (hM : ∀ sz, Met l y wy rm (PcX X As wc sz) (Qc sz) 0 0 (va_A wc sz)) (cw : CallB R s args own index y bytes maxL ret wy rm 0 0 n ∧ (Cond.static y).before args s = true) (iC : List Nat) (hnC : va_nd iC = true) (hC : iC.map (fun i => ws[i]?) = wc.map some) (hn : As.length = n) (hcat : (rest.map fun v => v.category).sum ≤ 8) (hst : st = As.reverse ++ rest) (hd : decode cc pc = .ok (.invokestatic index, 3)) (hf : cells ≤ R.cells ∧ slots ≤ R.slots) : ∀ (H : Heap) (locs : List Loc) (la : Array Slot), va_P X.1 vwCl ws H → va_D A ws → va_S A s.heap H locs → lv_has la nL ls → va_Run p l e R s m args below meth c H locs cells slots 0 0 (F0 m pc la st) rest (Qc H.size As.toArray) (va_A wc H.size) := fun H locs la hP hD hS hl => va_runS (cells := cells) (slots := slots) ⟨C.x, C.b, C.ml, C.ow, C.ts⟩ (hM H.size) cw ⟨PcX.blind, pcx_of C hP hD hS iC hnC hC⟩ rfl hn hl.1 hst (lv_room hcat) hd hf
theorem r_SN (C : Cx p l e R s m args below meth c cc nL own Ts X A cells slots Q g) {y : MethodName} {bytes : ByteArray} {maxL n index : Nat} {ret : Option FieldType} {wy : List Cond} {rm : Room} {Qc : Nat → Array Value → State → Outcome → State → Prop} {wc : va_W} {As rest : List Value} {host : String} (hM : ∀ sz, Met l y wy rm (PcX X As wc sz) (Qc sz) 0 0 (va_A wc sz)) (cw : va_CN R s args own index y host bytes maxL ret wy rm 0 0 n ∧ (Cond.static y).before args s = true ∧ True) (iC : List Nat) (hnC : va_nd iC = true) (hC : iC.map (fun i => ws[i]?) = wc.map some) (hn : As.length = n) (hcat : (rest.map fun v => v.category).sum ≤ 8) (hst : st = As.reverse ++ rest) (hd : decode cc pc = .ok (.invokestatic index, 3)) (hf : cells ≤ R.cells ∧ slots ≤ R.slots) : ∀ (H : Heap) (locs : List Loc) (la : Array Slot), va_P X.1 vwCl ws H → va_D A ws → va_S A s.heap H locs → lv_has la nL ls → va_Run p l e R s m args below meth c H locs cells slots 0 0 (F0 m pc la st) rest (Qc H.size As.toArray) (va_A wc H.size) := fun H locs la hP hD hS hl => va_runSN (cells := cells) (slots := slots) ⟨C.x, C.b, C.ml, C.ow, C.ts⟩ (hM H.size) cw ⟨PcX.blind, pcx_of C hP hD hS iC hnC hC⟩ rfl hn hl.1 hst (lv_room hcat) hd hf
theorem s_calli (C : Cx p l e R s m args below meth c cc nL own Ts X A cells slots Q g) {r : Int32} {a : Array Value} {wc wc' wr wn : va_W} {rest : List Value} (hr : ∀ (H : Heap) (locs : List Loc) (la : Array Slot), va_P X.1 vwCl ws H → va_D A ws → va_S A s.heap H locs → lv_has la nL ls → va_Run p l e R s m args below meth c H locs cells slots 0 0 (F0 m pc la st) rest (QI X wc' (va_A wc H.size) r a) (va_A wc H.size)) (iC iR pm : List Nat) (hC : iC.map (fun i => ws[i]?) = wc.map some) (hR : iR.map (fun i => ws[i]?) = wr.map some) (hnd : va_nd iR = true) (hdis : ∀ i ∈ iR, i ∉ iC) (hpn : va_nd pm = true) (hpm : pm.map (fun i => (wr ++ wc')[i]?) = wn.map some) (k : g wn (pc + 3) ls (.int r :: rest)) : g ws pc ls st := C.go fun H locs la hP hD hS hl => by
  have hF := va_free hD hS C.hA iC hC
  refine va_calli (hr H locs la hP hD hS hl) hS (fun q _ h => hF q h) hF (fun r1 u t H1 locs1 ht hvm hr1 hB hz1 hk1 hS1 => ?_)
  subst hr1
  obtain ⟨hP1, hD1⟩ := hB
  rw [ht] at hP1
  obtain ⟨hP2, hD2⟩ := va_join (wr := wr) (w1 := wc') hP hD iC iR hC hR hnd hdis hk1 hF hP1 hD1
  exact C.un k H1 locs1 la (hP2.sub pm (fm_of hpm)) (hD2.sub pm hpn hpm) hS1 hl
theorem s_calll (C : Cx p l e R s m args below meth c cc nL own Ts X A cells slots Q g) {r : Int64} {a : Array Value} {wc wc' wr wn : va_W} {rest : List Value} (hr : ∀ (H : Heap) (locs : List Loc) (la : Array Slot), va_P X.1 vwCl ws H → va_D A ws → va_S A s.heap H locs → lv_has la nL ls → va_Run p l e R s m args below meth c H locs cells slots 0 0 (F0 m pc la st) rest (QL X wc' (va_A wc H.size) r a) (va_A wc H.size)) (iC iR pm : List Nat) (hC : iC.map (fun i => ws[i]?) = wc.map some) (hR : iR.map (fun i => ws[i]?) = wr.map some) (hnd : va_nd iR = true) (hdis : ∀ i ∈ iR, i ∉ iC) (hpn : va_nd pm = true) (hpm : pm.map (fun i => (wr ++ wc')[i]?) = wn.map some) (k : g wn (pc + 3) ls (.long r :: rest)) : g ws pc ls st := C.go fun H locs la hP hD hS hl => by
  have hF := va_free hD hS C.hA iC hC
  refine va_calll (hr H locs la hP hD hS hl) hS (fun q _ h => hF q h) hF (fun r1 u t H1 locs1 ht hvm hr1 hB hz1 hk1 hS1 => ?_)
  subst hr1
  obtain ⟨hP1, hD1⟩ := hB
  rw [ht] at hP1
  obtain ⟨hP2, hD2⟩ := va_join (wr := wr) (w1 := wc') hP hD iC iR hC hR hnd hdis hk1 hF hP1 hD1
  exact C.un k H1 locs1 la (hP2.sub pm (fm_of hpm)) (hD2.sub pm hpn hpm) hS1 hl
theorem s_callv (C : Cx p l e R s m args below meth c cc nL own Ts X A cells slots Q g) {a : Array Value} {wc wc' wr wn : va_W} {rest : List Value} (hr : ∀ (H : Heap) (locs : List Loc) (la : Array Slot), va_P X.1 vwCl ws H → va_D A ws → va_S A s.heap H locs → lv_has la nL ls → va_Run p l e R s m args below meth c H locs cells slots 0 0 (F0 m pc la st) rest (QV X wc' (va_A wc H.size) a) (va_A wc H.size)) (iC iR pm : List Nat) (hC : iC.map (fun i => ws[i]?) = wc.map some) (hR : iR.map (fun i => ws[i]?) = wr.map some) (hnd : va_nd iR = true) (hdis : ∀ i ∈ iR, i ∉ iC) (hpn : va_nd pm = true) (hpm : pm.map (fun i => (wr ++ wc')[i]?) = wn.map some) (k : g wn (pc + 3) ls (rest)) : g ws pc ls st := C.go fun H locs la hP hD hS hl => by
  have hF := va_free hD hS C.hA iC hC
  refine va_callv (hr H locs la hP hD hS hl) hS (fun q _ h => hF q h) hF (fun u t H1 locs1 ht hvm hr1 hB hz1 hk1 hS1 => ?_)
  obtain ⟨hP1, hD1⟩ := hB
  rw [ht] at hP1
  obtain ⟨hP2, hD2⟩ := va_join (wr := wr) (w1 := wc') hP hD iC iR hC hR hnd hdis hk1 hF hP1 hD1
  exact C.un k H1 locs1 la (hP2.sub pm (fm_of hpm)) (hD2.sub pm hpn hpm) hS1 hl
theorem s_iret {A : Nat → Prop} {r v : Int32} (C : Cx p l e R s m args below meth c cc nL own Ts X A 0 0 (MQ below (QI X ws' A r) args s 0 0 A) g) (hr : meth.sig.returnType = some .int) (hlk : meth.locks = false) (pm : List Nat) (hn : va_nd pm = true) (hp : pm.map (fun i => ws[i]?) = ws'.map some) (hv : v = r) (hd : decode cc pc = .ok (.ireturn, 1)) : g ws pc ls [.int v] := C.go fun H locs la hP hD hS hl => W.iret (v := v) C.x C.b hr (fun t ht hW => ⟨⟨v, (), rfl, hv, by rw [ht]; exact hP.sub pm (fm_of hp), hD.sub pm hn hp⟩, hS.F ht⟩) hS.2.2 hd hlk
theorem s_zret {A : Nat → Prop} {r v : Int32} (C : Cx p l e R s m args below meth c cc nL own Ts X A 0 0 (MQ below (QI X ws' A r) args s 0 0 A) g) (hr : meth.sig.returnType = some .boolean) (hlk : meth.locks = false) (pm : List Nat) (hn : va_nd pm = true) (hp : pm.map (fun i => ws[i]?) = ws'.map some) (hz : narrow .boolean (.int v) = .int v) (hv : v = r) (hd : decode cc pc = .ok (.ireturn, 1)) : g ws pc ls [.int v] := C.go fun H locs la hP hD hS hl => W.zret (v := v) C.x C.b hr hz (fun t ht hW => ⟨⟨v, (), rfl, hv, by rw [ht]; exact hP.sub pm (fm_of hp), hD.sub pm hn hp⟩, hS.F ht⟩) hS.2.2 hd hlk
theorem s_lret {A : Nat → Prop} {r v : Int64} (C : Cx p l e R s m args below meth c cc nL own Ts X A 0 0 (MQ below (QL X ws' A r) args s 0 0 A) g) (hr : meth.sig.returnType = some .long) (hlk : meth.locks = false) (pm : List Nat) (hn : va_nd pm = true) (hp : pm.map (fun i => ws[i]?) = ws'.map some) (hv : v = r) (hd : decode cc pc = .ok (.lreturn, 1)) : g ws pc ls [.long v] := C.go fun H locs la hP hD hS hl => W.lret (v := v) C.x C.b hr (fun t ht hW => ⟨⟨v, (), rfl, hv, by rw [ht]; exact hP.sub pm (fm_of hp), hD.sub pm hn hp⟩, hS.F ht⟩) hS.2.2 hd hlk
theorem s_vret {A : Nat → Prop} (C : Cx p l e R s m args below meth c cc nL own Ts X A 0 0 (MQ below (QV X ws' A) args s 0 0 A) g) (hr : meth.sig.returnType = none) (hlk : meth.locks = false) (pm : List Nat) (hn : va_nd pm = true) (hp : pm.map (fun i => ws[i]?) = ws'.map some) (hd : decode cc pc = .ok (.return_, 1)) : g ws pc ls [] := C.go fun H locs la hP hD hS hl => W.vret C.x C.b hr (fun t ht hW => ⟨⟨(), rfl, trivial, by rw [ht]; exact hP.sub pm (fm_of hp), hD.sub pm hn hp⟩, hS.F ht⟩) hS.2.2 hd hlk
theorem k_ofI {y : MethodName} {wy w0 : List Cond} {rm : Room} {av : List Value} {r : Int32} {maxL : Nat} {ret : Option FieldType} {ls0 : LT} (hy : plainName y.cls = true) (hw : wy = Cond.code y cc maxL ret :: w0) (ho : y.cls = own) (hle : (lg_sl av).length ≤ maxL) (hls : lv_args 0 av = ls0)
    (body : ∀ (p : Program) (e : Env) (s : State) (m : MethodId) (args : Array Value) (below : List Frame) (meth : Method) (c : Code) (A : Nat → Prop) (g : GT), Cx p l e rm s m args below meth c cc maxL own wy X A 0 0 (MQ below (QI X ws' A r) args s 0 0 A) g → meth.sig.returnType = ret → meth.locks = false → g ws 0 ls0 []) : KI l y wy rm X av ws ws' r := by
  intro sz
  refine Met.ofW (cc := cc) (maxL := maxL) (ret := ret) hy hw ?_
  intro p e s m args below meth c s₁ B hml hv
  obtain ⟨rfl, hsz, hP, hK, hD0, hN, hG⟩ := hv
  have hown : s.vm.findClass own = some m.cls := by rw [← ho]; exact findClass_of_methodNamed B.named
  subst hsz
  have hD := hD0.self (sz := s.heap.size)
  have hA : ∀ q : Nat, s.heap.size ≤ q → va_A ws s.heap.size q := fun q h => Or.inr h
  generalize va_A ws s.heap.size = A at hD hA hG ⊢
  have hl := lv_entry av (n := maxL) hle
  rw [hls] at hl
  rw [lg_entry_eq]
  exact body p e s m _ below meth c A _ ⟨rfl, B.exec, B.bytes, hml, hown, atoms_spec (ws := wy) B.pre, hK, hA, hN, hG⟩ B.returns B.notSynchronized s.heap [] _ hP hD va_S.rf hl
theorem k_ofL {y : MethodName} {wy w0 : List Cond} {rm : Room} {av : List Value} {r : Int64} {maxL : Nat} {ret : Option FieldType} {ls0 : LT} (hy : plainName y.cls = true) (hw : wy = Cond.code y cc maxL ret :: w0) (ho : y.cls = own) (hle : (lg_sl av).length ≤ maxL) (hls : lv_args 0 av = ls0)
    (body : ∀ (p : Program) (e : Env) (s : State) (m : MethodId) (args : Array Value) (below : List Frame) (meth : Method) (c : Code) (A : Nat → Prop) (g : GT), Cx p l e rm s m args below meth c cc maxL own wy X A 0 0 (MQ below (QL X ws' A r) args s 0 0 A) g → meth.sig.returnType = ret → meth.locks = false → g ws 0 ls0 []) : KL l y wy rm X av ws ws' r := by
  intro sz
  refine Met.ofW (cc := cc) (maxL := maxL) (ret := ret) hy hw ?_
  intro p e s m args below meth c s₁ B hml hv
  obtain ⟨rfl, hsz, hP, hK, hD0, hN, hG⟩ := hv
  have hown : s.vm.findClass own = some m.cls := by rw [← ho]; exact findClass_of_methodNamed B.named
  subst hsz
  have hD := hD0.self (sz := s.heap.size)
  have hA : ∀ q : Nat, s.heap.size ≤ q → va_A ws s.heap.size q := fun q h => Or.inr h
  generalize va_A ws s.heap.size = A at hD hA hG ⊢
  have hl := lv_entry av (n := maxL) hle
  rw [hls] at hl
  rw [lg_entry_eq]
  exact body p e s m _ below meth c A _ ⟨rfl, B.exec, B.bytes, hml, hown, atoms_spec (ws := wy) B.pre, hK, hA, hN, hG⟩ B.returns B.notSynchronized s.heap [] _ hP hD va_S.rf hl
theorem k_ofV {y : MethodName} {wy w0 : List Cond} {rm : Room} {av : List Value} {maxL : Nat} {ret : Option FieldType} {ls0 : LT} (hy : plainName y.cls = true) (hw : wy = Cond.code y cc maxL ret :: w0) (ho : y.cls = own) (hle : (lg_sl av).length ≤ maxL) (hls : lv_args 0 av = ls0)
    (body : ∀ (p : Program) (e : Env) (s : State) (m : MethodId) (args : Array Value) (below : List Frame) (meth : Method) (c : Code) (A : Nat → Prop) (g : GT), Cx p l e rm s m args below meth c cc maxL own wy X A 0 0 (MQ below (QV X ws' A) args s 0 0 A) g → meth.sig.returnType = ret → meth.locks = false → g ws 0 ls0 []) : KV l y wy rm X av ws ws' := by
  intro sz
  refine Met.ofW (cc := cc) (maxL := maxL) (ret := ret) hy hw ?_
  intro p e s m args below meth c s₁ B hml hv
  obtain ⟨rfl, hsz, hP, hK, hD0, hN, hG⟩ := hv
  have hown : s.vm.findClass own = some m.cls := by rw [← ho]; exact findClass_of_methodNamed B.named
  subst hsz
  have hD := hD0.self (sz := s.heap.size)
  have hA : ∀ q : Nat, s.heap.size ≤ q → va_A ws s.heap.size q := fun q h => Or.inr h
  generalize va_A ws s.heap.size = A at hD hA hG ⊢
  have hl := lv_entry av (n := maxL) hle
  rw [hls] at hl
  rw [lg_entry_eq]
  exact body p e s m _ below meth c A _ ⟨rfl, B.exec, B.bytes, hml, hown, atoms_spec (ws := wy) B.pre, hK, hA, hN, hG⟩ B.returns B.notSynchronized s.heap [] _ hP hD va_S.rf hl
end KIT
end
section
/-! truth values as ints, numbers of the walk -/
def bI (q : Prop) [Decidable q] : Int32 := if q then 1 else 0
theorem bI_pos {q : Prop} [Decidable q] (h : q) : bI q = 1 := if_pos h
theorem bI_neg {q : Prop} [Decidable q] (h : ¬ q) : bI q = 0 := if_neg h
def absI (x : Int32) : Int32 := if 0 ≤ x then x else 0 - x
def iI (z : Int) : Int32 := Int32.ofInt z
abbrev hv (n : Nat) (i : Int32) : Prop := 0 ≤ i ∧ i < nI n
theorem hv_of {n k : Nat} (hk : k < n) (hn : n ≤ 100) : hv n (nI k) := ⟨nI_pos' (by omega), nI_lt hk (by omega)⟩
theorem nat_le {a b : Nat} (ha : a < 2 ^ 31) (hb : b < 2 ^ 31) (h : nI a ≤ nI b) : a ≤ b := (nI_leI ha hb).mp h
theorem nat_nle {a b : Nat} (ha : a < 2 ^ 31) (hb : b < 2 ^ 31) (h : ¬ nI a ≤ nI b) : b < a := Nat.lt_of_not_le (fun q => h ((nI_leI ha hb).mpr q))
theorem nat_lt {a b : Nat} (ha : a < 2 ^ 31) (hb : b < 2 ^ 31) (h : nI a < nI b) : a < b := (nI_ltI ha hb).mp h
theorem nat_nlt {a b : Nat} (ha : a < 2 ^ 31) (hb : b < 2 ^ 31) (h : ¬ nI a < nI b) : b ≤ a := Nat.le_of_not_lt (fun q => h ((nI_ltI ha hb).mpr q))
theorem nat_eq {a b : Nat} (ha : a < 2 ^ 31) (hb : b < 2 ^ 31) (h : nI a = nI b) : a = b := (nI_eq ha hb).mp h
theorem nat_ne {a b : Nat} (ha : a < 2 ^ 31) (hb : b < 2 ^ 31) (h : ¬ nI a = nI b) : a ≠ b := fun q => h (by rw [q])
theorem i_z (z : Int) (h1 : -1000000000 ≤ z) (h2 : z ≤ 1000000000) : (iI z).toInt = z := Int32.toInt_ofInt_of_le (by omega) (by omega)
theorem iI_1 (z : Int) : iI z + 1 = iI (z + 1) := (Int32.ofInt_add z 1).symm
theorem iI_le {x y : Int} (h1 : -1000000000 ≤ x) (h2 : x ≤ 1000000000) (h3 : -1000000000 ≤ y) (h4 : y ≤ 1000000000) : iI x ≤ iI y ↔ x ≤ y := by rw [Int32.le_iff_toInt_le, i_z x h1 h2, i_z y h3 h4]
theorem iI_lt {x y : Int} (h1 : -1000000000 ≤ x) (h2 : x ≤ 1000000000) (h3 : -1000000000 ≤ y) (h4 : y ≤ 1000000000) : iI x < iI y ↔ x < y := by rw [Int32.lt_iff_toInt_lt, i_z x h1 h2, i_z y h3 h4]
theorem iI_nI (n : Nat) : iI (n : Int) = nI n := Int32.ofInt_eq_ofNat
section KIT2
variable {p : Program} {l : Launch} {e : Env} {R : Room} {s : State} {m : MethodId} {args : Array Value} {below : List Frame} {meth : Method} {c : Code} {cc : ByteArray} {nL : Nat} {own : String} {Ts : List Cond} {X : XT} {A : Nat → Prop} {cells slots : Nat} {Q : State → Prop} {g : GT} {ws ws' : va_W} {pc : Nat} {ls ls' : LT} {st : List Value}
theorem s_bif_eq (C : Cx p l e R s m args below meth c cc nL own Ts X A cells slots Q g) {q : Prop} [Decidable q] {off : Int} {tgt : Nat} (hd : decode cc pc = .ok (.ifCond .eq off, 3)) (ht : (pc : Int) + off = (tgt : Int)) (kt : ¬ q → g ws tgt ls st) (kf : q → g ws (pc + 3) ls st) : g ws pc ls (.int (bI q) :: st) := s_if_eq C hd ht (fun h => kt (fun hq => by rw [bI_pos hq] at h; exact absurd h (by decide))) (fun h => kf (by
  by_cases hq : q
  · exact hq
  · exact absurd (bI_neg hq) h))
theorem s_bif_ne (C : Cx p l e R s m args below meth c cc nL own Ts X A cells slots Q g) {q : Prop} [Decidable q] {off : Int} {tgt : Nat} (hd : decode cc pc = .ok (.ifCond .ne off, 3)) (ht : (pc : Int) + off = (tgt : Int)) (kt : q → g ws tgt ls st) (kf : ¬ q → g ws (pc + 3) ls st) : g ws pc ls (.int (bI q) :: st) := s_if_ne C hd ht (fun h => kt (by
  by_cases hq : q
  · exact hq
  · exact absurd (bI_neg hq) h)) (fun h => kf (fun hq => by rw [bI_pos hq] at h; exact absurd h (by decide)))
theorem s_top (C : Cx p l e R s m args below meth c cc nL own Ts X A cells slots Q g) {x y : Int32} (h : x = y) (k : g ws pc ls (.int y :: st)) : g ws pc ls (.int x :: st) := by rw [h]; exact k
theorem s_topl (C : Cx p l e R s m args below meth c cc nL own Ts X A cells slots Q g) {x y : Int64} (h : x = y) (k : g ws pc ls (.long y :: st)) : g ws pc ls (.long x :: st) := by rw [h]; exact k
theorem s_ws (C : Cx p l e R s m args below meth c cc nL own Ts X A cells slots Q g) (h : ws = ws') (k : g ws' pc ls st) : g ws pc ls st := by rw [h]; exact k
theorem s_ls (C : Cx p l e R s m args below meth c cc nL own Ts X A cells slots Q g) (h : ls = ls') (k : g ws pc ls' st) : g ws pc ls st := by rw [h]; exact k
theorem s_abs (C : Cx p l e R s m args below meth c cc nL own Ts X A cells slots Q g) {index : Nat} {x : Int32} (h1 : Cond.methodLink own index Lib.Math.abs.name ∈ Ts) (h2 : Cond.static Lib.Math.abs.name ∈ Ts) (h3 : Cond.initialized "java/lang/Math" ∈ Ts) (h4 : Cond.code Lib.Math.abs.name Lib.Math.abs.code 1 (some .int) ∈ Ts) (hcs : cells ≤ R.cells ∧ slots ≤ R.slots) (hf : 1 ≤ R.frames) (hlo : (st.map fun v => v.category).sum + 13 ≤ R.locals) (hd : decode cc pc = .ok (.invokestatic index, 3)) (k : g ws (pc + 3) ls (.int (absI x) :: st)) : g ws pc ls (.int x :: st) := C.go fun H locs la hP hD hS hl => va_mabs C.x C.b (by rw [C.ml, hl.1]) C.ow (C.ts _ h1) (C.ts _ h2) (C.ts _ h3) (C.ts _ h4) hf hlo hcs.1 hcs.2 hd (C.un k H locs la hP hD hS hl)
end KIT2
end
section
/-! what the small methods answer, in the order of their code -/
def ar (P Q : Nat → Int32) (k : Nat) : Int32 := P k * P k + Q k * Q k
def shR (P : Nat → Int32) (k : Nat) : Nat → Nat → Int32
  | 0 => P
  | d + 1 => upd (shR P k d) (k + d) (shR P k d (k + d + 1))
def reI (p q a b : Int32) : Int32 := a * p + b * q
def imI (p q a b : Int32) : Int32 := b * p - a * q
def pnI (pi qi pj qj a b c d : Int32) : Int32 := (reI pj qj a b - reI pi qi c d) * (reI pj qj a b - reI pi qi c d) + (imI pj qj a b - imI pi qi c d) * (imI pj qj a b - imI pi qi c d)
def dvL (x y : Int64) : Int64 := if y ≤ 0 then 0 else x / y
def gcdF : Nat → Int64 → Int64 → Int64
  | 0, a, _ => a
  | n + 1, a, b => if b = 0 then a else gcdF n b (a - a / b * b)
theorem lk_ex {α : Type} (a : α) : ∃ x : α, x = a := ⟨a, rfl⟩
/-- the same value, that no comparison looks into -/
noncomputable def lk {α : Type} (a : α) : α := Classical.choose (lk_ex a)
theorem lk_eq {α : Type} (a : α) : lk a = a := Classical.choose_spec (lk_ex a)
noncomputable def gcL (a b : Int64) : Int64 := lk (gcdF 100 a b)
theorem gcL_eq (a b : Int64) : gcL a b = gcdF 100 a b := lk_eq _
def btF : Nat → Int32
  | 0 => 0
  | j + 1 => nI (2 ^ j)
def rtF (sq : Int64) : Nat → Int32 → Int32
  | 0, r => r
  | j + 1, r => if sq < (r + btF (j + 1)).toInt64 * (r + btF (j + 1)).toInt64 then rtF sq j r else rtF sq j (r + btF (j + 1))
noncomputable def rtL (sq : Int64) : Int32 := lk (rtF sq 15 0)
theorem rtL_eq (sq : Int64) : rtL sq = rtF sq 15 0 := lk_eq _
theorem btF_shr : ∀ j, j < 15 → btF (j + 1) >>> ((1 : Int32) &&& 31) = btF j := by decide
theorem btF_pos : ∀ j, j < 16 → (btF j ≤ 0 ↔ j = 0) := by decide
def lfL (a : Int64) (f : Int32) : Int64 := dvL (a + f.toInt64 * f.toInt64 - 1) (f.toInt64 * f.toInt64)
def glL (a : Int64) (f : Int32) : Int64 := dvL a (f.toInt64 * f.toInt64)
def kdI (v : Int32) (lf gl : Int64) : Int32 := if v = 0 then 0 else if v.toInt64 < lf then (if gl < v.toInt64 then 3 else 2) else 1
noncomputable def prI (ar : Int64) (v : Int32) : Int32 := rtL (dvL ar v.toInt64)
def bcF (F : Nat → Int32) (lf gl : Int64) : Nat → Int32
  | 0 => 0
  | k + 1 => if kdI (F k) lf gl = 3 then bcF F lf gl k + 4 else bcF F lf gl k
def wlF (F : Nat → Int32) (lf gl : Int64) : Nat → Int32
  | 0 => 0
  | k + 1 => if kdI (F k) lf gl = 3 then (if wlF F lf gl k = 0 then F k else if wlF F lf gl k ≤ F k then wlF F lf gl k else F k) else wlF F lf gl k
def cwF (F : Nat → Int32) (v : Int32) : Nat → Int32
  | 0 => 0
  | k + 1 => if F k = v then cwF F v k + 4 else cwF F v k
def insW (f : Nat → Int32) (v : Int32) : Nat → Nat → Int32
  | 0 => upd f 0 v
  | q + 1 => if f q ≤ v then upd f (q + 1) v else insW (upd f (q + 1) (f q)) v q
def srF (F : Nat → Int32) : Nat → Nat → Int32
  | 0 => F
  | j + 1 => insW (srF F j) (srF F j (j + 1)) (j + 1)
def dnF (F : Nat → Int32) : Nat → Int32
  | 0 => 0
  | k + 1 => if k ≠ 0 ∧ F k = F (k - 1) then dnF F k else dnF F k + 1
def naF (F : Nat → Int32) (rk : Int32) : Nat → Nat → Int32 → Int32
  | 0, _, _ => -4
  | u + 1, k, nx => if k ≠ 0 ∧ F k = F (k - 1) then naF F rk u (k + 1) nx else if nx = rk then F k else naF F rk u (k + 1) (nx + 1)
def prRe (P Q : Nat → Int32) (i j : Nat) : Int32 := P i * P j - Q i * Q j
def prIm (P Q : Nat → Int32) (i j : Nat) : Int32 := P i * Q j + Q i * P j
def appF (F : Nat → Int32) (z : Nat) : List Int32 → Nat → Int32
  | [] => F
  | v :: L => appF (upd F z v) (z + 1) L
theorem appF_snoc (v : Int32) : ∀ (L : List Int32) (F : Nat → Int32) (z : Nat), appF F z (L ++ [v]) = upd (appF F z L) (z + L.length) v
  | [], _, _ => rfl
  | w :: L, F, z => by
    show appF (upd F z w) (z + 1) (L ++ [v]) = upd (appF (upd F z w) (z + 1) L) (z + (L.length + 1)) v
    rw [appF_snoc v L (upd F z w) (z + 1), show z + 1 + L.length = z + (L.length + 1) by omega]
theorem appF_app : ∀ (L M : List Int32) (F : Nat → Int32) (z : Nat), appF F z (L ++ M) = appF (appF F z L) (z + L.length) M
  | [], _, _, _ => rfl
  | w :: L, M, F, z => by
    show appF (upd F z w) (z + 1) (L ++ M) = appF (appF (upd F z w) (z + 1) L) (z + (L.length + 1)) M
    rw [appF_app L M (upd F z w) (z + 1), show z + 1 + L.length = z + (L.length + 1) by omega]
/-- the norms that addAllFor adds: rows k, and m of the next one; w the order -/
def lnI (pi qi fx fy : Int32) (w : Nat) (x y : Int) : List Int32 := if x = 0 ∧ y = 0 then [] else [(fx - reI pi qi (iI x) (iI y)) * (fx - reI pi qi (iI x) (iI y)) + (fy - imI pi qi (iI x) (iI y)) * (fy - imI pi qi (iI x) (iI y))]
def lnRow (pi qi fx fy : Int32) (w : Nat) (x : Int) : Nat → List Int32
  | 0 => []
  | m + 1 => lnRow pi qi fx fy w x m ++ lnI pi qi fx fy w x ((m : Int) - w)
def lnAll (pi qi fx fy : Int32) (w : Nat) : Nat → List Int32
  | 0 => []
  | k + 1 => lnAll pi qi fx fy w k ++ lnRow pi qi fx fy w ((k : Int) - w) (2 * w + 1)
def lnLen (w k m : Nat) : Nat := k * (2 * w + 1) + m - (if w * (2 * w + 1) + w < k * (2 * w + 1) + m then 1 else 0)
end
section
set_option maxHeartbeats 4000000 in
set_option maxRecDepth 100000 in
theorem kX1_has (l : Launch) (X : XT) (h hp hq n : Nat) (P Q : Nat → Int32) (o f ll : Int32) (i : Int32) (hn : n ≤ 4) : KI l yX1_has wsX1_has ({ frames := 0, cells := 0, slots := 0, locals := 0 }) X [.ref h, .int i] [(h, .inr (1, [.ref hp, .ref hq, .int (nI n), .int o, .int f, .int ll])), (hp, .inl (X.2.1, 4, .inl (P))), (hq, .inl (X.2.1, 4, .inl (Q)))] [(h, .inr (1, [.ref hp, .ref hq, .int (nI n), .int o, .int f, .int ll])), (hp, .inl (X.2.1, 4, .inl (P))), (hq, .inl (X.2.1, 4, .inl (Q)))] (bI (hv n i)) := by
  refine k_ofI (cc := cX1_has) (own := RX1) (maxL := 2) (ret := (some .boolean)) (ls0 := [(0, .ref h), (1, .int i)]) (by decide) rfl rfl (Nat.le_of_ble_eq_true rfl) rfl ?_
  intro p e s m args below meth c A g C hr hlk
  refine s_iload_n C (pc := 0) dX1_has_0 rfl 1 rfl ?_
  refine s_if_lt C (pc := 1) (tgt := 21) dX1_has_1 (by decide) (fun c1 => ?_) (fun c1 => ?_)
  · skip
    refine s_iconst C (pc := 21) (v := 0) dX1_has_21 (by decide) ?_
    exact s_zret C (pc := 22) hr hlk [0, 1, 2] (by decide) (rfl) rfl ((bI_neg (fun hh => absurd c1 (Int32.not_lt.mpr hh.1))).symm) dX1_has_22
  · skip
    refine s_iload_n C (pc := 4) dX1_has_4 rfl 1 rfl ?_
    refine s_aload_n C (pc := 5) dX1_has_5 rfl 0 rfl ?_
    refine s_get C (pc := 6) (T := TX1) (N := 6) (fun _ h => (List.mem_cons_of_mem _ (List.mem_append_right _ h))) 0 rfl rfl 2 (by decide) (List.mem_of_getElem? (i := 1) rfl) rfl rfl dX1_has_6 ?_
    refine s_icmp_ge C (pc := 9) (tgt := 21) dX1_has_9 (by decide) (fun c9 => ?_) (fun c9 => ?_)
    · skip
      refine s_iconst C (pc := 21) (v := 0) dX1_has_21 (by decide) ?_
      exact s_zret C (pc := 22) hr hlk [0, 1, 2] (by decide) (rfl) rfl ((bI_neg (fun hh => absurd c9 (Int32.not_le.mpr hh.2))).symm) dX1_has_22
    · skip
      refine s_iload_n C (pc := 12) dX1_has_12 rfl 1 rfl ?_
      refine s_iconst C (pc := 13) (v := 4) dX1_has_13 (by decide) ?_
      refine s_icmp_ge C (pc := 14) (tgt := 21) dX1_has_14 (by decide) (fun c14 => ?_) (fun c14 => ?_)
      · skip
        refine s_iconst C (pc := 21) (v := 0) dX1_has_21 (by decide) ?_
        exact s_zret C (pc := 22) hr hlk [0, 1, 2] (by decide) (rfl) rfl ((bI_neg (fun hh => absurd (Int32.lt_of_lt_of_le hh.2 ((nI_leI (a := n) (b := 4) (by omega) (by omega)).mpr hn)) (Int32.not_lt.mpr c14))).symm) dX1_has_22
      · skip
        refine s_iconst C (pc := 17) (v := 1) dX1_has_17 (by decide) ?_
        refine s_goto C (pc := 18) (tgt := 22) dX1_has_18 (by decide) ?_
        exact s_zret C (pc := 22) hr hlk [0, 1, 2] (by decide) (rfl) rfl ((bI_pos ⟨Int32.not_lt.mp c1, Int32.not_le.mp c9⟩).symm) dX1_has_22

set_option maxHeartbeats 4000000 in
set_option maxRecDepth 100000 in
theorem kX1_pOf (l : Launch) (X : XT) (h hp hq n : Nat) (P Q : Nat → Int32) (o f ll : Int32) (k : Nat) (hk : k < n) (hn : n ≤ 4) : KI l yX1_pOf wsX1_pOf ({ frames := 1, cells := 0, slots := 0, locals := 21 }) X [.ref h, .int (nI k)] [(h, .inr (1, [.ref hp, .ref hq, .int (nI n), .int o, .int f, .int ll])), (hp, .inl (X.2.1, 4, .inl (P))), (hq, .inl (X.2.1, 4, .inl (Q)))] [(h, .inr (1, [.ref hp, .ref hq, .int (nI n), .int o, .int f, .int ll])), (hp, .inl (X.2.1, 4, .inl (P))), (hq, .inl (X.2.1, 4, .inl (Q)))] (P k) := by
  refine k_ofI (cc := cX1_pOf) (own := RX1) (maxL := 2) (ret := (some .int)) (ls0 := [(0, .ref h), (1, .int (nI k))]) (by decide) rfl rfl (Nat.le_of_ble_eq_true rfl) rfl ?_
  intro p e s m args below meth c A g C hr hlk
  refine s_aload_n C (pc := 0) dX1_pOf_0 rfl 0 rfl ?_
  refine s_iload_n C (pc := 1) dX1_pOf_1 rfl 1 rfl ?_
  refine s_calli C (pc := 2) (wr := []) (wc' := [(h, .inr (1, [.ref hp, .ref hq, .int (nI n), .int o, .int f, .int ll])), (hp, .inl (X.2.1, 4, .inl (P))), (hq, .inl (X.2.1, 4, .inl (Q)))]) (wn := [(h, .inr (1, [.ref hp, .ref hq, .int (nI n), .int o, .int f, .int ll])), (hp, .inl (X.2.1, 4, .inl (P))), (hq, .inl (X.2.1, 4, .inl (Q)))]) (r_V C (As := [.int (nI k)]) (rest := []) (kX1_has l X h hp hq n P Q o f ll (nI k) (by first | assumption | omega | decide)) (cwV 1 C.ts gX1_pOf_X1_has rfl rfl rfl (by decide +kernel) ⟨Nat.le_of_ble_eq_true rfl, Nat.le_of_ble_eq_true rfl⟩) (q0 := 0) rfl rfl [0, 1, 2] (by decide) rfl rfl (Nat.le_of_ble_eq_true rfl) rfl dX1_pOf_2 ⟨Nat.zero_le _, Nat.zero_le _⟩) [0, 1, 2] [] [0, 1, 2] rfl rfl (by decide) (by decide) (by decide) rfl ?_
  refine s_bif_eq C (pc := 5) (tgt := 17) dX1_pOf_5 (by decide) (fun h => absurd (hv_of (by omega) (by omega)) h) (fun c5 => ?_)
  refine s_aload_n C (pc := 8) dX1_pOf_8 rfl 0 rfl ?_
  refine s_get C (pc := 9) (T := TX1) (N := 6) (fun _ h => (List.mem_cons_of_mem _ (List.mem_append_right _ h))) 0 rfl rfl 0 (by decide) (List.mem_of_getElem? (i := 1) rfl) rfl rfl dX1_pOf_9 ?_
  refine s_iload_n C (pc := 12) dX1_pOf_12 rfl 1 rfl ?_
  refine s_iald C (pc := 13) 1 rfl k rfl (by omega) (by decide) dX1_pOf_13 ?_
  refine s_goto C (pc := 14) (tgt := 18) dX1_pOf_14 (by decide) ?_
  exact s_iret C (pc := 18) hr hlk [0, 1, 2] (by decide) (rfl) (rfl) dX1_pOf_18

set_option maxHeartbeats 4000000 in
set_option maxRecDepth 100000 in
theorem kX1_qOf (l : Launch) (X : XT) (h hp hq n : Nat) (P Q : Nat → Int32) (o f ll : Int32) (k : Nat) (hk : k < n) (hn : n ≤ 4) : KI l yX1_qOf wsX1_qOf ({ frames := 1, cells := 0, slots := 0, locals := 21 }) X [.ref h, .int (nI k)] [(h, .inr (1, [.ref hp, .ref hq, .int (nI n), .int o, .int f, .int ll])), (hp, .inl (X.2.1, 4, .inl (P))), (hq, .inl (X.2.1, 4, .inl (Q)))] [(h, .inr (1, [.ref hp, .ref hq, .int (nI n), .int o, .int f, .int ll])), (hp, .inl (X.2.1, 4, .inl (P))), (hq, .inl (X.2.1, 4, .inl (Q)))] (Q k) := by
  refine k_ofI (cc := cX1_qOf) (own := RX1) (maxL := 2) (ret := (some .int)) (ls0 := [(0, .ref h), (1, .int (nI k))]) (by decide) rfl rfl (Nat.le_of_ble_eq_true rfl) rfl ?_
  intro p e s m args below meth c A g C hr hlk
  refine s_aload_n C (pc := 0) dX1_qOf_0 rfl 0 rfl ?_
  refine s_iload_n C (pc := 1) dX1_qOf_1 rfl 1 rfl ?_
  refine s_calli C (pc := 2) (wr := []) (wc' := [(h, .inr (1, [.ref hp, .ref hq, .int (nI n), .int o, .int f, .int ll])), (hp, .inl (X.2.1, 4, .inl (P))), (hq, .inl (X.2.1, 4, .inl (Q)))]) (wn := [(h, .inr (1, [.ref hp, .ref hq, .int (nI n), .int o, .int f, .int ll])), (hp, .inl (X.2.1, 4, .inl (P))), (hq, .inl (X.2.1, 4, .inl (Q)))]) (r_V C (As := [.int (nI k)]) (rest := []) (kX1_has l X h hp hq n P Q o f ll (nI k) (by first | assumption | omega | decide)) (cwV 1 C.ts gX1_qOf_X1_has rfl rfl rfl (by decide +kernel) ⟨Nat.le_of_ble_eq_true rfl, Nat.le_of_ble_eq_true rfl⟩) (q0 := 0) rfl rfl [0, 1, 2] (by decide) rfl rfl (Nat.le_of_ble_eq_true rfl) rfl dX1_qOf_2 ⟨Nat.zero_le _, Nat.zero_le _⟩) [0, 1, 2] [] [0, 1, 2] rfl rfl (by decide) (by decide) (by decide) rfl ?_
  refine s_bif_eq C (pc := 5) (tgt := 17) dX1_qOf_5 (by decide) (fun h => absurd (hv_of (by omega) (by omega)) h) (fun c5 => ?_)
  refine s_aload_n C (pc := 8) dX1_qOf_8 rfl 0 rfl ?_
  refine s_get C (pc := 9) (T := TX1) (N := 6) (fun _ h => (List.mem_cons_of_mem _ (List.mem_append_right _ h))) 0 rfl rfl 1 (by decide) (List.mem_of_getElem? (i := 1) rfl) rfl rfl dX1_qOf_9 ?_
  refine s_iload_n C (pc := 12) dX1_qOf_12 rfl 1 rfl ?_
  refine s_iald C (pc := 13) 2 rfl k rfl (by omega) (by decide) dX1_qOf_13 ?_
  refine s_goto C (pc := 14) (tgt := 18) dX1_qOf_14 (by decide) ?_
  exact s_iret C (pc := 18) hr hlk [0, 1, 2] (by decide) (rfl) (rfl) dX1_qOf_18

set_option maxHeartbeats 4000000 in
set_option maxRecDepth 100000 in
theorem kX1_areaOf (l : Launch) (X : XT) (h hp hq n : Nat) (P Q : Nat → Int32) (o f ll : Int32) (k : Nat) (hk : k < n) (hn : n ≤ 4) : KI l yX1_areaOf wsX1_areaOf ({ frames := 2, cells := 0, slots := 0, locals := 42 }) X [.ref h, .int (nI k)] [(h, .inr (1, [.ref hp, .ref hq, .int (nI n), .int o, .int f, .int ll])), (hp, .inl (X.2.1, 4, .inl (P))), (hq, .inl (X.2.1, 4, .inl (Q)))] [(h, .inr (1, [.ref hp, .ref hq, .int (nI n), .int o, .int f, .int ll])), (hp, .inl (X.2.1, 4, .inl (P))), (hq, .inl (X.2.1, 4, .inl (Q)))] (ar P Q k) := by
  refine k_ofI (cc := cX1_areaOf) (own := RX1) (maxL := 2) (ret := (some .int)) (ls0 := [(0, .ref h), (1, .int (nI k))]) (by decide) rfl rfl (Nat.le_of_ble_eq_true rfl) rfl ?_
  intro p e s m args below meth c A g C hr hlk
  refine s_aload_n C (pc := 0) dX1_areaOf_0 rfl 0 rfl ?_
  refine s_iload_n C (pc := 1) dX1_areaOf_1 rfl 1 rfl ?_
  refine s_calli C (pc := 2) (wr := []) (wc' := [(h, .inr (1, [.ref hp, .ref hq, .int (nI n), .int o, .int f, .int ll])), (hp, .inl (X.2.1, 4, .inl (P))), (hq, .inl (X.2.1, 4, .inl (Q)))]) (wn := [(h, .inr (1, [.ref hp, .ref hq, .int (nI n), .int o, .int f, .int ll])), (hp, .inl (X.2.1, 4, .inl (P))), (hq, .inl (X.2.1, 4, .inl (Q)))]) (r_V C (As := [.int (nI k)]) (rest := []) (kX1_pOf l X h hp hq n P Q o f ll k (by first | assumption | omega | decide) (by first | assumption | omega | decide)) (cwV 1 C.ts gX1_areaOf_X1_pOf rfl rfl rfl (by decide +kernel) ⟨Nat.le_of_ble_eq_true rfl, Nat.le_of_ble_eq_true rfl⟩) (q0 := 0) rfl rfl [0, 1, 2] (by decide) rfl rfl (Nat.le_of_ble_eq_true rfl) rfl dX1_areaOf_2 ⟨Nat.zero_le _, Nat.zero_le _⟩) [0, 1, 2] [] [0, 1, 2] rfl rfl (by decide) (by decide) (by decide) rfl ?_
  refine s_aload_n C (pc := 5) dX1_areaOf_5 rfl 0 rfl ?_
  refine s_iload_n C (pc := 6) dX1_areaOf_6 rfl 1 rfl ?_
  refine s_calli C (pc := 7) (wr := []) (wc' := [(h, .inr (1, [.ref hp, .ref hq, .int (nI n), .int o, .int f, .int ll])), (hp, .inl (X.2.1, 4, .inl (P))), (hq, .inl (X.2.1, 4, .inl (Q)))]) (wn := [(h, .inr (1, [.ref hp, .ref hq, .int (nI n), .int o, .int f, .int ll])), (hp, .inl (X.2.1, 4, .inl (P))), (hq, .inl (X.2.1, 4, .inl (Q)))]) (r_V C (As := [.int (nI k)]) (rest := [.int (P k)]) (kX1_pOf l X h hp hq n P Q o f ll k (by first | assumption | omega | decide) (by first | assumption | omega | decide)) (cwV 1 C.ts gX1_areaOf_X1_pOf rfl rfl rfl (by decide +kernel) ⟨Nat.le_of_ble_eq_true rfl, Nat.le_of_ble_eq_true rfl⟩) (q0 := 0) rfl rfl [0, 1, 2] (by decide) rfl rfl (Nat.le_of_ble_eq_true rfl) rfl dX1_areaOf_7 ⟨Nat.zero_le _, Nat.zero_le _⟩) [0, 1, 2] [] [0, 1, 2] rfl rfl (by decide) (by decide) (by decide) rfl ?_
  refine s_imul C (pc := 10) dX1_areaOf_10 ?_
  refine s_aload_n C (pc := 11) dX1_areaOf_11 rfl 0 rfl ?_
  refine s_iload_n C (pc := 12) dX1_areaOf_12 rfl 1 rfl ?_
  refine s_calli C (pc := 13) (wr := []) (wc' := [(h, .inr (1, [.ref hp, .ref hq, .int (nI n), .int o, .int f, .int ll])), (hp, .inl (X.2.1, 4, .inl (P))), (hq, .inl (X.2.1, 4, .inl (Q)))]) (wn := [(h, .inr (1, [.ref hp, .ref hq, .int (nI n), .int o, .int f, .int ll])), (hp, .inl (X.2.1, 4, .inl (P))), (hq, .inl (X.2.1, 4, .inl (Q)))]) (r_V C (As := [.int (nI k)]) (rest := [.int ((P k) * (P k))]) (kX1_qOf l X h hp hq n P Q o f ll k (by first | assumption | omega | decide) (by first | assumption | omega | decide)) (cwV 1 C.ts gX1_areaOf_X1_qOf rfl rfl rfl (by decide +kernel) ⟨Nat.le_of_ble_eq_true rfl, Nat.le_of_ble_eq_true rfl⟩) (q0 := 0) rfl rfl [0, 1, 2] (by decide) rfl rfl (Nat.le_of_ble_eq_true rfl) rfl dX1_areaOf_13 ⟨Nat.zero_le _, Nat.zero_le _⟩) [0, 1, 2] [] [0, 1, 2] rfl rfl (by decide) (by decide) (by decide) rfl ?_
  refine s_aload_n C (pc := 16) dX1_areaOf_16 rfl 0 rfl ?_
  refine s_iload_n C (pc := 17) dX1_areaOf_17 rfl 1 rfl ?_
  refine s_calli C (pc := 18) (wr := []) (wc' := [(h, .inr (1, [.ref hp, .ref hq, .int (nI n), .int o, .int f, .int ll])), (hp, .inl (X.2.1, 4, .inl (P))), (hq, .inl (X.2.1, 4, .inl (Q)))]) (wn := [(h, .inr (1, [.ref hp, .ref hq, .int (nI n), .int o, .int f, .int ll])), (hp, .inl (X.2.1, 4, .inl (P))), (hq, .inl (X.2.1, 4, .inl (Q)))]) (r_V C (As := [.int (nI k)]) (rest := [.int (Q k), .int ((P k) * (P k))]) (kX1_qOf l X h hp hq n P Q o f ll k (by first | assumption | omega | decide) (by first | assumption | omega | decide)) (cwV 1 C.ts gX1_areaOf_X1_qOf rfl rfl rfl (by decide +kernel) ⟨Nat.le_of_ble_eq_true rfl, Nat.le_of_ble_eq_true rfl⟩) (q0 := 0) rfl rfl [0, 1, 2] (by decide) rfl rfl (Nat.le_of_ble_eq_true rfl) rfl dX1_areaOf_18 ⟨Nat.zero_le _, Nat.zero_le _⟩) [0, 1, 2] [] [0, 1, 2] rfl rfl (by decide) (by decide) (by decide) rfl ?_
  refine s_imul C (pc := 21) dX1_areaOf_21 ?_
  refine s_iadd C (pc := 22) dX1_areaOf_22 ?_
  exact s_iret C (pc := 23) hr hlk [0, 1, 2] (by decide) (rfl) (rfl) dX1_areaOf_23

set_option maxHeartbeats 4000000 in
set_option maxRecDepth 100000 in
theorem kX1_put (l : Launch) (X : XT) (h hp hq n : Nat) (P Q : Nat → Int32) (o f ll : Int32) (k : Nat) (x y : Int32) (hk : k < n) (hn : n ≤ 4) : KV l yX1_put wsX1_put ({ frames := 1, cells := 0, slots := 0, locals := 21 }) X [.ref h, .int (nI k), .int x, .int y] [(h, .inr (1, [.ref hp, .ref hq, .int (nI n), .int o, .int f, .int ll])), (hp, .inl (X.2.1, 4, .inl (P))), (hq, .inl (X.2.1, 4, .inl (Q)))] [(h, .inr (1, [.ref hp, .ref hq, .int (nI n), .int o, .int f, .int ll])), (hp, .inl (X.2.1, 4, .inl (upd P k x))), (hq, .inl (X.2.1, 4, .inl (upd Q k y)))] := by
  refine k_ofV (cc := cX1_put) (own := RX1) (maxL := 4) (ret := none) (ls0 := [(0, .ref h), (1, .int (nI k)), (2, .int x), (3, .int y)]) (by decide) rfl rfl (Nat.le_of_ble_eq_true rfl) rfl ?_
  intro p e s m args below meth c A g C hr hlk
  refine s_aload_n C (pc := 0) dX1_put_0 rfl 0 rfl ?_
  refine s_iload_n C (pc := 1) dX1_put_1 rfl 1 rfl ?_
  refine s_calli C (pc := 2) (wr := []) (wc' := [(h, .inr (1, [.ref hp, .ref hq, .int (nI n), .int o, .int f, .int ll])), (hp, .inl (X.2.1, 4, .inl (P))), (hq, .inl (X.2.1, 4, .inl (Q)))]) (wn := [(h, .inr (1, [.ref hp, .ref hq, .int (nI n), .int o, .int f, .int ll])), (hp, .inl (X.2.1, 4, .inl (P))), (hq, .inl (X.2.1, 4, .inl (Q)))]) (r_V C (As := [.int (nI k)]) (rest := []) (kX1_has l X h hp hq n P Q o f ll (nI k) (by first | assumption | omega | decide)) (cwV 1 C.ts gX1_put_X1_has rfl rfl rfl (by decide +kernel) ⟨Nat.le_of_ble_eq_true rfl, Nat.le_of_ble_eq_true rfl⟩) (q0 := 0) rfl rfl [0, 1, 2] (by decide) rfl rfl (Nat.le_of_ble_eq_true rfl) rfl dX1_put_2 ⟨Nat.zero_le _, Nat.zero_le _⟩) [0, 1, 2] [] [0, 1, 2] rfl rfl (by decide) (by decide) (by decide) rfl ?_
  refine s_bif_eq C (pc := 5) (tgt := 22) dX1_put_5 (by decide) (fun h => absurd (hv_of (by omega) (by omega)) h) (fun c5 => ?_)
  refine s_aload_n C (pc := 8) dX1_put_8 rfl 0 rfl ?_
  refine s_get C (pc := 9) (T := TX1) (N := 6) (fun _ h => (List.mem_cons_of_mem _ (List.mem_append_right _ h))) 0 rfl rfl 0 (by decide) (List.mem_of_getElem? (i := 1) rfl) rfl rfl dX1_put_9 ?_
  refine s_iload_n C (pc := 12) dX1_put_12 rfl 1 rfl ?_
  refine s_iload_n C (pc := 13) dX1_put_13 rfl 2 rfl ?_
  refine s_iast C (pc := 14) (ws' := [(h, .inr (1, [.ref hp, .ref hq, .int (nI n), .int o, .int f, .int ll])), (hp, .inl (X.2.1, 4, .inl (upd P k x))), (hq, .inl (X.2.1, 4, .inl (Q)))]) 1 rfl k rfl (by omega) (by decide) rfl dX1_put_14 ?_
  refine s_aload_n C (pc := 15) dX1_put_15 rfl 0 rfl ?_
  refine s_get C (pc := 16) (T := TX1) (N := 6) (fun _ h => (List.mem_cons_of_mem _ (List.mem_append_right _ h))) 0 rfl rfl 1 (by decide) (List.mem_of_getElem? (i := 2) rfl) rfl rfl dX1_put_16 ?_
  refine s_iload_n C (pc := 19) dX1_put_19 rfl 1 rfl ?_
  refine s_iload_n C (pc := 20) dX1_put_20 rfl 3 rfl ?_
  refine s_iast C (pc := 21) (ws' := [(h, .inr (1, [.ref hp, .ref hq, .int (nI n), .int o, .int f, .int ll])), (hp, .inl (X.2.1, 4, .inl (upd P k x))), (hq, .inl (X.2.1, 4, .inl (upd Q k y)))]) 2 rfl k rfl (by omega) (by decide) rfl dX1_put_21 ?_
  exact s_vret C (pc := 22) hr hlk [0, 1, 2] (by decide) (rfl) dX1_put_22

set_option maxHeartbeats 4000000 in
set_option maxRecDepth 100000 in
theorem kX1_append (l : Launch) (X : XT) (h hp hq n : Nat) (P Q : Nat → Int32) (o f ll : Int32) (x y : Int32) (hn : n < 4) : KV l yX1_append wsX1_append ({ frames := 2, cells := 0, slots := 0, locals := 44 }) X [.ref h, .int x, .int y] [(h, .inr (1, [.ref hp, .ref hq, .int (nI n), .int o, .int f, .int ll])), (hp, .inl (X.2.1, 4, .inl (P))), (hq, .inl (X.2.1, 4, .inl (Q)))] [(h, .inr (1, [.ref hp, .ref hq, .int (nI (n + 1)), .int o, .int f, .int ll])), (hp, .inl (X.2.1, 4, .inl (upd P n x))), (hq, .inl (X.2.1, 4, .inl (upd Q n y)))] := by
  refine k_ofV (cc := cX1_append) (own := RX1) (maxL := 3) (ret := none) (ls0 := [(0, .ref h), (1, .int x), (2, .int y)]) (by decide) rfl rfl (Nat.le_of_ble_eq_true rfl) rfl ?_
  intro p e s m args below meth c A g C hr hlk
  refine s_aload_n C (pc := 0) dX1_append_0 rfl 0 rfl ?_
  refine s_get C (pc := 1) (T := TX1) (N := 6) (fun _ h => (List.mem_cons_of_mem _ (List.mem_append_right _ h))) 0 rfl rfl 2 (by decide) (List.mem_of_getElem? (i := 1) rfl) rfl rfl dX1_append_1 ?_
  refine s_iconst C (pc := 4) (v := 4) dX1_append_4 (by decide) ?_
  refine s_icmp_ge C (pc := 5) (tgt := 30) dX1_append_5 (by decide) (fun h => absurd h (fun h2 => absurd (nat_le (a := 4) (b := n) (by omega) (by omega) h2) (by omega))) (fun c5 => ?_)
  refine s_aload_n C (pc := 8) dX1_append_8 rfl 0 rfl ?_
  refine s_dup C (pc := 9) dX1_append_9 rfl ?_
  refine s_get C (pc := 10) (T := TX1) (N := 6) (fun _ h => (List.mem_cons_of_mem _ (List.mem_append_right _ h))) 0 rfl rfl 2 (by decide) (List.mem_of_getElem? (i := 1) rfl) rfl rfl dX1_append_10 ?_
  refine s_iconst C (pc := 13) (v := 1) dX1_append_13 (by decide) ?_
  refine s_iadd C (pc := 14) dX1_append_14 ?_
  refine s_top C (y := nI (n + 1)) (nI_add _ _) ?_
  refine s_put C (pc := 15) (T := TX1) (N := 6) (ws' := [(h, .inr (1, [.ref hp, .ref hq, .int (nI (n + 1)), .int o, .int f, .int ll])), (hp, .inl (X.2.1, 4, .inl (P))), (hq, .inl (X.2.1, 4, .inl (Q)))]) (fun _ h => (List.mem_cons_of_mem _ (List.mem_append_right _ h))) 0 rfl rfl tyX1 tyX1_ok nmX1 2 (by decide) (List.mem_of_getElem? (i := 1) rfl) rfl rfl rfl rfl (Nat.le_of_ble_eq_true rfl) rfl dX1_append_15 ?_
  refine s_aload_n C (pc := 18) dX1_append_18 rfl 0 rfl ?_
  refine s_aload_n C (pc := 19) dX1_append_19 rfl 0 rfl ?_
  refine s_get C (pc := 20) (T := TX1) (N := 6) (fun _ h => (List.mem_cons_of_mem _ (List.mem_append_right _ h))) 0 rfl rfl 2 (by decide) (List.mem_of_getElem? (i := 1) rfl) rfl rfl dX1_append_20 ?_
  refine s_iconst C (pc := 23) (v := 1) dX1_append_23 (by decide) ?_
  refine s_isub C (pc := 24) dX1_append_24 ?_
  refine s_top C (y := nI n) (nI_pred _) ?_
  refine s_iload_n C (pc := 25) dX1_append_25 rfl 1 rfl ?_
  refine s_iload_n C (pc := 26) dX1_append_26 rfl 2 rfl ?_
  refine s_callv C (pc := 27) (wr := []) (wc' := [(h, .inr (1, [.ref hp, .ref hq, .int (nI (n + 1)), .int o, .int f, .int ll])), (hp, .inl (X.2.1, 4, .inl (upd P n x))), (hq, .inl (X.2.1, 4, .inl (upd Q n y)))]) (wn := [(h, .inr (1, [.ref hp, .ref hq, .int (nI (n + 1)), .int o, .int f, .int ll])), (hp, .inl (X.2.1, 4, .inl (upd P n x))), (hq, .inl (X.2.1, 4, .inl (upd Q n y)))]) (r_V C (As := [.int (nI n), .int x, .int y]) (rest := []) (kX1_put l X h hp hq (n + 1) P Q o f ll n x y (by first | assumption | omega | decide) (by first | assumption | omega | decide)) (cwV 3 C.ts gX1_append_X1_put rfl rfl rfl (by decide +kernel) ⟨Nat.le_of_ble_eq_true rfl, Nat.le_of_ble_eq_true rfl⟩) (q0 := 0) rfl rfl [0, 1, 2] (by decide) rfl rfl (Nat.le_of_ble_eq_true rfl) rfl dX1_append_27 ⟨Nat.zero_le _, Nat.zero_le _⟩) [0, 1, 2] [] [0, 1, 2] rfl rfl (by decide) (by decide) (by decide) rfl ?_
  exact s_vret C (pc := 30) hr hlk [0, 1, 2] (by decide) (rfl) dX1_append_30

set_option maxHeartbeats 4000000 in
set_option maxRecDepth 100000 in
theorem kX1_drop (l : Launch) (X : XT) (h hp hq n : Nat) (P Q : Nat → Int32) (o f ll : Int32) (k : Nat) (hk : k ≤ n) (hn : n < 4) : KV l yX1_drop wsX1_drop ({ frames := 2, cells := 0, slots := 0, locals := 44 }) X [.ref h, .int (nI k)] [(h, .inr (1, [.ref hp, .ref hq, .int (nI (n + 1)), .int o, .int f, .int ll])), (hp, .inl (X.2.1, 4, .inl (P))), (hq, .inl (X.2.1, 4, .inl (Q)))] [(h, .inr (1, [.ref hp, .ref hq, .int (nI n), .int o, .int f, .int ll])), (hp, .inl (X.2.1, 4, .inl (shR P k (n - k)))), (hq, .inl (X.2.1, 4, .inl (shR Q k (n - k))))] := by
  refine k_ofV (cc := cX1_drop) (own := RX1) (maxL := 3) (ret := none) (ls0 := [(0, .ref h), (1, .int (nI k))]) (by decide) rfl rfl (Nat.le_of_ble_eq_true rfl) rfl ?_
  intro p e s m args below meth c A g C hr hlk
  refine s_aload_n C (pc := 0) dX1_drop_0 rfl 0 rfl ?_
  refine s_iload_n C (pc := 1) dX1_drop_1 rfl 1 rfl ?_
  refine s_calli C (pc := 2) (wr := []) (wc' := [(h, .inr (1, [.ref hp, .ref hq, .int (nI (n + 1)), .int o, .int f, .int ll])), (hp, .inl (X.2.1, 4, .inl (P))), (hq, .inl (X.2.1, 4, .inl (Q)))]) (wn := [(h, .inr (1, [.ref hp, .ref hq, .int (nI (n + 1)), .int o, .int f, .int ll])), (hp, .inl (X.2.1, 4, .inl (P))), (hq, .inl (X.2.1, 4, .inl (Q)))]) (r_V C (As := [.int (nI k)]) (rest := []) (kX1_has l X h hp hq (n + 1) P Q o f ll (nI k) (by first | assumption | omega | decide)) (cwV 1 C.ts gX1_drop_X1_has rfl rfl rfl (by decide +kernel) ⟨Nat.le_of_ble_eq_true rfl, Nat.le_of_ble_eq_true rfl⟩) (q0 := 0) rfl rfl [0, 1, 2] (by decide) rfl rfl (Nat.le_of_ble_eq_true rfl) rfl dX1_drop_2 ⟨Nat.zero_le _, Nat.zero_le _⟩) [0, 1, 2] [] [0, 1, 2] rfl rfl (by decide) (by decide) (by decide) rfl ?_
  refine s_bif_eq C (pc := 5) (tgt := 55) dX1_drop_5 (by decide) (fun h => absurd (hv_of (by omega) (by omega)) h) (fun c5 => ?_)
  refine s_iload_n C (pc := 8) dX1_drop_8 rfl 1 rfl ?_
  refine s_istore_n C (pc := 9) (ls' := [(2, .int (nI k)), (0, .ref h), (1, .int (nI k))]) dX1_drop_9 rfl (by decide) rfl ?_
  have L10 : ∀ (n_ : Nat) (d : Nat), (d ≤ n - k) → n - k + 1 ≤ d + n_ → g [(h, .inr (1, [.ref hp, .ref hq, .int (nI (n + 1)), .int o, .int f, .int ll])), (hp, .inl (X.2.1, 4, .inl ((shR P k d)))), (hq, .inl (X.2.1, 4, .inl ((shR Q k d))))] 10 [(0, .ref h), (1, .int (nI k)), (2, .int (nI (k + d)))] [] := by
    intro n_
    induction n_ with
    | zero =>
      intro d hd hf
      exact absurd hf (by omega)
    | succ n_ ih10 =>
      intro d hd hf10
      refine s_iload_n C (pc := 10) dX1_drop_10 rfl 2 rfl ?_
      refine s_aload_n C (pc := 11) dX1_drop_11 rfl 0 rfl ?_
      refine s_get C (pc := 12) (T := TX1) (N := 6) (fun _ h => (List.mem_cons_of_mem _ (List.mem_append_right _ h))) 0 rfl rfl 2 (by decide) (List.mem_of_getElem? (i := 1) rfl) rfl rfl dX1_drop_12 ?_
      refine s_iconst C (pc := 15) (v := 1) dX1_drop_15 (by decide) ?_
      refine s_isub C (pc := 16) dX1_drop_16 ?_
      refine s_top C (y := nI n) (nI_pred _) ?_
      refine s_icmp_ge C (pc := 17) (tgt := 45) dX1_drop_17 (by decide) (fun c17 => ?_) (fun c17 => ?_)
      · skip
        have e17 := nat_le (a := n) (b := (k + d)) (by omega) (by omega) c17
        have hs0 : n - k = d := by omega
        subst hs0
        refine s_aload_n C (pc := 45) dX1_drop_45 rfl 0 rfl ?_
        refine s_dup C (pc := 46) dX1_drop_46 rfl ?_
        refine s_get C (pc := 47) (T := TX1) (N := 6) (fun _ h => (List.mem_cons_of_mem _ (List.mem_append_right _ h))) 0 rfl rfl 2 (by decide) (List.mem_of_getElem? (i := 1) rfl) rfl rfl dX1_drop_47 ?_
        refine s_iconst C (pc := 50) (v := 1) dX1_drop_50 (by decide) ?_
        refine s_isub C (pc := 51) dX1_drop_51 ?_
        refine s_top C (y := nI n) (nI_pred _) ?_
        refine s_put C (pc := 52) (T := TX1) (N := 6) (ws' := [(h, .inr (1, [.ref hp, .ref hq, .int (nI n), .int o, .int f, .int ll])), (hp, .inl (X.2.1, 4, .inl ((shR P k (n - k))))), (hq, .inl (X.2.1, 4, .inl ((shR Q k (n - k)))))]) (fun _ h => (List.mem_cons_of_mem _ (List.mem_append_right _ h))) 0 rfl rfl tyX1 tyX1_ok nmX1 2 (by decide) (List.mem_of_getElem? (i := 1) rfl) rfl rfl rfl rfl (Nat.le_of_ble_eq_true rfl) rfl dX1_drop_52 ?_
        exact s_vret C (pc := 55) hr hlk [0, 1, 2] (by decide) (rfl) dX1_drop_55
      · skip
        have e17 := nat_nle (a := n) (b := (k + d)) (by omega) (by omega) c17
        refine s_aload_n C (pc := 20) dX1_drop_20 rfl 0 rfl ?_
        refine s_iload_n C (pc := 21) dX1_drop_21 rfl 2 rfl ?_
        refine s_aload_n C (pc := 22) dX1_drop_22 rfl 0 rfl ?_
        refine s_iload_n C (pc := 23) dX1_drop_23 rfl 2 rfl ?_
        refine s_iconst C (pc := 24) (v := 1) dX1_drop_24 (by decide) ?_
        refine s_iadd C (pc := 25) dX1_drop_25 ?_
        refine s_top C (y := nI ((k + d) + 1)) (nI_add _ _) ?_
        refine s_calli C (pc := 26) (wr := []) (wc' := [(h, .inr (1, [.ref hp, .ref hq, .int (nI (n + 1)), .int o, .int f, .int ll])), (hp, .inl (X.2.1, 4, .inl ((shR P k d)))), (hq, .inl (X.2.1, 4, .inl ((shR Q k d))))]) (wn := [(h, .inr (1, [.ref hp, .ref hq, .int (nI (n + 1)), .int o, .int f, .int ll])), (hp, .inl (X.2.1, 4, .inl ((shR P k d)))), (hq, .inl (X.2.1, 4, .inl ((shR Q k d))))]) (r_V C (As := [.int (nI ((k + d) + 1))]) (rest := [.int (nI (k + d)), .ref h]) (kX1_pOf l X h hp hq (n + 1) (shR P k d) (shR Q k d) o f ll ((k + d) + 1) (by first | assumption | omega | decide) (by first | assumption | omega | decide)) (cwV 1 C.ts gX1_drop_X1_pOf rfl rfl rfl (by decide +kernel) ⟨Nat.le_of_ble_eq_true rfl, Nat.le_of_ble_eq_true rfl⟩) (q0 := 0) rfl rfl [0, 1, 2] (by decide) rfl rfl (Nat.le_of_ble_eq_true rfl) rfl dX1_drop_26 ⟨Nat.zero_le _, Nat.zero_le _⟩) [0, 1, 2] [] [0, 1, 2] rfl rfl (by decide) (by decide) (by decide) rfl ?_
        refine s_aload_n C (pc := 29) dX1_drop_29 rfl 0 rfl ?_
        refine s_iload_n C (pc := 30) dX1_drop_30 rfl 2 rfl ?_
        refine s_iconst C (pc := 31) (v := 1) dX1_drop_31 (by decide) ?_
        refine s_iadd C (pc := 32) dX1_drop_32 ?_
        refine s_top C (y := nI ((k + d) + 1)) (nI_add _ _) ?_
        refine s_calli C (pc := 33) (wr := []) (wc' := [(h, .inr (1, [.ref hp, .ref hq, .int (nI (n + 1)), .int o, .int f, .int ll])), (hp, .inl (X.2.1, 4, .inl ((shR P k d)))), (hq, .inl (X.2.1, 4, .inl ((shR Q k d))))]) (wn := [(h, .inr (1, [.ref hp, .ref hq, .int (nI (n + 1)), .int o, .int f, .int ll])), (hp, .inl (X.2.1, 4, .inl ((shR P k d)))), (hq, .inl (X.2.1, 4, .inl ((shR Q k d))))]) (r_V C (As := [.int (nI ((k + d) + 1))]) (rest := [.int ((shR P k d) ((k + d) + 1)), .int (nI (k + d)), .ref h]) (kX1_qOf l X h hp hq (n + 1) (shR P k d) (shR Q k d) o f ll ((k + d) + 1) (by first | assumption | omega | decide) (by first | assumption | omega | decide)) (cwV 1 C.ts gX1_drop_X1_qOf rfl rfl rfl (by decide +kernel) ⟨Nat.le_of_ble_eq_true rfl, Nat.le_of_ble_eq_true rfl⟩) (q0 := 0) rfl rfl [0, 1, 2] (by decide) rfl rfl (Nat.le_of_ble_eq_true rfl) rfl dX1_drop_33 ⟨Nat.zero_le _, Nat.zero_le _⟩) [0, 1, 2] [] [0, 1, 2] rfl rfl (by decide) (by decide) (by decide) rfl ?_
        refine s_callv C (pc := 36) (wr := []) (wc' := [(h, .inr (1, [.ref hp, .ref hq, .int (nI (n + 1)), .int o, .int f, .int ll])), (hp, .inl (X.2.1, 4, .inl (upd (shR P k d) (k + d) ((shR P k d) ((k + d) + 1))))), (hq, .inl (X.2.1, 4, .inl (upd (shR Q k d) (k + d) ((shR Q k d) ((k + d) + 1)))))]) (wn := [(h, .inr (1, [.ref hp, .ref hq, .int (nI (n + 1)), .int o, .int f, .int ll])), (hp, .inl (X.2.1, 4, .inl (upd (shR P k d) (k + d) ((shR P k d) ((k + d) + 1))))), (hq, .inl (X.2.1, 4, .inl (upd (shR Q k d) (k + d) ((shR Q k d) ((k + d) + 1)))))]) (r_V C (As := [.int (nI (k + d)), .int ((shR P k d) ((k + d) + 1)), .int ((shR Q k d) ((k + d) + 1))]) (rest := []) (kX1_put l X h hp hq (n + 1) (shR P k d) (shR Q k d) o f ll (k + d) ((shR P k d) ((k + d) + 1)) ((shR Q k d) ((k + d) + 1)) (by first | assumption | omega | decide) (by first | assumption | omega | decide)) (cwV 3 C.ts gX1_drop_X1_put rfl rfl rfl (by decide +kernel) ⟨Nat.le_of_ble_eq_true rfl, Nat.le_of_ble_eq_true rfl⟩) (q0 := 0) rfl rfl [0, 1, 2] (by decide) rfl rfl (Nat.le_of_ble_eq_true rfl) rfl dX1_drop_36 ⟨Nat.zero_le _, Nat.zero_le _⟩) [0, 1, 2] [] [0, 1, 2] rfl rfl (by decide) (by decide) (by decide) rfl ?_
        refine s_iinc C (pc := 39) (v := nI ((k + d) + 1)) (ls' := [(2, .int (nI ((k + d) + 1))), (0, .ref h), (1, .int (nI k))]) dX1_drop_39 2 rfl (nI_1 _) (by decide) rfl ?_
        refine s_goto C (pc := 42) (tgt := 10) dX1_drop_42 (by decide) ?_
        refine s_loc C (ls' := [(0, .ref h), (1, .int (nI k)), (2, .int (nI ((k + d) + 1)))]) [1, 2, 0] rfl ?_
        exact ih10 (d + 1) (by omega) (by omega)
  refine s_loc C (ls' := [(0, .ref h), (1, .int (nI k)), (2, .int (nI k))]) [1, 2, 0] rfl ?_
  exact L10 (n - k + 1) 0 (Nat.zero_le _) (by omega)

set_option maxHeartbeats 4000000 in
set_option maxRecDepth 100000 in
theorem kX1_hasPair (l : Launch) (X : XT) (h hp hq n : Nat) (P Q : Nat → Int32) (o f ll : Int32) (i j : Int32) (hn : n ≤ 4) : KI l yX1_hasPair wsX1_hasPair ({ frames := 1, cells := 0, slots := 0, locals := 21 }) X [.ref h, .int i, .int j] [(h, .inr (1, [.ref hp, .ref hq, .int (nI n), .int o, .int f, .int ll])), (hp, .inl (X.2.1, 4, .inl (P))), (hq, .inl (X.2.1, 4, .inl (Q)))] [(h, .inr (1, [.ref hp, .ref hq, .int (nI n), .int o, .int f, .int ll])), (hp, .inl (X.2.1, 4, .inl (P))), (hq, .inl (X.2.1, 4, .inl (Q)))] (bI (hv n i ∧ hv n j ∧ i < j)) := by
  refine k_ofI (cc := cX1_hasPair) (own := RX1) (maxL := 3) (ret := (some .boolean)) (ls0 := [(0, .ref h), (1, .int i), (2, .int j)]) (by decide) rfl rfl (Nat.le_of_ble_eq_true rfl) rfl ?_
  intro p e s m args below meth c A g C hr hlk
  refine s_aload_n C (pc := 0) dX1_hasPair_0 rfl 0 rfl ?_
  refine s_iload_n C (pc := 1) dX1_hasPair_1 rfl 1 rfl ?_
  refine s_calli C (pc := 2) (wr := []) (wc' := [(h, .inr (1, [.ref hp, .ref hq, .int (nI n), .int o, .int f, .int ll])), (hp, .inl (X.2.1, 4, .inl (P))), (hq, .inl (X.2.1, 4, .inl (Q)))]) (wn := [(h, .inr (1, [.ref hp, .ref hq, .int (nI n), .int o, .int f, .int ll])), (hp, .inl (X.2.1, 4, .inl (P))), (hq, .inl (X.2.1, 4, .inl (Q)))]) (r_V C (As := [.int i]) (rest := []) (kX1_has l X h hp hq n P Q o f ll i (by first | assumption | omega | decide)) (cwV 1 C.ts gX1_hasPair_X1_has rfl rfl rfl (by decide +kernel) ⟨Nat.le_of_ble_eq_true rfl, Nat.le_of_ble_eq_true rfl⟩) (q0 := 0) rfl rfl [0, 1, 2] (by decide) rfl rfl (Nat.le_of_ble_eq_true rfl) rfl dX1_hasPair_2 ⟨Nat.zero_le _, Nat.zero_le _⟩) [0, 1, 2] [] [0, 1, 2] rfl rfl (by decide) (by decide) (by decide) rfl ?_
  refine s_bif_eq C (pc := 5) (tgt := 25) dX1_hasPair_5 (by decide) (fun c5 => ?_) (fun c5 => ?_)
  · skip
    refine s_iconst C (pc := 25) (v := 0) dX1_hasPair_25 (by decide) ?_
    exact s_zret C (pc := 26) hr hlk [0, 1, 2] (by decide) (rfl) rfl ((bI_neg (fun hh => (c5) (hh.1))).symm) dX1_hasPair_26
  · skip
    refine s_aload_n C (pc := 8) dX1_hasPair_8 rfl 0 rfl ?_
    refine s_iload_n C (pc := 9) dX1_hasPair_9 rfl 2 rfl ?_
    refine s_calli C (pc := 10) (wr := []) (wc' := [(h, .inr (1, [.ref hp, .ref hq, .int (nI n), .int o, .int f, .int ll])), (hp, .inl (X.2.1, 4, .inl (P))), (hq, .inl (X.2.1, 4, .inl (Q)))]) (wn := [(h, .inr (1, [.ref hp, .ref hq, .int (nI n), .int o, .int f, .int ll])), (hp, .inl (X.2.1, 4, .inl (P))), (hq, .inl (X.2.1, 4, .inl (Q)))]) (r_V C (As := [.int j]) (rest := []) (kX1_has l X h hp hq n P Q o f ll j (by first | assumption | omega | decide)) (cwV 1 C.ts gX1_hasPair_X1_has rfl rfl rfl (by decide +kernel) ⟨Nat.le_of_ble_eq_true rfl, Nat.le_of_ble_eq_true rfl⟩) (q0 := 0) rfl rfl [0, 1, 2] (by decide) rfl rfl (Nat.le_of_ble_eq_true rfl) rfl dX1_hasPair_10 ⟨Nat.zero_le _, Nat.zero_le _⟩) [0, 1, 2] [] [0, 1, 2] rfl rfl (by decide) (by decide) (by decide) rfl ?_
    refine s_bif_eq C (pc := 13) (tgt := 25) dX1_hasPair_13 (by decide) (fun c13 => ?_) (fun c13 => ?_)
    · skip
      refine s_iconst C (pc := 25) (v := 0) dX1_hasPair_25 (by decide) ?_
      exact s_zret C (pc := 26) hr hlk [0, 1, 2] (by decide) (rfl) rfl ((bI_neg (fun hh => (c13) (hh.2.1))).symm) dX1_hasPair_26
    · skip
      refine s_iload_n C (pc := 16) dX1_hasPair_16 rfl 1 rfl ?_
      refine s_iload_n C (pc := 17) dX1_hasPair_17 rfl 2 rfl ?_
      refine s_icmp_ge C (pc := 18) (tgt := 25) dX1_hasPair_18 (by decide) (fun c18 => ?_) (fun c18 => ?_)
      · skip
        refine s_iconst C (pc := 25) (v := 0) dX1_hasPair_25 (by decide) ?_
        exact s_zret C (pc := 26) hr hlk [0, 1, 2] (by decide) (rfl) rfl ((bI_neg (fun hh => (fun q => absurd c18 (Int32.not_le.mpr q)) (hh.2.2))).symm) dX1_hasPair_26
      · skip
        refine s_iconst C (pc := 21) (v := 1) dX1_hasPair_21 (by decide) ?_
        refine s_goto C (pc := 22) (tgt := 26) dX1_hasPair_22 (by decide) ?_
        exact s_zret C (pc := 26) hr hlk [0, 1, 2] (by decide) (rfl) rfl ((bI_pos ⟨c5, c13, Int32.not_le.mp c18⟩).symm) dX1_hasPair_26

set_option maxHeartbeats 4000000 in
set_option maxRecDepth 100000 in
theorem kX1_hasAll (l : Launch) (X : XT) (h hp hq n : Nat) (P Q : Nat → Int32) (o f ll : Int32) (x : Int32)  : KI l yX1_hasAll wsX1_hasAll ({ frames := 0, cells := 0, slots := 0, locals := 0 }) X [.ref h, .int x] [(h, .inr (1, [.ref hp, .ref hq, .int (nI n), .int o, .int f, .int ll])), (hp, .inl (X.2.1, 4, .inl (P))), (hq, .inl (X.2.1, 4, .inl (Q)))] [(h, .inr (1, [.ref hp, .ref hq, .int (nI n), .int o, .int f, .int ll])), (hp, .inl (X.2.1, 4, .inl (P))), (hq, .inl (X.2.1, 4, .inl (Q)))] (bI (x < (1 : Int32) <<< (nI n &&& 31))) := by
  refine k_ofI (cc := cX1_hasAll) (own := RX1) (maxL := 2) (ret := (some .boolean)) (ls0 := [(0, .ref h), (1, .int x)]) (by decide) rfl rfl (Nat.le_of_ble_eq_true rfl) rfl ?_
  intro p e s m args below meth c A g C hr hlk
  refine s_iload_n C (pc := 0) dX1_hasAll_0 rfl 1 rfl ?_
  refine s_iconst C (pc := 1) (v := 1) dX1_hasAll_1 (by decide) ?_
  refine s_aload_n C (pc := 2) dX1_hasAll_2 rfl 0 rfl ?_
  refine s_get C (pc := 3) (T := TX1) (N := 6) (fun _ h => (List.mem_cons_of_mem _ (List.mem_append_right _ h))) 0 rfl rfl 2 (by decide) (List.mem_of_getElem? (i := 1) rfl) rfl rfl dX1_hasAll_3 ?_
  refine s_ishl C (pc := 6) dX1_hasAll_6 ?_
  refine s_icmp_ge C (pc := 7) (tgt := 14) dX1_hasAll_7 (by decide) (fun c7 => ?_) (fun c7 => ?_)
  · skip
    refine s_iconst C (pc := 14) (v := 0) dX1_hasAll_14 (by decide) ?_
    exact s_zret C (pc := 15) hr hlk [0, 1, 2] (by decide) (rfl) rfl ((bI_neg (fun hh => (fun q => absurd c7 (Int32.not_le.mpr q)) (hh))).symm) dX1_hasAll_15
  · skip
    refine s_iconst C (pc := 10) (v := 1) dX1_hasAll_10 (by decide) ?_
    refine s_goto C (pc := 11) (tgt := 15) dX1_hasAll_11 (by decide) ?_
    exact s_zret C (pc := 15) hr hlk [0, 1, 2] (by decide) (rfl) rfl ((bI_pos (Int32.not_le.mp c7)).symm) dX1_hasAll_15

set_option maxHeartbeats 4000000 in
set_option maxRecDepth 100000 in
theorem kX1_isFactorPair (l : Launch) (X : XT) (h hp hq n : Nat) (P Q : Nat → Int32) (o f ll : Int32) (a b : Int32)  : KI l yX1_isFactorPair wsX1_isFactorPair ({ frames := 0, cells := 0, slots := 0, locals := 0 }) X [.ref h, .int a, .int b] [(h, .inr (1, [.ref hp, .ref hq, .int (nI n), .int o, .int f, .int ll])), (hp, .inl (X.2.1, 4, .inl (P))), (hq, .inl (X.2.1, 4, .inl (Q)))] [(h, .inr (1, [.ref hp, .ref hq, .int (nI n), .int o, .int f, .int ll])), (hp, .inl (X.2.1, 4, .inl (P))), (hq, .inl (X.2.1, 4, .inl (Q)))] (bI (-o ≤ a ∧ a ≤ o ∧ -o ≤ b ∧ b ≤ o ∧ (¬ a = 0 ∨ ¬ b = 0))) := by
  refine k_ofI (cc := cX1_isFactorPair) (own := RX1) (maxL := 3) (ret := (some .boolean)) (ls0 := [(0, .ref h), (1, .int a), (2, .int b)]) (by decide) rfl rfl (Nat.le_of_ble_eq_true rfl) rfl ?_
  intro p e s m args below meth c A g C hr hlk
  refine s_iload_n C (pc := 0) dX1_isFactorPair_0 rfl 1 rfl ?_
  refine s_aload_n C (pc := 1) dX1_isFactorPair_1 rfl 0 rfl ?_
  refine s_get C (pc := 2) (T := TX1) (N := 6) (fun _ h => (List.mem_cons_of_mem _ (List.mem_append_right _ h))) 0 rfl rfl 3 (by decide) (List.mem_of_getElem? (i := 1) rfl) rfl rfl dX1_isFactorPair_2 ?_
  refine s_ineg C (pc := 5) dX1_isFactorPair_5 ?_
  refine s_icmp_lt C (pc := 6) (tgt := 46) dX1_isFactorPair_6 (by decide) (fun c6 => ?_) (fun c6 => ?_)
  · skip
    refine s_iconst C (pc := 46) (v := 0) dX1_isFactorPair_46 (by decide) ?_
    exact s_zret C (pc := 47) hr hlk [0, 1, 2] (by decide) (rfl) rfl ((bI_neg (fun hh => (fun q => absurd c6 (Int32.not_lt.mpr q)) (hh.1))).symm) dX1_isFactorPair_47
  · skip
    refine s_iload_n C (pc := 9) dX1_isFactorPair_9 rfl 1 rfl ?_
    refine s_aload_n C (pc := 10) dX1_isFactorPair_10 rfl 0 rfl ?_
    refine s_get C (pc := 11) (T := TX1) (N := 6) (fun _ h => (List.mem_cons_of_mem _ (List.mem_append_right _ h))) 0 rfl rfl 3 (by decide) (List.mem_of_getElem? (i := 1) rfl) rfl rfl dX1_isFactorPair_11 ?_
    refine s_icmp_gt C (pc := 14) (tgt := 46) dX1_isFactorPair_14 (by decide) (fun c14 => ?_) (fun c14 => ?_)
    · skip
      refine s_iconst C (pc := 46) (v := 0) dX1_isFactorPair_46 (by decide) ?_
      exact s_zret C (pc := 47) hr hlk [0, 1, 2] (by decide) (rfl) rfl ((bI_neg (fun hh => (fun q => absurd c14 (Int32.not_lt.mpr q)) (hh.2.1))).symm) dX1_isFactorPair_47
    · skip
      refine s_iload_n C (pc := 17) dX1_isFactorPair_17 rfl 2 rfl ?_
      refine s_aload_n C (pc := 18) dX1_isFactorPair_18 rfl 0 rfl ?_
      refine s_get C (pc := 19) (T := TX1) (N := 6) (fun _ h => (List.mem_cons_of_mem _ (List.mem_append_right _ h))) 0 rfl rfl 3 (by decide) (List.mem_of_getElem? (i := 1) rfl) rfl rfl dX1_isFactorPair_19 ?_
      refine s_ineg C (pc := 22) dX1_isFactorPair_22 ?_
      refine s_icmp_lt C (pc := 23) (tgt := 46) dX1_isFactorPair_23 (by decide) (fun c23 => ?_) (fun c23 => ?_)
      · skip
        refine s_iconst C (pc := 46) (v := 0) dX1_isFactorPair_46 (by decide) ?_
        exact s_zret C (pc := 47) hr hlk [0, 1, 2] (by decide) (rfl) rfl ((bI_neg (fun hh => (fun q => absurd c23 (Int32.not_lt.mpr q)) (hh.2.2.1))).symm) dX1_isFactorPair_47
      · skip
        refine s_iload_n C (pc := 26) dX1_isFactorPair_26 rfl 2 rfl ?_
        refine s_aload_n C (pc := 27) dX1_isFactorPair_27 rfl 0 rfl ?_
        refine s_get C (pc := 28) (T := TX1) (N := 6) (fun _ h => (List.mem_cons_of_mem _ (List.mem_append_right _ h))) 0 rfl rfl 3 (by decide) (List.mem_of_getElem? (i := 1) rfl) rfl rfl dX1_isFactorPair_28 ?_
        refine s_icmp_gt C (pc := 31) (tgt := 46) dX1_isFactorPair_31 (by decide) (fun c31 => ?_) (fun c31 => ?_)
        · skip
          refine s_iconst C (pc := 46) (v := 0) dX1_isFactorPair_46 (by decide) ?_
          exact s_zret C (pc := 47) hr hlk [0, 1, 2] (by decide) (rfl) rfl ((bI_neg (fun hh => (fun q => absurd c31 (Int32.not_lt.mpr q)) (hh.2.2.2.1))).symm) dX1_isFactorPair_47
        · skip
          refine s_iload_n C (pc := 34) dX1_isFactorPair_34 rfl 1 rfl ?_
          refine s_if_ne C (pc := 35) (tgt := 42) dX1_isFactorPair_35 (by decide) (fun c35 => ?_) (fun c35 => ?_)
          · skip
            refine s_iconst C (pc := 42) (v := 1) dX1_isFactorPair_42 (by decide) ?_
            refine s_goto C (pc := 43) (tgt := 47) dX1_isFactorPair_43 (by decide) ?_
            exact s_zret C (pc := 47) hr hlk [0, 1, 2] (by decide) (rfl) rfl ((bI_pos ⟨Int32.not_lt.mp c6, Int32.not_lt.mp c14, Int32.not_lt.mp c23, Int32.not_lt.mp c31, Or.inl c35⟩).symm) dX1_isFactorPair_47
          · skip
            refine s_iload_n C (pc := 38) dX1_isFactorPair_38 rfl 2 rfl ?_
            refine s_if_eq C (pc := 39) (tgt := 46) dX1_isFactorPair_39 (by decide) (fun c39 => ?_) (fun c39 => ?_)
            · skip
              refine s_iconst C (pc := 46) (v := 0) dX1_isFactorPair_46 (by decide) ?_
              exact s_zret C (pc := 47) hr hlk [0, 1, 2] (by decide) (rfl) rfl ((bI_neg (fun hh => (fun q => q.elim (fun z => z c35) (fun z => z c39)) (hh.2.2.2.2))).symm) dX1_isFactorPair_47
            · skip
              refine s_iconst C (pc := 42) (v := 1) dX1_isFactorPair_42 (by decide) ?_
              refine s_goto C (pc := 43) (tgt := 47) dX1_isFactorPair_43 (by decide) ?_
              exact s_zret C (pc := 47) hr hlk [0, 1, 2] (by decide) (rfl) rfl ((bI_pos ⟨Int32.not_lt.mp c6, Int32.not_lt.mp c14, Int32.not_lt.mp c23, Int32.not_lt.mp c31, Or.inr c39⟩).symm) dX1_isFactorPair_47

set_option maxHeartbeats 4000000 in
set_option maxRecDepth 100000 in
theorem kX2_realPart (l : Launch) (X : XT) (p0 q0 a b : Int32)  : KI l yX2_realPart wsX2_realPart ({ frames := 0, cells := 0, slots := 0, locals := 0 }) X [.int p0, .int q0, .int a, .int b] [] [] (reI p0 q0 a b) := by
  refine k_ofI (cc := cX2_realPart) (own := RX2) (maxL := 4) (ret := (some .int)) (ls0 := [(0, .int p0), (1, .int q0), (2, .int a), (3, .int b)]) (by decide) rfl rfl (Nat.le_of_ble_eq_true rfl) rfl ?_
  intro p e s m args below meth c A g C hr hlk
  refine s_iload_n C (pc := 0) dX2_realPart_0 rfl 2 rfl ?_
  refine s_iload_n C (pc := 1) dX2_realPart_1 rfl 0 rfl ?_
  refine s_imul C (pc := 2) dX2_realPart_2 ?_
  refine s_iload_n C (pc := 3) dX2_realPart_3 rfl 3 rfl ?_
  refine s_iload_n C (pc := 4) dX2_realPart_4 rfl 1 rfl ?_
  refine s_imul C (pc := 5) dX2_realPart_5 ?_
  refine s_iadd C (pc := 6) dX2_realPart_6 ?_
  exact s_iret C (pc := 7) hr hlk [] (by decide) (rfl) (rfl) dX2_realPart_7

set_option maxHeartbeats 4000000 in
set_option maxRecDepth 100000 in
theorem kX2_imaginaryPart (l : Launch) (X : XT) (p0 q0 a b : Int32)  : KI l yX2_imaginaryPart wsX2_imaginaryPart ({ frames := 0, cells := 0, slots := 0, locals := 0 }) X [.int p0, .int q0, .int a, .int b] [] [] (imI p0 q0 a b) := by
  refine k_ofI (cc := cX2_imaginaryPart) (own := RX2) (maxL := 4) (ret := (some .int)) (ls0 := [(0, .int p0), (1, .int q0), (2, .int a), (3, .int b)]) (by decide) rfl rfl (Nat.le_of_ble_eq_true rfl) rfl ?_
  intro p e s m args below meth c A g C hr hlk
  refine s_iload_n C (pc := 0) dX2_imaginaryPart_0 rfl 3 rfl ?_
  refine s_iload_n C (pc := 1) dX2_imaginaryPart_1 rfl 0 rfl ?_
  refine s_imul C (pc := 2) dX2_imaginaryPart_2 ?_
  refine s_iload_n C (pc := 3) dX2_imaginaryPart_3 rfl 2 rfl ?_
  refine s_iload_n C (pc := 4) dX2_imaginaryPart_4 rfl 1 rfl ?_
  refine s_imul C (pc := 5) dX2_imaginaryPart_5 ?_
  refine s_isub C (pc := 6) dX2_imaginaryPart_6 ?_
  exact s_iret C (pc := 7) hr hlk [] (by decide) (rfl) (rfl) dX2_imaginaryPart_7

set_option maxHeartbeats 4000000 in
set_option maxRecDepth 100000 in
theorem kX2_divided (l : Launch) (X : XT) (x y : Int64)  : KL l yX2_divided wsX2_divided ({ frames := 0, cells := 0, slots := 0, locals := 0 }) X [.long x, .long y] [] [] (dvL x y) := by
  refine k_ofL (cc := cX2_divided) (own := RX2) (maxL := 4) (ret := (some .long)) (ls0 := [(0, .long x), (2, .long y)]) (by decide) rfl rfl (Nat.le_of_ble_eq_true rfl) rfl ?_
  intro p e s m args below meth c A g C hr hlk
  refine s_lload_n C (pc := 0) dX2_divided_0 rfl 1 rfl ?_
  refine s_lconst C (pc := 1) (v := 0) dX2_divided_1 (by decide) ?_
  refine s_lcmp_le C (pc := 2) (tgt := 12) dX2_divided_2 dX2_divided_3 (by decide) (fun c2 => ?_) (fun c2 => ?_)
  · skip
    refine s_lconst C (pc := 12) (v := 0) dX2_divided_12 (by decide) ?_
    exact s_lret C (pc := 13) hr hlk [] (by decide) (rfl) ((if_pos c2).symm) dX2_divided_13
  · skip
    refine s_lload_n C (pc := 6) dX2_divided_6 rfl 0 rfl ?_
    refine s_lload_n C (pc := 7) dX2_divided_7 rfl 1 rfl ?_
    refine s_ldiv C (pc := 8) dX2_divided_8 (fun h => c2 (by rw [h]; decide)) ?_
    refine s_goto C (pc := 9) (tgt := 13) dX2_divided_9 (by decide) ?_
    exact s_lret C (pc := 13) hr hlk [] (by decide) (rfl) ((if_neg c2).symm) dX2_divided_13

set_option maxHeartbeats 4000000 in
set_option maxRecDepth 100000 in
theorem kX2_gcd (l : Launch) (X : XT) (a b : Int64)  : KL l yX2_gcd wsX2_gcd ({ frames := 0, cells := 0, slots := 0, locals := 0 }) X [.long a, .long b] [] [] (gcL a b) := by
  refine k_ofL (cc := cX2_gcd) (own := RX2) (maxL := 11) (ret := (some .long)) (ls0 := [(0, .long a), (2, .long b)]) (by decide) rfl rfl (Nat.le_of_ble_eq_true rfl) rfl ?_
  intro p e s m args below meth c A g C hr hlk
  refine s_lload_n C (pc := 0) dX2_gcd_0 rfl 0 rfl ?_
  refine s_lstore C (pc := 1) (ls' := [(4, .long a), (0, .long a), (2, .long b)]) dX2_gcd_1 (by decide) rfl ?_
  refine s_lload_n C (pc := 3) dX2_gcd_3 rfl 2 rfl ?_
  refine s_lstore C (pc := 4) (ls' := [(6, .long b), (4, .long a), (0, .long a), (2, .long b)]) dX2_gcd_4 (by decide) rfl ?_
  refine s_iconst C (pc := 6) (v := 0) dX2_gcd_6 (by decide) ?_
  refine s_istore C (pc := 7) (ls' := [(8, .int 0), (6, .long b), (4, .long a), (0, .long a), (2, .long b)]) dX2_gcd_7 (by decide) rfl ?_
  have L9 : ∀ (n_ : Nat) (k : Nat) (x y : Int64), (k ≤ 100) → (gcdF (100 - k) x y = gcL a b) → 101 ≤ k + n_ → g [] 9 [(8, .int (nI k)), (4, .long x), (6, .long y)] [] := by
    intro n_
    induction n_ with
    | zero =>
      intro k x y hk hI hf
      exact absurd hf (by omega)
    | succ n_ ih9 =>
      intro k x y hk hI hf9
      refine s_iload C (pc := 9) dX2_gcd_9 0 rfl ?_
      refine s_bipush C (pc := 11) (v := 100) dX2_gcd_11 (by decide) ?_
      refine s_icmp_ge C (pc := 13) (tgt := 44) dX2_gcd_13 (by decide) (fun c13 => ?_) (fun c13 => ?_)
      · skip
        have e13 := nat_le (a := 100) (b := k) (by omega) (by omega) c13
        have hs0 : 100 = k := by omega
        subst hs0
        refine s_lload C (pc := 44) dX2_gcd_44 1 rfl ?_
        exact s_lret C (pc := 46) hr hlk [] (by decide) (rfl) (hI) dX2_gcd_46
      · skip
        have e13 := nat_nle (a := 100) (b := k) (by omega) (by omega) c13
        obtain ⟨u, hu⟩ : ∃ u, 100 - k = u + 1 := ⟨100 - k - 1, by omega⟩
        rw [hu] at hI
        refine s_lload C (pc := 16) dX2_gcd_16 2 rfl ?_
        refine s_lconst C (pc := 18) (v := 0) dX2_gcd_18 (by decide) ?_
        refine s_lcmp_eq C (pc := 19) (tgt := 44) dX2_gcd_19 dX2_gcd_20 (by decide) (fun c19 => ?_) (fun c19 => ?_)
        · skip
          refine s_lload C (pc := 44) dX2_gcd_44 1 rfl ?_
          exact s_lret C (pc := 46) hr hlk [] (by decide) (rfl) (((if_pos c19).symm.trans hI : _ = _)) dX2_gcd_46
        · skip
          refine s_lload C (pc := 23) dX2_gcd_23 1 rfl ?_
          refine s_lload C (pc := 25) dX2_gcd_25 2 rfl ?_
          refine s_lrem C (pc := 27) dX2_gcd_27 c19 ?_
          refine s_lstore C (pc := 28) (ls' := [(9, .long (x - x / y * y)), (8, .int (nI k)), (4, .long x), (6, .long y)]) dX2_gcd_28 (by decide) rfl ?_
          refine s_lload C (pc := 30) dX2_gcd_30 3 rfl ?_
          refine s_lstore C (pc := 32) (ls' := [(4, .long y), (9, .long (x - x / y * y)), (8, .int (nI k)), (6, .long y)]) dX2_gcd_32 (by decide) rfl ?_
          refine s_lload C (pc := 34) dX2_gcd_34 1 rfl ?_
          refine s_lstore C (pc := 36) (ls' := [(6, .long (x - x / y * y)), (4, .long y), (9, .long (x - x / y * y)), (8, .int (nI k))]) dX2_gcd_36 (by decide) rfl ?_
          refine s_iinc C (pc := 38) (v := nI (k + 1)) (ls' := [(8, .int (nI (k + 1))), (6, .long (x - x / y * y)), (4, .long y), (9, .long (x - x / y * y))]) dX2_gcd_38 3 rfl (nI_1 _) (by decide) rfl ?_
          refine s_goto C (pc := 41) (tgt := 9) dX2_gcd_41 (by decide) ?_
          refine s_loc C (ls' := [(8, .int (nI (k + 1))), (4, .long y), (6, .long (x - x / y * y))]) [0, 2, 1] rfl ?_
          exact ih9 (k + 1) y (x - x / y * y) (by omega) (by rw [show 100 - (k + 1) = u by omega, ← hI]; exact (if_neg c19).symm) (by omega)
  refine s_loc C (ls' := [(8, .int 0), (4, .long a), (6, .long b)]) [0, 2, 1] rfl ?_
  exact L9 101 0 a b (Nat.zero_le _) (gcL_eq a b).symm (by omega)

set_option maxHeartbeats 4000000 in
set_option maxRecDepth 100000 in
theorem kX2_root (l : Launch) (X : XT) (sq : Int64)  : KI l yX2_root wsX2_root ({ frames := 0, cells := 0, slots := 0, locals := 0 }) X [.long sq] [] [] (rtL sq) := by
  refine k_ofI (cc := cX2_root) (own := RX2) (maxL := 6) (ret := (some .int)) (ls0 := [(0, .long sq)]) (by decide) rfl rfl (Nat.le_of_ble_eq_true rfl) rfl ?_
  intro p e s m args below meth c A g C hr hlk
  refine s_iconst C (pc := 0) (v := 0) dX2_root_0 (by decide) ?_
  refine s_istore_n C (pc := 1) (ls' := [(2, .int 0), (0, .long sq)]) dX2_root_1 rfl (by decide) rfl ?_
  refine s_sipush C (pc := 2) (v := 16384) dX2_root_2 (by decide) ?_
  refine s_istore_n C (pc := 5) (ls' := [(3, .int 16384), (2, .int 0), (0, .long sq)]) dX2_root_5 rfl (by decide) rfl ?_
  have L6 : ∀ (n_ : Nat) (j : Nat) (r : Int32), (j ≤ 15) → (rtF sq j r = rtL sq) → j < n_ → g [] 6 [(3, .int (btF j)), (2, .int r), (0, .long sq)] [] := by
    intro n_
    induction n_ with
    | zero =>
      intro j r hj hI hf
      exact absurd hf (by omega)
    | succ n_ ih6 =>
      intro j r hj hI hf6
      refine s_iload_n C (pc := 6) dX2_root_6 rfl 0 rfl ?_
      refine s_if_le C (pc := 7) (tgt := 37) dX2_root_7 (by decide) (fun c7 => ?_) (fun c7 => ?_)
      · skip
        have hj0 : 0 = j := ((btF_pos j (by omega)).mp c7).symm
        subst hj0
        refine s_iload_n C (pc := 37) dX2_root_37 rfl 1 rfl ?_
        exact s_iret C (pc := 38) hr hlk [] (by decide) (rfl) (hI) dX2_root_38
      · skip
        have hj0 : ¬ j = 0 := fun h => c7 ((btF_pos j (by omega)).mpr h)
        obtain ⟨j1, hj1⟩ : ∃ j1, j = j1 + 1 := ⟨j - 1, by omega⟩
        subst hj1
        refine s_iload_n C (pc := 10) dX2_root_10 rfl 1 rfl ?_
        refine s_iload_n C (pc := 11) dX2_root_11 rfl 0 rfl ?_
        refine s_iadd C (pc := 12) dX2_root_12 ?_
        refine s_i2l C (pc := 13) dX2_root_13 ?_
        refine s_lstore C (pc := 14) (ls' := [(4, .long ((r + (btF (j1 + 1))).toInt64)), (3, .int (btF (j1 + 1))), (2, .int r), (0, .long sq)]) dX2_root_14 (by decide) rfl ?_
        refine s_lload C (pc := 16) dX2_root_16 0 rfl ?_
        refine s_lload C (pc := 18) dX2_root_18 0 rfl ?_
        refine s_lmul C (pc := 20) dX2_root_20 ?_
        refine s_lload_n C (pc := 21) dX2_root_21 rfl 3 rfl ?_
        refine s_lcmp_gt C (pc := 22) (tgt := 30) dX2_root_22 dX2_root_23 (by decide) (fun c22 => ?_) (fun c22 => ?_)
        · skip
          refine s_iload_n C (pc := 30) dX2_root_30 rfl 1 rfl ?_
          refine s_iconst C (pc := 31) (v := 1) dX2_root_31 (by decide) ?_
          refine s_ishr C (pc := 32) dX2_root_32 ?_
          refine s_top C (y := btF j1) (btF_shr j1 (by omega)) ?_
          refine s_istore_n C (pc := 33) (ls' := [(3, .int (btF j1)), (4, .long ((r + (btF (j1 + 1))).toInt64)), (2, .int r), (0, .long sq)]) dX2_root_33 rfl (by decide) rfl ?_
          refine s_goto C (pc := 34) (tgt := 6) dX2_root_34 (by decide) ?_
          refine s_loc C (ls' := [(3, .int (btF j1)), (2, .int r), (0, .long sq)]) [0, 2, 3] rfl ?_
          exact ih6 j1 r (by omega) (by rw [← hI]; exact (if_pos c22).symm) (by omega)
        · skip
          refine s_iload_n C (pc := 26) dX2_root_26 rfl 2 rfl ?_
          refine s_iload_n C (pc := 27) dX2_root_27 rfl 1 rfl ?_
          refine s_iadd C (pc := 28) dX2_root_28 ?_
          refine s_istore_n C (pc := 29) (ls' := [(2, .int (r + (btF (j1 + 1)))), (4, .long ((r + (btF (j1 + 1))).toInt64)), (3, .int (btF (j1 + 1))), (0, .long sq)]) dX2_root_29 rfl (by decide) rfl ?_
          refine s_iload_n C (pc := 30) dX2_root_30 rfl 2 rfl ?_
          refine s_iconst C (pc := 31) (v := 1) dX2_root_31 (by decide) ?_
          refine s_ishr C (pc := 32) dX2_root_32 ?_
          refine s_top C (y := btF j1) (btF_shr j1 (by omega)) ?_
          refine s_istore_n C (pc := 33) (ls' := [(3, .int (btF j1)), (2, .int (r + (btF (j1 + 1)))), (4, .long ((r + (btF (j1 + 1))).toInt64)), (0, .long sq)]) dX2_root_33 rfl (by decide) rfl ?_
          refine s_goto C (pc := 34) (tgt := 6) dX2_root_34 (by decide) ?_
          refine s_loc C (ls' := [(3, .int (btF j1)), (2, .int (r + (btF (j1 + 1)))), (0, .long sq)]) [0, 1, 3] rfl ?_
          exact ih6 j1 (r + btF (j1 + 1)) (by omega) (by rw [← hI]; exact (if_neg c22).symm) (by omega)
  exact L6 16 15 0 (Nat.le_refl _) (rtL_eq sq).symm (by omega)

set_option maxHeartbeats 4000000 in
set_option maxRecDepth 100000 in
theorem kX2_isScreen (l : Launch) (X : XT) (x y : Int32)  : KI l yX2_isScreen wsX2_isScreen ({ frames := 0, cells := 0, slots := 0, locals := 0 }) X [.int x, .int y] [] [] (bI (1 ≤ x ∧ x ≤ 20 ∧ 0 ≤ y ∧ y ≤ 20)) := by
  refine k_ofI (cc := cX2_isScreen) (own := RX2) (maxL := 2) (ret := (some .boolean)) (ls0 := [(0, .int x), (1, .int y)]) (by decide) rfl rfl (Nat.le_of_ble_eq_true rfl) rfl ?_
  intro p e s m args below meth c A g C hr hlk
  refine s_iload_n C (pc := 0) dX2_isScreen_0 rfl 0 rfl ?_
  refine s_iconst C (pc := 1) (v := 1) dX2_isScreen_1 (by decide) ?_
  refine s_icmp_lt C (pc := 2) (tgt := 25) dX2_isScreen_2 (by decide) (fun c2 => ?_) (fun c2 => ?_)
  · skip
    refine s_iconst C (pc := 25) (v := 0) dX2_isScreen_25 (by decide) ?_
    exact s_zret C (pc := 26) hr hlk [] (by decide) (rfl) rfl ((bI_neg (fun hh => (fun q => absurd c2 (Int32.not_lt.mpr q)) (hh.1))).symm) dX2_isScreen_26
  · skip
    refine s_iload_n C (pc := 5) dX2_isScreen_5 rfl 0 rfl ?_
    refine s_bipush C (pc := 6) (v := 20) dX2_isScreen_6 (by decide) ?_
    refine s_icmp_gt C (pc := 8) (tgt := 25) dX2_isScreen_8 (by decide) (fun c8 => ?_) (fun c8 => ?_)
    · skip
      refine s_iconst C (pc := 25) (v := 0) dX2_isScreen_25 (by decide) ?_
      exact s_zret C (pc := 26) hr hlk [] (by decide) (rfl) rfl ((bI_neg (fun hh => (fun q => absurd c8 (Int32.not_lt.mpr q)) (hh.2.1))).symm) dX2_isScreen_26
    · skip
      refine s_iload_n C (pc := 11) dX2_isScreen_11 rfl 1 rfl ?_
      refine s_if_lt C (pc := 12) (tgt := 25) dX2_isScreen_12 (by decide) (fun c12 => ?_) (fun c12 => ?_)
      · skip
        refine s_iconst C (pc := 25) (v := 0) dX2_isScreen_25 (by decide) ?_
        exact s_zret C (pc := 26) hr hlk [] (by decide) (rfl) rfl ((bI_neg (fun hh => (fun q => absurd c12 (Int32.not_lt.mpr q)) (hh.2.2.1))).symm) dX2_isScreen_26
      · skip
        refine s_iload_n C (pc := 15) dX2_isScreen_15 rfl 1 rfl ?_
        refine s_bipush C (pc := 16) (v := 20) dX2_isScreen_16 (by decide) ?_
        refine s_icmp_gt C (pc := 18) (tgt := 25) dX2_isScreen_18 (by decide) (fun c18 => ?_) (fun c18 => ?_)
        · skip
          refine s_iconst C (pc := 25) (v := 0) dX2_isScreen_25 (by decide) ?_
          exact s_zret C (pc := 26) hr hlk [] (by decide) (rfl) rfl ((bI_neg (fun hh => (fun q => absurd c18 (Int32.not_lt.mpr q)) (hh.2.2.2))).symm) dX2_isScreen_26
        · skip
          refine s_iconst C (pc := 21) (v := 1) dX2_isScreen_21 (by decide) ?_
          refine s_goto C (pc := 22) (tgt := 26) dX2_isScreen_22 (by decide) ?_
          exact s_zret C (pc := 26) hr hlk [] (by decide) (rfl) rfl ((bI_pos ⟨Int32.not_lt.mp c2, Int32.not_lt.mp c8, Int32.not_lt.mp c12, Int32.not_lt.mp c18⟩).symm) dX2_isScreen_26

set_option maxHeartbeats 4000000 in
set_option maxRecDepth 100000 in
theorem kX2_isSlot (l : Launch) (X : XT) (i : Int32)  : KI l yX2_isSlot wsX2_isSlot ({ frames := 0, cells := 0, slots := 0, locals := 0 }) X [.int i] [] [] (bI (0 ≤ i ∧ i < 2)) := by
  refine k_ofI (cc := cX2_isSlot) (own := RX2) (maxL := 1) (ret := (some .boolean)) (ls0 := [(0, .int i)]) (by decide) rfl rfl (Nat.le_of_ble_eq_true rfl) rfl ?_
  intro p e s m args below meth c A g C hr hlk
  refine s_iload_n C (pc := 0) dX2_isSlot_0 rfl 0 rfl ?_
  refine s_if_lt C (pc := 1) (tgt := 13) dX2_isSlot_1 (by decide) (fun c1 => ?_) (fun c1 => ?_)
  · skip
    refine s_iconst C (pc := 13) (v := 0) dX2_isSlot_13 (by decide) ?_
    exact s_zret C (pc := 14) hr hlk [] (by decide) (rfl) rfl ((bI_neg (fun hh => (fun q => absurd c1 (Int32.not_lt.mpr q)) (hh.1))).symm) dX2_isSlot_14
  · skip
    refine s_iload_n C (pc := 4) dX2_isSlot_4 rfl 0 rfl ?_
    refine s_iconst C (pc := 5) (v := 2) dX2_isSlot_5 (by decide) ?_
    refine s_icmp_ge C (pc := 6) (tgt := 13) dX2_isSlot_6 (by decide) (fun c6 => ?_) (fun c6 => ?_)
    · skip
      refine s_iconst C (pc := 13) (v := 0) dX2_isSlot_13 (by decide) ?_
      exact s_zret C (pc := 14) hr hlk [] (by decide) (rfl) rfl ((bI_neg (fun hh => (fun q => absurd c6 (Int32.not_le.mpr q)) (hh.2))).symm) dX2_isSlot_14
    · skip
      refine s_iconst C (pc := 9) (v := 1) dX2_isSlot_9 (by decide) ?_
      refine s_goto C (pc := 10) (tgt := 14) dX2_isSlot_10 (by decide) ?_
      exact s_zret C (pc := 14) hr hlk [] (by decide) (rfl) rfl ((bI_pos ⟨Int32.not_lt.mp c1, Int32.not_le.mp c6⟩).symm) dX2_isSlot_14

set_option maxHeartbeats 4000000 in
set_option maxRecDepth 100000 in
theorem kX1_pairNorm (l : Launch) (X : XT) (h hp hq n : Nat) (P Q : Nat → Int32) (o f ll : Int32) (i j : Nat) (a b c1 d1 : Int32) (hi : i < n) (hj : j < n) (hn : n ≤ 4) : KI l yX1_pairNorm wsX1_pairNorm ({ frames := 2, cells := 0, slots := 0, locals := 42 }) X [.ref h, .int (nI i), .int (nI j), .int a, .int b, .int c1, .int d1] [(h, .inr (1, [.ref hp, .ref hq, .int (nI n), .int o, .int f, .int ll])), (hp, .inl (X.2.1, 4, .inl (P))), (hq, .inl (X.2.1, 4, .inl (Q)))] [(h, .inr (1, [.ref hp, .ref hq, .int (nI n), .int o, .int f, .int ll])), (hp, .inl (X.2.1, 4, .inl (P))), (hq, .inl (X.2.1, 4, .inl (Q)))] (pnI (P i) (Q i) (P j) (Q j) a b c1 d1) := by
  refine k_ofI (cc := cX1_pairNorm) (own := RX1) (maxL := 9) (ret := (some .int)) (ls0 := [(0, .ref h), (1, .int (nI i)), (2, .int (nI j)), (3, .int a), (4, .int b), (5, .int c1), (6, .int d1)]) (by decide) rfl rfl (Nat.le_of_ble_eq_true rfl) rfl ?_
  intro p e s m args below meth c A g C hr hlk
  refine s_aload_n C (pc := 0) dX1_pairNorm_0 rfl 0 rfl ?_
  refine s_iload_n C (pc := 1) dX1_pairNorm_1 rfl 2 rfl ?_
  refine s_calli C (pc := 2) (wr := []) (wc' := [(h, .inr (1, [.ref hp, .ref hq, .int (nI n), .int o, .int f, .int ll])), (hp, .inl (X.2.1, 4, .inl (P))), (hq, .inl (X.2.1, 4, .inl (Q)))]) (wn := [(h, .inr (1, [.ref hp, .ref hq, .int (nI n), .int o, .int f, .int ll])), (hp, .inl (X.2.1, 4, .inl (P))), (hq, .inl (X.2.1, 4, .inl (Q)))]) (r_V C (As := [.int (nI j)]) (rest := []) (kX1_pOf l X h hp hq n P Q o f ll j (by first | assumption | omega | decide) (by first | assumption | omega | decide)) (cwV 1 C.ts gX1_pairNorm_X1_pOf rfl rfl rfl (by decide +kernel) ⟨Nat.le_of_ble_eq_true rfl, Nat.le_of_ble_eq_true rfl⟩) (q0 := 0) rfl rfl [0, 1, 2] (by decide) rfl rfl (Nat.le_of_ble_eq_true rfl) rfl dX1_pairNorm_2 ⟨Nat.zero_le _, Nat.zero_le _⟩) [0, 1, 2] [] [0, 1, 2] rfl rfl (by decide) (by decide) (by decide) rfl ?_
  refine s_aload_n C (pc := 5) dX1_pairNorm_5 rfl 0 rfl ?_
  refine s_iload_n C (pc := 6) dX1_pairNorm_6 rfl 2 rfl ?_
  refine s_calli C (pc := 7) (wr := []) (wc' := [(h, .inr (1, [.ref hp, .ref hq, .int (nI n), .int o, .int f, .int ll])), (hp, .inl (X.2.1, 4, .inl (P))), (hq, .inl (X.2.1, 4, .inl (Q)))]) (wn := [(h, .inr (1, [.ref hp, .ref hq, .int (nI n), .int o, .int f, .int ll])), (hp, .inl (X.2.1, 4, .inl (P))), (hq, .inl (X.2.1, 4, .inl (Q)))]) (r_V C (As := [.int (nI j)]) (rest := [.int (P j)]) (kX1_qOf l X h hp hq n P Q o f ll j (by first | assumption | omega | decide) (by first | assumption | omega | decide)) (cwV 1 C.ts gX1_pairNorm_X1_qOf rfl rfl rfl (by decide +kernel) ⟨Nat.le_of_ble_eq_true rfl, Nat.le_of_ble_eq_true rfl⟩) (q0 := 0) rfl rfl [0, 1, 2] (by decide) rfl rfl (Nat.le_of_ble_eq_true rfl) rfl dX1_pairNorm_7 ⟨Nat.zero_le _, Nat.zero_le _⟩) [0, 1, 2] [] [0, 1, 2] rfl rfl (by decide) (by decide) (by decide) rfl ?_
  refine s_iload_n C (pc := 10) dX1_pairNorm_10 rfl 3 rfl ?_
  refine s_iload C (pc := 11) dX1_pairNorm_11 4 rfl ?_
  refine s_calli C (pc := 13) (wr := [(h, .inr (1, [.ref hp, .ref hq, .int (nI n), .int o, .int f, .int ll])), (hp, .inl (X.2.1, 4, .inl (P))), (hq, .inl (X.2.1, 4, .inl (Q)))]) (wc' := []) (wn := [(h, .inr (1, [.ref hp, .ref hq, .int (nI n), .int o, .int f, .int ll])), (hp, .inl (X.2.1, 4, .inl (P))), (hq, .inl (X.2.1, 4, .inl (Q)))]) (r_SN C (As := [.int (P j), .int (Q j), .int a, .int b]) (rest := []) (kX2_realPart l X (P j) (Q j) a b ) ⟨va_cnB 4 C.ts gX1_pairNorm_X2_realPart_n46 rfl rfl rfl (C.nm 15 rfl) (C.ts _ (List.mem_of_getElem? (i := 18) rfl)) (by decide +kernel) ⟨Nat.le_of_ble_eq_true rfl, Nat.le_of_ble_eq_true rfl⟩, C.ts _ (List.mem_of_getElem? (i := 17) rfl), trivial⟩ [] (by decide) rfl rfl (Nat.le_of_ble_eq_true rfl) rfl dX1_pairNorm_13 ⟨Nat.zero_le _, Nat.zero_le _⟩) [] [0, 1, 2] [0, 1, 2] rfl rfl (by decide) (by decide) (by decide) rfl ?_
  refine s_aload_n C (pc := 16) dX1_pairNorm_16 rfl 0 rfl ?_
  refine s_iload_n C (pc := 17) dX1_pairNorm_17 rfl 1 rfl ?_
  refine s_calli C (pc := 18) (wr := []) (wc' := [(h, .inr (1, [.ref hp, .ref hq, .int (nI n), .int o, .int f, .int ll])), (hp, .inl (X.2.1, 4, .inl (P))), (hq, .inl (X.2.1, 4, .inl (Q)))]) (wn := [(h, .inr (1, [.ref hp, .ref hq, .int (nI n), .int o, .int f, .int ll])), (hp, .inl (X.2.1, 4, .inl (P))), (hq, .inl (X.2.1, 4, .inl (Q)))]) (r_V C (As := [.int (nI i)]) (rest := [.int (reI (P j) (Q j) a b)]) (kX1_pOf l X h hp hq n P Q o f ll i (by first | assumption | omega | decide) (by first | assumption | omega | decide)) (cwV 1 C.ts gX1_pairNorm_X1_pOf rfl rfl rfl (by decide +kernel) ⟨Nat.le_of_ble_eq_true rfl, Nat.le_of_ble_eq_true rfl⟩) (q0 := 0) rfl rfl [0, 1, 2] (by decide) rfl rfl (Nat.le_of_ble_eq_true rfl) rfl dX1_pairNorm_18 ⟨Nat.zero_le _, Nat.zero_le _⟩) [0, 1, 2] [] [0, 1, 2] rfl rfl (by decide) (by decide) (by decide) rfl ?_
  refine s_aload_n C (pc := 21) dX1_pairNorm_21 rfl 0 rfl ?_
  refine s_iload_n C (pc := 22) dX1_pairNorm_22 rfl 1 rfl ?_
  refine s_calli C (pc := 23) (wr := []) (wc' := [(h, .inr (1, [.ref hp, .ref hq, .int (nI n), .int o, .int f, .int ll])), (hp, .inl (X.2.1, 4, .inl (P))), (hq, .inl (X.2.1, 4, .inl (Q)))]) (wn := [(h, .inr (1, [.ref hp, .ref hq, .int (nI n), .int o, .int f, .int ll])), (hp, .inl (X.2.1, 4, .inl (P))), (hq, .inl (X.2.1, 4, .inl (Q)))]) (r_V C (As := [.int (nI i)]) (rest := [.int (P i), .int (reI (P j) (Q j) a b)]) (kX1_qOf l X h hp hq n P Q o f ll i (by first | assumption | omega | decide) (by first | assumption | omega | decide)) (cwV 1 C.ts gX1_pairNorm_X1_qOf rfl rfl rfl (by decide +kernel) ⟨Nat.le_of_ble_eq_true rfl, Nat.le_of_ble_eq_true rfl⟩) (q0 := 0) rfl rfl [0, 1, 2] (by decide) rfl rfl (Nat.le_of_ble_eq_true rfl) rfl dX1_pairNorm_23 ⟨Nat.zero_le _, Nat.zero_le _⟩) [0, 1, 2] [] [0, 1, 2] rfl rfl (by decide) (by decide) (by decide) rfl ?_
  refine s_iload C (pc := 26) dX1_pairNorm_26 5 rfl ?_
  refine s_iload C (pc := 28) dX1_pairNorm_28 6 rfl ?_
  refine s_calli C (pc := 30) (wr := [(h, .inr (1, [.ref hp, .ref hq, .int (nI n), .int o, .int f, .int ll])), (hp, .inl (X.2.1, 4, .inl (P))), (hq, .inl (X.2.1, 4, .inl (Q)))]) (wc' := []) (wn := [(h, .inr (1, [.ref hp, .ref hq, .int (nI n), .int o, .int f, .int ll])), (hp, .inl (X.2.1, 4, .inl (P))), (hq, .inl (X.2.1, 4, .inl (Q)))]) (r_SN C (As := [.int (P i), .int (Q i), .int c1, .int d1]) (rest := [.int (reI (P j) (Q j) a b)]) (kX2_realPart l X (P i) (Q i) c1 d1 ) ⟨va_cnB 4 C.ts gX1_pairNorm_X2_realPart_n46 rfl rfl rfl (C.nm 15 rfl) (C.ts _ (List.mem_of_getElem? (i := 18) rfl)) (by decide +kernel) ⟨Nat.le_of_ble_eq_true rfl, Nat.le_of_ble_eq_true rfl⟩, C.ts _ (List.mem_of_getElem? (i := 17) rfl), trivial⟩ [] (by decide) rfl rfl (Nat.le_of_ble_eq_true rfl) rfl dX1_pairNorm_30 ⟨Nat.zero_le _, Nat.zero_le _⟩) [] [0, 1, 2] [0, 1, 2] rfl rfl (by decide) (by decide) (by decide) rfl ?_
  refine s_isub C (pc := 33) dX1_pairNorm_33 ?_
  refine s_istore C (pc := 34) (ls' := [(7, .int ((reI (P j) (Q j) a b) - (reI (P i) (Q i) c1 d1))), (0, .ref h), (1, .int (nI i)), (2, .int (nI j)), (3, .int a), (4, .int b), (5, .int c1), (6, .int d1)]) dX1_pairNorm_34 (by decide) rfl ?_
  refine s_aload_n C (pc := 36) dX1_pairNorm_36 rfl 1 rfl ?_
  refine s_iload_n C (pc := 37) dX1_pairNorm_37 rfl 3 rfl ?_
  refine s_calli C (pc := 38) (wr := []) (wc' := [(h, .inr (1, [.ref hp, .ref hq, .int (nI n), .int o, .int f, .int ll])), (hp, .inl (X.2.1, 4, .inl (P))), (hq, .inl (X.2.1, 4, .inl (Q)))]) (wn := [(h, .inr (1, [.ref hp, .ref hq, .int (nI n), .int o, .int f, .int ll])), (hp, .inl (X.2.1, 4, .inl (P))), (hq, .inl (X.2.1, 4, .inl (Q)))]) (r_V C (As := [.int (nI j)]) (rest := []) (kX1_pOf l X h hp hq n P Q o f ll j (by first | assumption | omega | decide) (by first | assumption | omega | decide)) (cwV 1 C.ts gX1_pairNorm_X1_pOf rfl rfl rfl (by decide +kernel) ⟨Nat.le_of_ble_eq_true rfl, Nat.le_of_ble_eq_true rfl⟩) (q0 := 0) rfl rfl [0, 1, 2] (by decide) rfl rfl (Nat.le_of_ble_eq_true rfl) rfl dX1_pairNorm_38 ⟨Nat.zero_le _, Nat.zero_le _⟩) [0, 1, 2] [] [0, 1, 2] rfl rfl (by decide) (by decide) (by decide) rfl ?_
  refine s_aload_n C (pc := 41) dX1_pairNorm_41 rfl 1 rfl ?_
  refine s_iload_n C (pc := 42) dX1_pairNorm_42 rfl 3 rfl ?_
  refine s_calli C (pc := 43) (wr := []) (wc' := [(h, .inr (1, [.ref hp, .ref hq, .int (nI n), .int o, .int f, .int ll])), (hp, .inl (X.2.1, 4, .inl (P))), (hq, .inl (X.2.1, 4, .inl (Q)))]) (wn := [(h, .inr (1, [.ref hp, .ref hq, .int (nI n), .int o, .int f, .int ll])), (hp, .inl (X.2.1, 4, .inl (P))), (hq, .inl (X.2.1, 4, .inl (Q)))]) (r_V C (As := [.int (nI j)]) (rest := [.int (P j)]) (kX1_qOf l X h hp hq n P Q o f ll j (by first | assumption | omega | decide) (by first | assumption | omega | decide)) (cwV 1 C.ts gX1_pairNorm_X1_qOf rfl rfl rfl (by decide +kernel) ⟨Nat.le_of_ble_eq_true rfl, Nat.le_of_ble_eq_true rfl⟩) (q0 := 0) rfl rfl [0, 1, 2] (by decide) rfl rfl (Nat.le_of_ble_eq_true rfl) rfl dX1_pairNorm_43 ⟨Nat.zero_le _, Nat.zero_le _⟩) [0, 1, 2] [] [0, 1, 2] rfl rfl (by decide) (by decide) (by decide) rfl ?_
  refine s_iload_n C (pc := 46) dX1_pairNorm_46 rfl 4 rfl ?_
  refine s_iload C (pc := 47) dX1_pairNorm_47 5 rfl ?_
  refine s_calli C (pc := 49) (wr := [(h, .inr (1, [.ref hp, .ref hq, .int (nI n), .int o, .int f, .int ll])), (hp, .inl (X.2.1, 4, .inl (P))), (hq, .inl (X.2.1, 4, .inl (Q)))]) (wc' := []) (wn := [(h, .inr (1, [.ref hp, .ref hq, .int (nI n), .int o, .int f, .int ll])), (hp, .inl (X.2.1, 4, .inl (P))), (hq, .inl (X.2.1, 4, .inl (Q)))]) (r_SN C (As := [.int (P j), .int (Q j), .int a, .int b]) (rest := []) (kX2_imaginaryPart l X (P j) (Q j) a b ) ⟨va_cnB 4 C.ts gX1_pairNorm_X2_imaginaryPart_n50 rfl rfl rfl (C.nm 16 rfl) (C.ts _ (List.mem_of_getElem? (i := 18) rfl)) (by decide +kernel) ⟨Nat.le_of_ble_eq_true rfl, Nat.le_of_ble_eq_true rfl⟩, C.ts _ (List.mem_of_getElem? (i := 20) rfl), trivial⟩ [] (by decide) rfl rfl (Nat.le_of_ble_eq_true rfl) rfl dX1_pairNorm_49 ⟨Nat.zero_le _, Nat.zero_le _⟩) [] [0, 1, 2] [0, 1, 2] rfl rfl (by decide) (by decide) (by decide) rfl ?_
  refine s_aload_n C (pc := 52) dX1_pairNorm_52 rfl 1 rfl ?_
  refine s_iload_n C (pc := 53) dX1_pairNorm_53 rfl 2 rfl ?_
  refine s_calli C (pc := 54) (wr := []) (wc' := [(h, .inr (1, [.ref hp, .ref hq, .int (nI n), .int o, .int f, .int ll])), (hp, .inl (X.2.1, 4, .inl (P))), (hq, .inl (X.2.1, 4, .inl (Q)))]) (wn := [(h, .inr (1, [.ref hp, .ref hq, .int (nI n), .int o, .int f, .int ll])), (hp, .inl (X.2.1, 4, .inl (P))), (hq, .inl (X.2.1, 4, .inl (Q)))]) (r_V C (As := [.int (nI i)]) (rest := [.int (imI (P j) (Q j) a b)]) (kX1_pOf l X h hp hq n P Q o f ll i (by first | assumption | omega | decide) (by first | assumption | omega | decide)) (cwV 1 C.ts gX1_pairNorm_X1_pOf rfl rfl rfl (by decide +kernel) ⟨Nat.le_of_ble_eq_true rfl, Nat.le_of_ble_eq_true rfl⟩) (q0 := 0) rfl rfl [0, 1, 2] (by decide) rfl rfl (Nat.le_of_ble_eq_true rfl) rfl dX1_pairNorm_54 ⟨Nat.zero_le _, Nat.zero_le _⟩) [0, 1, 2] [] [0, 1, 2] rfl rfl (by decide) (by decide) (by decide) rfl ?_
  refine s_aload_n C (pc := 57) dX1_pairNorm_57 rfl 1 rfl ?_
  refine s_iload_n C (pc := 58) dX1_pairNorm_58 rfl 2 rfl ?_
  refine s_calli C (pc := 59) (wr := []) (wc' := [(h, .inr (1, [.ref hp, .ref hq, .int (nI n), .int o, .int f, .int ll])), (hp, .inl (X.2.1, 4, .inl (P))), (hq, .inl (X.2.1, 4, .inl (Q)))]) (wn := [(h, .inr (1, [.ref hp, .ref hq, .int (nI n), .int o, .int f, .int ll])), (hp, .inl (X.2.1, 4, .inl (P))), (hq, .inl (X.2.1, 4, .inl (Q)))]) (r_V C (As := [.int (nI i)]) (rest := [.int (P i), .int (imI (P j) (Q j) a b)]) (kX1_qOf l X h hp hq n P Q o f ll i (by first | assumption | omega | decide) (by first | assumption | omega | decide)) (cwV 1 C.ts gX1_pairNorm_X1_qOf rfl rfl rfl (by decide +kernel) ⟨Nat.le_of_ble_eq_true rfl, Nat.le_of_ble_eq_true rfl⟩) (q0 := 0) rfl rfl [0, 1, 2] (by decide) rfl rfl (Nat.le_of_ble_eq_true rfl) rfl dX1_pairNorm_59 ⟨Nat.zero_le _, Nat.zero_le _⟩) [0, 1, 2] [] [0, 1, 2] rfl rfl (by decide) (by decide) (by decide) rfl ?_
  refine s_iload C (pc := 62) dX1_pairNorm_62 6 rfl ?_
  refine s_iload C (pc := 64) dX1_pairNorm_64 7 rfl ?_
  refine s_calli C (pc := 66) (wr := [(h, .inr (1, [.ref hp, .ref hq, .int (nI n), .int o, .int f, .int ll])), (hp, .inl (X.2.1, 4, .inl (P))), (hq, .inl (X.2.1, 4, .inl (Q)))]) (wc' := []) (wn := [(h, .inr (1, [.ref hp, .ref hq, .int (nI n), .int o, .int f, .int ll])), (hp, .inl (X.2.1, 4, .inl (P))), (hq, .inl (X.2.1, 4, .inl (Q)))]) (r_SN C (As := [.int (P i), .int (Q i), .int c1, .int d1]) (rest := [.int (imI (P j) (Q j) a b)]) (kX2_imaginaryPart l X (P i) (Q i) c1 d1 ) ⟨va_cnB 4 C.ts gX1_pairNorm_X2_imaginaryPart_n50 rfl rfl rfl (C.nm 16 rfl) (C.ts _ (List.mem_of_getElem? (i := 18) rfl)) (by decide +kernel) ⟨Nat.le_of_ble_eq_true rfl, Nat.le_of_ble_eq_true rfl⟩, C.ts _ (List.mem_of_getElem? (i := 20) rfl), trivial⟩ [] (by decide) rfl rfl (Nat.le_of_ble_eq_true rfl) rfl dX1_pairNorm_66 ⟨Nat.zero_le _, Nat.zero_le _⟩) [] [0, 1, 2] [0, 1, 2] rfl rfl (by decide) (by decide) (by decide) rfl ?_
  refine s_isub C (pc := 69) dX1_pairNorm_69 ?_
  refine s_istore C (pc := 70) (ls' := [(8, .int ((imI (P j) (Q j) a b) - (imI (P i) (Q i) c1 d1))), (7, .int ((reI (P j) (Q j) a b) - (reI (P i) (Q i) c1 d1))), (0, .ref h), (1, .int (nI i)), (2, .int (nI j)), (3, .int a), (4, .int b), (5, .int c1), (6, .int d1)]) dX1_pairNorm_70 (by decide) rfl ?_
  refine s_iload C (pc := 72) dX1_pairNorm_72 1 rfl ?_
  refine s_iload C (pc := 74) dX1_pairNorm_74 1 rfl ?_
  refine s_imul C (pc := 76) dX1_pairNorm_76 ?_
  refine s_iload C (pc := 77) dX1_pairNorm_77 0 rfl ?_
  refine s_iload C (pc := 79) dX1_pairNorm_79 0 rfl ?_
  refine s_imul C (pc := 81) dX1_pairNorm_81 ?_
  refine s_iadd C (pc := 82) dX1_pairNorm_82 ?_
  exact s_iret C (pc := 83) hr hlk [0, 1, 2] (by decide) (rfl) (rfl) dX1_pairNorm_83

set_option maxHeartbeats 4000000 in
set_option maxRecDepth 100000 in
theorem kX0_kindOf (l : Launch) (X : XT) (hg hgn z : Nat) (F : Nat → Int32) (ar0 lf gl : Int64) (v : Int32)  : KI l yX0_kindOf wsX0_kindOf ({ frames := 0, cells := 0, slots := 0, locals := 0 }) X [.ref hg, .int v] [(hg, .inr (0, [.ref hgn, .int (nI z), .long ar0, .long lf, .long gl])), (hgn, .inl (X.2.1, 144, .inl (F)))] [(hg, .inr (0, [.ref hgn, .int (nI z), .long ar0, .long lf, .long gl])), (hgn, .inl (X.2.1, 144, .inl (F)))] (kdI v lf gl) := by
  refine k_ofI (cc := cX0_kindOf) (own := RX0) (maxL := 2) (ret := (some .int)) (ls0 := [(0, .ref hg), (1, .int v)]) (by decide) rfl rfl (Nat.le_of_ble_eq_true rfl) rfl ?_
  intro p e s m args below meth c A g C hr hlk
  refine s_iload_n C (pc := 0) dX0_kindOf_0 rfl 1 rfl ?_
  refine s_if_ne C (pc := 1) (tgt := 6) dX0_kindOf_1 (by decide) (fun c1 => ?_) (fun c1 => ?_)
  · skip
    refine s_iload_n C (pc := 6) dX0_kindOf_6 rfl 1 rfl ?_
    refine s_i2l C (pc := 7) dX0_kindOf_7 ?_
    refine s_aload_n C (pc := 8) dX0_kindOf_8 rfl 0 rfl ?_
    refine s_get C (pc := 9) (T := TX0) (N := 5) (fun _ h => (List.mem_cons_of_mem _ (List.mem_append_right _ h))) 0 rfl rfl 3 (by decide) (List.mem_of_getElem? (i := 1) rfl) rfl rfl dX0_kindOf_9 ?_
    refine s_lcmp_lt C (pc := 12) (tgt := 18) dX0_kindOf_12 dX0_kindOf_13 (by decide) (fun c12 => ?_) (fun c12 => ?_)
    · skip
      refine s_iload_n C (pc := 18) dX0_kindOf_18 rfl 1 rfl ?_
      refine s_i2l C (pc := 19) dX0_kindOf_19 ?_
      refine s_aload_n C (pc := 20) dX0_kindOf_20 rfl 0 rfl ?_
      refine s_get C (pc := 21) (T := TX0) (N := 5) (fun _ h => (List.mem_cons_of_mem _ (List.mem_append_right _ h))) 0 rfl rfl 4 (by decide) (List.mem_of_getElem? (i := 2) rfl) rfl rfl dX0_kindOf_21 ?_
      refine s_lcmp_gt C (pc := 24) (tgt := 32) dX0_kindOf_24 dX0_kindOf_25 (by decide) (fun c24 => ?_) (fun c24 => ?_)
      · skip
        refine s_iconst C (pc := 32) (v := 3) dX0_kindOf_32 (by decide) ?_
        exact s_iret C (pc := 33) hr hlk [0, 1] (by decide) (rfl) (by unfold kdI; rw [if_neg c1, if_pos c12, if_pos c24]) dX0_kindOf_33
      · skip
        refine s_iconst C (pc := 28) (v := 2) dX0_kindOf_28 (by decide) ?_
        refine s_goto C (pc := 29) (tgt := 33) dX0_kindOf_29 (by decide) ?_
        exact s_iret C (pc := 33) hr hlk [0, 1] (by decide) (rfl) (by unfold kdI; rw [if_neg c1, if_pos c12, if_neg c24]) dX0_kindOf_33
    · skip
      refine s_iconst C (pc := 16) (v := 1) dX0_kindOf_16 (by decide) ?_
      exact s_iret C (pc := 17) hr hlk [0, 1] (by decide) (rfl) (by unfold kdI; rw [if_neg c1, if_neg c12]) dX0_kindOf_17
  · skip
    refine s_iconst C (pc := 4) (v := 0) dX0_kindOf_4 (by decide) ?_
    exact s_iret C (pc := 5) hr hlk [0, 1] (by decide) (rfl) (by unfold kdI; rw [if_pos c1]) dX0_kindOf_5

set_option maxHeartbeats 4000000 in
set_option maxRecDepth 100000 in
theorem kX0_numerator (l : Launch) (X : XT) (hg hgn z : Nat) (F : Nat → Int32) (ar0 lf gl : Int64) (v : Int32)  : KL l yX0_numerator wsX0_numerator ({ frames := 1, cells := 0, slots := 0, locals := 30 }) X [.ref hg, .int v] [(hg, .inr (0, [.ref hgn, .int (nI z), .long ar0, .long lf, .long gl])), (hgn, .inl (X.2.1, 144, .inl (F)))] [(hg, .inr (0, [.ref hgn, .int (nI z), .long ar0, .long lf, .long gl])), (hgn, .inl (X.2.1, 144, .inl (F)))] (dvL v.toInt64 (gcL v.toInt64 ar0)) := by
  refine k_ofL (cc := cX0_numerator) (own := RX0) (maxL := 2) (ret := (some .long)) (ls0 := [(0, .ref hg), (1, .int v)]) (by decide) rfl rfl (Nat.le_of_ble_eq_true rfl) rfl ?_
  intro p e s m args below meth c A g C hr hlk
  refine s_iload_n C (pc := 0) dX0_numerator_0 rfl 1 rfl ?_
  refine s_i2l C (pc := 1) dX0_numerator_1 ?_
  refine s_iload_n C (pc := 2) dX0_numerator_2 rfl 1 rfl ?_
  refine s_i2l C (pc := 3) dX0_numerator_3 ?_
  refine s_aload_n C (pc := 4) dX0_numerator_4 rfl 0 rfl ?_
  refine s_get C (pc := 5) (T := TX0) (N := 5) (fun _ h => (List.mem_cons_of_mem _ (List.mem_append_right _ h))) 0 rfl rfl 2 (by decide) (List.mem_of_getElem? (i := 1) rfl) rfl rfl dX0_numerator_5 ?_
  refine s_calll C (pc := 8) (wr := [(hg, .inr (0, [.ref hgn, .int (nI z), .long ar0, .long lf, .long gl])), (hgn, .inl (X.2.1, 144, .inl (F)))]) (wc' := []) (wn := [(hg, .inr (0, [.ref hgn, .int (nI z), .long ar0, .long lf, .long gl])), (hgn, .inl (X.2.1, 144, .inl (F)))]) (r_SN C (As := [.long v.toInt64, .long ar0]) (rest := [.long v.toInt64]) (kX2_gcd l X v.toInt64 ar0 ) ⟨va_cnB 2 C.ts gX0_numerator_X2_gcd_n101 rfl rfl rfl (C.nm 18 rfl) (C.ts _ (List.mem_of_getElem? (i := 3) rfl)) (by decide +kernel) ⟨Nat.le_of_ble_eq_true rfl, Nat.le_of_ble_eq_true rfl⟩, C.ts _ (List.mem_of_getElem? (i := 2) rfl), trivial⟩ [] (by decide) rfl rfl (Nat.le_of_ble_eq_true rfl) rfl dX0_numerator_8 ⟨Nat.zero_le _, Nat.zero_le _⟩) [] [0, 1] [0, 1] rfl rfl (by decide) (by decide) (by decide) rfl ?_
  refine s_calll C (pc := 11) (wr := [(hg, .inr (0, [.ref hgn, .int (nI z), .long ar0, .long lf, .long gl])), (hgn, .inl (X.2.1, 144, .inl (F)))]) (wc' := []) (wn := [(hg, .inr (0, [.ref hgn, .int (nI z), .long ar0, .long lf, .long gl])), (hgn, .inl (X.2.1, 144, .inl (F)))]) (r_SN C (As := [.long v.toInt64, .long (gcL v.toInt64 ar0)]) (rest := []) (kX2_divided l X v.toInt64 (gcL v.toInt64 ar0) ) ⟨va_cnB 2 C.ts gX0_numerator_X2_divided_n45 rfl rfl rfl (C.nm 13 rfl) (C.ts _ (List.mem_of_getElem? (i := 3) rfl)) (by decide +kernel) ⟨Nat.le_of_ble_eq_true rfl, Nat.le_of_ble_eq_true rfl⟩, C.ts _ (List.mem_of_getElem? (i := 5) rfl), trivial⟩ [] (by decide) rfl rfl (Nat.le_of_ble_eq_true rfl) rfl dX0_numerator_11 ⟨Nat.zero_le _, Nat.zero_le _⟩) [] [0, 1] [0, 1] rfl rfl (by decide) (by decide) (by decide) rfl ?_
  exact s_lret C (pc := 14) hr hlk [0, 1] (by decide) (rfl) (rfl) dX0_numerator_14

set_option maxHeartbeats 4000000 in
set_option maxRecDepth 100000 in
theorem kX0_denominator (l : Launch) (X : XT) (hg hgn z : Nat) (F : Nat → Int32) (ar0 lf gl : Int64) (v : Int32)  : KL l yX0_denominator wsX0_denominator ({ frames := 1, cells := 0, slots := 0, locals := 30 }) X [.ref hg, .int v] [(hg, .inr (0, [.ref hgn, .int (nI z), .long ar0, .long lf, .long gl])), (hgn, .inl (X.2.1, 144, .inl (F)))] [(hg, .inr (0, [.ref hgn, .int (nI z), .long ar0, .long lf, .long gl])), (hgn, .inl (X.2.1, 144, .inl (F)))] (dvL ar0 (gcL v.toInt64 ar0)) := by
  refine k_ofL (cc := cX0_denominator) (own := RX0) (maxL := 2) (ret := (some .long)) (ls0 := [(0, .ref hg), (1, .int v)]) (by decide) rfl rfl (Nat.le_of_ble_eq_true rfl) rfl ?_
  intro p e s m args below meth c A g C hr hlk
  refine s_aload_n C (pc := 0) dX0_denominator_0 rfl 0 rfl ?_
  refine s_get C (pc := 1) (T := TX0) (N := 5) (fun _ h => (List.mem_cons_of_mem _ (List.mem_append_right _ h))) 0 rfl rfl 2 (by decide) (List.mem_of_getElem? (i := 1) rfl) rfl rfl dX0_denominator_1 ?_
  refine s_iload_n C (pc := 4) dX0_denominator_4 rfl 1 rfl ?_
  refine s_i2l C (pc := 5) dX0_denominator_5 ?_
  refine s_aload_n C (pc := 6) dX0_denominator_6 rfl 0 rfl ?_
  refine s_get C (pc := 7) (T := TX0) (N := 5) (fun _ h => (List.mem_cons_of_mem _ (List.mem_append_right _ h))) 0 rfl rfl 2 (by decide) (List.mem_of_getElem? (i := 1) rfl) rfl rfl dX0_denominator_7 ?_
  refine s_calll C (pc := 10) (wr := [(hg, .inr (0, [.ref hgn, .int (nI z), .long ar0, .long lf, .long gl])), (hgn, .inl (X.2.1, 144, .inl (F)))]) (wc' := []) (wn := [(hg, .inr (0, [.ref hgn, .int (nI z), .long ar0, .long lf, .long gl])), (hgn, .inl (X.2.1, 144, .inl (F)))]) (r_SN C (As := [.long v.toInt64, .long ar0]) (rest := [.long ar0]) (kX2_gcd l X v.toInt64 ar0 ) ⟨va_cnB 2 C.ts gX0_denominator_X2_gcd_n101 rfl rfl rfl (C.nm 18 rfl) (C.ts _ (List.mem_of_getElem? (i := 3) rfl)) (by decide +kernel) ⟨Nat.le_of_ble_eq_true rfl, Nat.le_of_ble_eq_true rfl⟩, C.ts _ (List.mem_of_getElem? (i := 2) rfl), trivial⟩ [] (by decide) rfl rfl (Nat.le_of_ble_eq_true rfl) rfl dX0_denominator_10 ⟨Nat.zero_le _, Nat.zero_le _⟩) [] [0, 1] [0, 1] rfl rfl (by decide) (by decide) (by decide) rfl ?_
  refine s_calll C (pc := 13) (wr := [(hg, .inr (0, [.ref hgn, .int (nI z), .long ar0, .long lf, .long gl])), (hgn, .inl (X.2.1, 144, .inl (F)))]) (wc' := []) (wn := [(hg, .inr (0, [.ref hgn, .int (nI z), .long ar0, .long lf, .long gl])), (hgn, .inl (X.2.1, 144, .inl (F)))]) (r_SN C (As := [.long ar0, .long (gcL v.toInt64 ar0)]) (rest := []) (kX2_divided l X ar0 (gcL v.toInt64 ar0) ) ⟨va_cnB 2 C.ts gX0_denominator_X2_divided_n45 rfl rfl rfl (C.nm 13 rfl) (C.ts _ (List.mem_of_getElem? (i := 3) rfl)) (by decide +kernel) ⟨Nat.le_of_ble_eq_true rfl, Nat.le_of_ble_eq_true rfl⟩, C.ts _ (List.mem_of_getElem? (i := 5) rfl), trivial⟩ [] (by decide) rfl rfl (Nat.le_of_ble_eq_true rfl) rfl dX0_denominator_13 ⟨Nat.zero_le _, Nat.zero_le _⟩) [] [0, 1] [0, 1] rfl rfl (by decide) (by decide) (by decide) rfl ?_
  exact s_lret C (pc := 16) hr hlk [0, 1] (by decide) (rfl) (rfl) dX0_denominator_16

set_option maxHeartbeats 4000000 in
set_option maxRecDepth 100000 in
theorem kX0_period (l : Launch) (X : XT) (hg hgn z : Nat) (F : Nat → Int32) (ar0 lf gl : Int64) (v : Int32)  : KI l yX0_period wsX0_period ({ frames := 1, cells := 0, slots := 0, locals := 25 }) X [.ref hg, .int v] [(hg, .inr (0, [.ref hgn, .int (nI z), .long ar0, .long lf, .long gl])), (hgn, .inl (X.2.1, 144, .inl (F)))] [(hg, .inr (0, [.ref hgn, .int (nI z), .long ar0, .long lf, .long gl])), (hgn, .inl (X.2.1, 144, .inl (F)))] (prI ar0 v) := by
  refine k_ofI (cc := cX0_period) (own := RX0) (maxL := 2) (ret := (some .int)) (ls0 := [(0, .ref hg), (1, .int v)]) (by decide) rfl rfl (Nat.le_of_ble_eq_true rfl) rfl ?_
  intro p e s m args below meth c A g C hr hlk
  refine s_aload_n C (pc := 0) dX0_period_0 rfl 0 rfl ?_
  refine s_get C (pc := 1) (T := TX0) (N := 5) (fun _ h => (List.mem_cons_of_mem _ (List.mem_append_right _ h))) 0 rfl rfl 2 (by decide) (List.mem_of_getElem? (i := 1) rfl) rfl rfl dX0_period_1 ?_
  refine s_iload_n C (pc := 4) dX0_period_4 rfl 1 rfl ?_
  refine s_i2l C (pc := 5) dX0_period_5 ?_
  refine s_calll C (pc := 6) (wr := [(hg, .inr (0, [.ref hgn, .int (nI z), .long ar0, .long lf, .long gl])), (hgn, .inl (X.2.1, 144, .inl (F)))]) (wc' := []) (wn := [(hg, .inr (0, [.ref hgn, .int (nI z), .long ar0, .long lf, .long gl])), (hgn, .inl (X.2.1, 144, .inl (F)))]) (r_SN C (As := [.long ar0, .long v.toInt64]) (rest := []) (kX2_divided l X ar0 v.toInt64 ) ⟨va_cnB 2 C.ts gX0_period_X2_divided_n45 rfl rfl rfl (C.nm 13 rfl) (C.ts _ (List.mem_of_getElem? (i := 3) rfl)) (by decide +kernel) ⟨Nat.le_of_ble_eq_true rfl, Nat.le_of_ble_eq_true rfl⟩, C.ts _ (List.mem_of_getElem? (i := 2) rfl), trivial⟩ [] (by decide) rfl rfl (Nat.le_of_ble_eq_true rfl) rfl dX0_period_6 ⟨Nat.zero_le _, Nat.zero_le _⟩) [] [0, 1] [0, 1] rfl rfl (by decide) (by decide) (by decide) rfl ?_
  refine s_calli C (pc := 9) (wr := [(hg, .inr (0, [.ref hgn, .int (nI z), .long ar0, .long lf, .long gl])), (hgn, .inl (X.2.1, 144, .inl (F)))]) (wc' := []) (wn := [(hg, .inr (0, [.ref hgn, .int (nI z), .long ar0, .long lf, .long gl])), (hgn, .inl (X.2.1, 144, .inl (F)))]) (r_SN C (As := [.long (dvL ar0 v.toInt64)]) (rest := []) (kX2_root l X (dvL ar0 v.toInt64) ) ⟨va_cnB 1 C.ts gX0_period_X2_root_n104 rfl rfl rfl (C.nm 31 rfl) (C.ts _ (List.mem_of_getElem? (i := 3) rfl)) (by decide +kernel) ⟨Nat.le_of_ble_eq_true rfl, Nat.le_of_ble_eq_true rfl⟩, C.ts _ (List.mem_of_getElem? (i := 5) rfl), trivial⟩ [] (by decide) rfl rfl (Nat.le_of_ble_eq_true rfl) rfl dX0_period_9 ⟨Nat.zero_le _, Nat.zero_le _⟩) [] [0, 1] [0, 1] rfl rfl (by decide) (by decide) (by decide) rfl ?_
  exact s_iret C (pc := 12) hr hlk [0, 1] (by decide) (rfl) (rfl) dX0_period_12

set_option maxHeartbeats 4000000 in
set_option maxRecDepth 100000 in
theorem kX0_add (l : Launch) (X : XT) (hg hgn z : Nat) (F : Nat → Int32) (ar0 lf gl : Int64) (v : Int32) (hz : z < 144) : KV l yX0_add wsX0_add ({ frames := 0, cells := 0, slots := 0, locals := 0 }) X [.ref hg, .int v] [(hg, .inr (0, [.ref hgn, .int (nI z), .long ar0, .long lf, .long gl])), (hgn, .inl (X.2.1, 144, .inl (F)))] [(hg, .inr (0, [.ref hgn, .int (nI (z + 1)), .long ar0, .long lf, .long gl])), (hgn, .inl (X.2.1, 144, .inl (upd F z v)))] := by
  refine k_ofV (cc := cX0_add) (own := RX0) (maxL := 2) (ret := none) (ls0 := [(0, .ref hg), (1, .int v)]) (by decide) rfl rfl (Nat.le_of_ble_eq_true rfl) rfl ?_
  intro p e s m args below meth c A g C hr hlk
  refine s_aload_n C (pc := 0) dX0_add_0 rfl 0 rfl ?_
  refine s_get C (pc := 1) (T := TX0) (N := 5) (fun _ h => (List.mem_cons_of_mem _ (List.mem_append_right _ h))) 0 rfl rfl 1 (by decide) (List.mem_of_getElem? (i := 1) rfl) rfl rfl dX0_add_1 ?_
  refine s_if_lt C (pc := 4) (tgt := 37) dX0_add_4 (by decide) (fun h => absurd h (nI_pos (by omega))) (fun c4 => ?_)
  refine s_aload_n C (pc := 7) dX0_add_7 rfl 0 rfl ?_
  refine s_get C (pc := 8) (T := TX0) (N := 5) (fun _ h => (List.mem_cons_of_mem _ (List.mem_append_right _ h))) 0 rfl rfl 1 (by decide) (List.mem_of_getElem? (i := 1) rfl) rfl rfl dX0_add_8 ?_
  refine s_sipush C (pc := 11) (v := 144) dX0_add_11 (by decide) ?_
  refine s_icmp_ge C (pc := 14) (tgt := 37) dX0_add_14 (by decide) (fun h => absurd h (fun h2 => absurd (nat_le (a := 144) (b := z) (by omega) (by omega) h2) (by omega))) (fun c14 => ?_)
  refine s_aload_n C (pc := 17) dX0_add_17 rfl 0 rfl ?_
  refine s_get C (pc := 18) (T := TX0) (N := 5) (fun _ h => (List.mem_cons_of_mem _ (List.mem_append_right _ h))) 0 rfl rfl 0 (by decide) (List.mem_of_getElem? (i := 2) rfl) rfl rfl dX0_add_18 ?_
  refine s_aload_n C (pc := 21) dX0_add_21 rfl 0 rfl ?_
  refine s_get C (pc := 22) (T := TX0) (N := 5) (fun _ h => (List.mem_cons_of_mem _ (List.mem_append_right _ h))) 0 rfl rfl 1 (by decide) (List.mem_of_getElem? (i := 1) rfl) rfl rfl dX0_add_22 ?_
  refine s_iload_n C (pc := 25) dX0_add_25 rfl 1 rfl ?_
  refine s_iast C (pc := 26) (ws' := [(hg, .inr (0, [.ref hgn, .int (nI z), .long ar0, .long lf, .long gl])), (hgn, .inl (X.2.1, 144, .inl (upd F z v)))]) 1 rfl z rfl (by omega) (by decide) rfl dX0_add_26 ?_
  refine s_aload_n C (pc := 27) dX0_add_27 rfl 0 rfl ?_
  refine s_dup C (pc := 28) dX0_add_28 rfl ?_
  refine s_get C (pc := 29) (T := TX0) (N := 5) (fun _ h => (List.mem_cons_of_mem _ (List.mem_append_right _ h))) 0 rfl rfl 1 (by decide) (List.mem_of_getElem? (i := 1) rfl) rfl rfl dX0_add_29 ?_
  refine s_iconst C (pc := 32) (v := 1) dX0_add_32 (by decide) ?_
  refine s_iadd C (pc := 33) dX0_add_33 ?_
  refine s_top C (y := nI (z + 1)) (nI_add _ _) ?_
  refine s_put C (pc := 34) (T := TX0) (N := 5) (ws' := [(hg, .inr (0, [.ref hgn, .int (nI (z + 1)), .long ar0, .long lf, .long gl])), (hgn, .inl (X.2.1, 144, .inl (upd F z v)))]) (fun _ h => (List.mem_cons_of_mem _ (List.mem_append_right _ h))) 0 rfl rfl tyX0 tyX0_ok nmX0 1 (by decide) (List.mem_of_getElem? (i := 1) rfl) rfl rfl rfl rfl (Nat.le_of_ble_eq_true rfl) rfl dX0_add_34 ?_
  exact s_vret C (pc := 37) hr hlk [0, 1] (by decide) (rfl) dX0_add_37

set_option maxHeartbeats 4000000 in
set_option maxRecDepth 100000 in
theorem kX0_bandCount (l : Launch) (X : XT) (hg hgn z : Nat) (F : Nat → Int32) (ar0 lf gl : Int64) (hz : z ≤ 144) : KI l yX0_bandCount wsX0_bandCount ({ frames := 1, cells := 0, slots := 0, locals := 21 }) X [.ref hg] [(hg, .inr (0, [.ref hgn, .int (nI z), .long ar0, .long lf, .long gl])), (hgn, .inl (X.2.1, 144, .inl (F)))] [(hg, .inr (0, [.ref hgn, .int (nI z), .long ar0, .long lf, .long gl])), (hgn, .inl (X.2.1, 144, .inl (F)))] (bcF F lf gl z) := by
  refine k_ofI (cc := cX0_bandCount) (own := RX0) (maxL := 3) (ret := (some .int)) (ls0 := [(0, .ref hg)]) (by decide) rfl rfl (Nat.le_of_ble_eq_true rfl) rfl ?_
  intro p e s m args below meth c A g C hr hlk
  refine s_iconst C (pc := 0) (v := 0) dX0_bandCount_0 (by decide) ?_
  refine s_istore_n C (pc := 1) (ls' := [(1, .int 0), (0, .ref hg)]) dX0_bandCount_1 rfl (by decide) rfl ?_
  refine s_iconst C (pc := 2) (v := 0) dX0_bandCount_2 (by decide) ?_
  refine s_istore_n C (pc := 3) (ls' := [(2, .int 0), (1, .int 0), (0, .ref hg)]) dX0_bandCount_3 rfl (by decide) rfl ?_
  have L4 : ∀ (n_ : Nat) (k : Nat), (k ≤ z) → z + 1 ≤ k + n_ → g [(hg, .inr (0, [.ref hgn, .int (nI z), .long ar0, .long lf, .long gl])), (hgn, .inl (X.2.1, 144, .inl (F)))] 4 [(0, .ref hg), (1, .int (bcF F lf gl k)), (2, .int (nI k))] [] := by
    intro n_
    induction n_ with
    | zero =>
      intro k hk hf
      exact absurd hf (by omega)
    | succ n_ ih4 =>
      intro k hk hf4
      refine s_iload_n C (pc := 4) dX0_bandCount_4 rfl 2 rfl ?_
      refine s_aload_n C (pc := 5) dX0_bandCount_5 rfl 0 rfl ?_
      refine s_get C (pc := 6) (T := TX0) (N := 5) (fun _ h => (List.mem_cons_of_mem _ (List.mem_append_right _ h))) 0 rfl rfl 1 (by decide) (List.mem_of_getElem? (i := 1) rfl) rfl rfl dX0_bandCount_6 ?_
      refine s_icmp_ge C (pc := 9) (tgt := 42) dX0_bandCount_9 (by decide) (fun c9 => ?_) (fun c9 => ?_)
      · skip
        have e9 := nat_le (a := z) (b := k) (by omega) (by omega) c9
        have hs0 : z = k := by omega
        subst hs0
        refine s_iload_n C (pc := 42) dX0_bandCount_42 rfl 1 rfl ?_
        exact s_iret C (pc := 43) hr hlk [0, 1] (by decide) (rfl) (rfl) dX0_bandCount_43
      · skip
        have e9 := nat_nle (a := z) (b := k) (by omega) (by omega) c9
        refine s_iload_n C (pc := 12) dX0_bandCount_12 rfl 2 rfl ?_
        refine s_sipush C (pc := 13) (v := 144) dX0_bandCount_13 (by decide) ?_
        refine s_icmp_ge C (pc := 16) (tgt := 42) dX0_bandCount_16 (by decide) (fun h => absurd h (fun h2 => absurd (nat_le (a := 144) (b := k) (by omega) (by omega) h2) (by omega))) (fun c16 => ?_)
        refine s_aload_n C (pc := 19) dX0_bandCount_19 rfl 0 rfl ?_
        refine s_aload_n C (pc := 20) dX0_bandCount_20 rfl 0 rfl ?_
        refine s_get C (pc := 21) (T := TX0) (N := 5) (fun _ h => (List.mem_cons_of_mem _ (List.mem_append_right _ h))) 0 rfl rfl 0 (by decide) (List.mem_of_getElem? (i := 2) rfl) rfl rfl dX0_bandCount_21 ?_
        refine s_iload_n C (pc := 24) dX0_bandCount_24 rfl 2 rfl ?_
        refine s_iald C (pc := 25) 1 rfl k rfl (by omega) (by decide) dX0_bandCount_25 ?_
        refine s_calli C (pc := 26) (wr := []) (wc' := [(hg, .inr (0, [.ref hgn, .int (nI z), .long ar0, .long lf, .long gl])), (hgn, .inl (X.2.1, 144, .inl (F)))]) (wn := [(hg, .inr (0, [.ref hgn, .int (nI z), .long ar0, .long lf, .long gl])), (hgn, .inl (X.2.1, 144, .inl (F)))]) (r_V C (As := [.int (F k)]) (rest := []) (kX0_kindOf l X hg hgn z F ar0 lf gl (F k) ) (cwV 1 C.ts gX0_bandCount_X0_kindOf rfl rfl rfl (by decide +kernel) ⟨Nat.le_of_ble_eq_true rfl, Nat.le_of_ble_eq_true rfl⟩) (q0 := 0) rfl rfl [0, 1] (by decide) rfl rfl (Nat.le_of_ble_eq_true rfl) rfl dX0_bandCount_26 ⟨Nat.zero_le _, Nat.zero_le _⟩) [0, 1] [] [0, 1] rfl rfl (by decide) (by decide) (by decide) rfl ?_
        refine s_iconst C (pc := 29) (v := 3) dX0_bandCount_29 (by decide) ?_
        refine s_icmp_ne C (pc := 30) (tgt := 36) dX0_bandCount_30 (by decide) (fun c30 => ?_) (fun c30 => ?_)
        · skip
          refine s_iinc C (pc := 36) (v := nI (k + 1)) (ls' := [(2, .int (nI (k + 1))), (0, .ref hg), (1, .int (bcF F lf gl k))]) dX0_bandCount_36 2 rfl (nI_1 _) (by decide) rfl ?_
          refine s_goto C (pc := 39) (tgt := 4) dX0_bandCount_39 (by decide) ?_
          refine s_loc C (ls' := [(0, .ref hg), (1, .int (bcF F lf gl k)), (2, .int (nI (k + 1)))]) [1, 2, 0] rfl ?_
          have hb := ih4 (k + 1) (by omega) (by omega)
          rw [show bcF F lf gl (k + 1) = bcF F lf gl k from if_neg c30] at hb
          exact hb
        · skip
          refine s_iinc C (pc := 33) (v := (bcF F lf gl k) + 4) (ls' := [(1, .int ((bcF F lf gl k) + 4)), (0, .ref hg), (2, .int (nI k))]) dX0_bandCount_33 1 rfl rfl (by decide) rfl ?_
          refine s_iinc C (pc := 36) (v := nI (k + 1)) (ls' := [(2, .int (nI (k + 1))), (1, .int ((bcF F lf gl k) + 4)), (0, .ref hg)]) dX0_bandCount_36 2 rfl (nI_1 _) (by decide) rfl ?_
          refine s_goto C (pc := 39) (tgt := 4) dX0_bandCount_39 (by decide) ?_
          refine s_loc C (ls' := [(0, .ref hg), (1, .int ((bcF F lf gl k) + 4)), (2, .int (nI (k + 1)))]) [2, 1, 0] rfl ?_
          have hb := ih4 (k + 1) (by omega) (by omega)
          rw [show bcF F lf gl (k + 1) = bcF F lf gl k + 4 from if_pos c30] at hb
          exact hb
  refine s_loc C (ls' := [(0, .ref hg), (1, .int 0), (2, .int 0)]) [2, 1, 0] rfl ?_
  exact L4 (z + 1) 0 (Nat.zero_le _) (by omega)

set_option maxHeartbeats 4000000 in
set_option maxRecDepth 100000 in
theorem kX0_combinationsWith (l : Launch) (X : XT) (hg hgn z : Nat) (F : Nat → Int32) (ar0 lf gl : Int64) (v : Int32) (hz : z ≤ 144) : KI l yX0_combinationsWith wsX0_combinationsWith ({ frames := 0, cells := 0, slots := 0, locals := 0 }) X [.ref hg, .int v] [(hg, .inr (0, [.ref hgn, .int (nI z), .long ar0, .long lf, .long gl])), (hgn, .inl (X.2.1, 144, .inl (F)))] [(hg, .inr (0, [.ref hgn, .int (nI z), .long ar0, .long lf, .long gl])), (hgn, .inl (X.2.1, 144, .inl (F)))] (cwF F v z) := by
  refine k_ofI (cc := cX0_combinationsWith) (own := RX0) (maxL := 4) (ret := (some .int)) (ls0 := [(0, .ref hg), (1, .int v)]) (by decide) rfl rfl (Nat.le_of_ble_eq_true rfl) rfl ?_
  intro p e s m args below meth c A g C hr hlk
  refine s_iconst C (pc := 0) (v := 0) dX0_combinationsWith_0 (by decide) ?_
  refine s_istore_n C (pc := 1) (ls' := [(2, .int 0), (0, .ref hg), (1, .int v)]) dX0_combinationsWith_1 rfl (by decide) rfl ?_
  refine s_iconst C (pc := 2) (v := 0) dX0_combinationsWith_2 (by decide) ?_
  refine s_istore_n C (pc := 3) (ls' := [(3, .int 0), (2, .int 0), (0, .ref hg), (1, .int v)]) dX0_combinationsWith_3 rfl (by decide) rfl ?_
  have L4 : ∀ (n_ : Nat) (k : Nat), (k ≤ z) → z + 1 ≤ k + n_ → g [(hg, .inr (0, [.ref hgn, .int (nI z), .long ar0, .long lf, .long gl])), (hgn, .inl (X.2.1, 144, .inl (F)))] 4 [(0, .ref hg), (1, .int v), (2, .int (cwF F v k)), (3, .int (nI k))] [] := by
    intro n_
    induction n_ with
    | zero =>
      intro k hk hf
      exact absurd hf (by omega)
    | succ n_ ih4 =>
      intro k hk hf4
      refine s_iload_n C (pc := 4) dX0_combinationsWith_4 rfl 3 rfl ?_
      refine s_aload_n C (pc := 5) dX0_combinationsWith_5 rfl 0 rfl ?_
      refine s_get C (pc := 6) (T := TX0) (N := 5) (fun _ h => (List.mem_cons_of_mem _ (List.mem_append_right _ h))) 0 rfl rfl 1 (by decide) (List.mem_of_getElem? (i := 1) rfl) rfl rfl dX0_combinationsWith_6 ?_
      refine s_icmp_ge C (pc := 9) (tgt := 38) dX0_combinationsWith_9 (by decide) (fun c9 => ?_) (fun c9 => ?_)
      · skip
        have e9 := nat_le (a := z) (b := k) (by omega) (by omega) c9
        have hs0 : z = k := by omega
        subst hs0
        refine s_iload_n C (pc := 38) dX0_combinationsWith_38 rfl 2 rfl ?_
        exact s_iret C (pc := 39) hr hlk [0, 1] (by decide) (rfl) (rfl) dX0_combinationsWith_39
      · skip
        have e9 := nat_nle (a := z) (b := k) (by omega) (by omega) c9
        refine s_iload_n C (pc := 12) dX0_combinationsWith_12 rfl 3 rfl ?_
        refine s_sipush C (pc := 13) (v := 144) dX0_combinationsWith_13 (by decide) ?_
        refine s_icmp_ge C (pc := 16) (tgt := 38) dX0_combinationsWith_16 (by decide) (fun h => absurd h (fun h2 => absurd (nat_le (a := 144) (b := k) (by omega) (by omega) h2) (by omega))) (fun c16 => ?_)
        refine s_aload_n C (pc := 19) dX0_combinationsWith_19 rfl 0 rfl ?_
        refine s_get C (pc := 20) (T := TX0) (N := 5) (fun _ h => (List.mem_cons_of_mem _ (List.mem_append_right _ h))) 0 rfl rfl 0 (by decide) (List.mem_of_getElem? (i := 2) rfl) rfl rfl dX0_combinationsWith_20 ?_
        refine s_iload_n C (pc := 23) dX0_combinationsWith_23 rfl 3 rfl ?_
        refine s_iald C (pc := 24) 1 rfl k rfl (by omega) (by decide) dX0_combinationsWith_24 ?_
        refine s_iload_n C (pc := 25) dX0_combinationsWith_25 rfl 1 rfl ?_
        refine s_icmp_ne C (pc := 26) (tgt := 32) dX0_combinationsWith_26 (by decide) (fun c26 => ?_) (fun c26 => ?_)
        · skip
          refine s_iinc C (pc := 32) (v := nI (k + 1)) (ls' := [(3, .int (nI (k + 1))), (0, .ref hg), (1, .int v), (2, .int (cwF F v k))]) dX0_combinationsWith_32 3 rfl (nI_1 _) (by decide) rfl ?_
          refine s_goto C (pc := 35) (tgt := 4) dX0_combinationsWith_35 (by decide) ?_
          refine s_loc C (ls' := [(0, .ref hg), (1, .int v), (2, .int (cwF F v k)), (3, .int (nI (k + 1)))]) [1, 2, 3, 0] rfl ?_
          have hb := ih4 (k + 1) (by omega) (by omega)
          rw [show cwF F v (k + 1) = cwF F v k from if_neg c26] at hb
          exact hb
        · skip
          refine s_iinc C (pc := 29) (v := (cwF F v k) + 4) (ls' := [(2, .int ((cwF F v k) + 4)), (0, .ref hg), (1, .int v), (3, .int (nI k))]) dX0_combinationsWith_29 2 rfl rfl (by decide) rfl ?_
          refine s_iinc C (pc := 32) (v := nI (k + 1)) (ls' := [(3, .int (nI (k + 1))), (2, .int ((cwF F v k) + 4)), (0, .ref hg), (1, .int v)]) dX0_combinationsWith_32 3 rfl (nI_1 _) (by decide) rfl ?_
          refine s_goto C (pc := 35) (tgt := 4) dX0_combinationsWith_35 (by decide) ?_
          refine s_loc C (ls' := [(0, .ref hg), (1, .int v), (2, .int ((cwF F v k) + 4)), (3, .int (nI (k + 1)))]) [2, 3, 1, 0] rfl ?_
          have hb := ih4 (k + 1) (by omega) (by omega)
          rw [show cwF F v (k + 1) = cwF F v k + 4 from if_pos c26] at hb
          exact hb
  refine s_loc C (ls' := [(0, .ref hg), (1, .int v), (2, .int 0), (3, .int 0)]) [2, 3, 1, 0] rfl ?_
  exact L4 (z + 1) 0 (Nat.zero_le _) (by omega)

set_option maxHeartbeats 4000000 in
set_option maxRecDepth 100000 in
theorem kX0_worstPeriodFound (l : Launch) (X : XT) (hg hgn z : Nat) (F : Nat → Int32) (ar0 lf gl : Int64) (hz : z ≤ 144) : KI l yX0_worstPeriodFound wsX0_worstPeriodFound ({ frames := 2, cells := 0, slots := 0, locals := 46 }) X [.ref hg] [(hg, .inr (0, [.ref hgn, .int (nI z), .long ar0, .long lf, .long gl])), (hgn, .inl (X.2.1, 144, .inl (F)))] [(hg, .inr (0, [.ref hgn, .int (nI z), .long ar0, .long lf, .long gl])), (hgn, .inl (X.2.1, 144, .inl (F)))] (prI ar0 (wlF F lf gl z)) := by
  refine k_ofI (cc := cX0_worstPeriodFound) (own := RX0) (maxL := 3) (ret := (some .int)) (ls0 := [(0, .ref hg)]) (by decide) rfl rfl (Nat.le_of_ble_eq_true rfl) rfl ?_
  intro p e s m args below meth c A g C hr hlk
  refine s_iconst C (pc := 0) (v := 0) dX0_worstPeriodFound_0 (by decide) ?_
  refine s_istore_n C (pc := 1) (ls' := [(1, .int 0), (0, .ref hg)]) dX0_worstPeriodFound_1 rfl (by decide) rfl ?_
  refine s_iconst C (pc := 2) (v := 0) dX0_worstPeriodFound_2 (by decide) ?_
  refine s_istore_n C (pc := 3) (ls' := [(2, .int 0), (1, .int 0), (0, .ref hg)]) dX0_worstPeriodFound_3 rfl (by decide) rfl ?_
  have L4 : ∀ (n_ : Nat) (k : Nat), (k ≤ z) → z + 1 ≤ k + n_ → g [(hg, .inr (0, [.ref hgn, .int (nI z), .long ar0, .long lf, .long gl])), (hgn, .inl (X.2.1, 144, .inl (F)))] 4 [(0, .ref hg), (1, .int (wlF F lf gl k)), (2, .int (nI k))] [] := by
    intro n_
    induction n_ with
    | zero =>
      intro k hk hf
      exact absurd hf (by omega)
    | succ n_ ih4 =>
      intro k hk hf4
      refine s_iload_n C (pc := 4) dX0_worstPeriodFound_4 rfl 2 rfl ?_
      refine s_aload_n C (pc := 5) dX0_worstPeriodFound_5 rfl 0 rfl ?_
      refine s_get C (pc := 6) (T := TX0) (N := 5) (fun _ h => (List.mem_cons_of_mem _ (List.mem_append_right _ h))) 0 rfl rfl 1 (by decide) (List.mem_of_getElem? (i := 1) rfl) rfl rfl dX0_worstPeriodFound_6 ?_
      refine s_icmp_ge C (pc := 9) (tgt := 60) dX0_worstPeriodFound_9 (by decide) (fun c9 => ?_) (fun c9 => ?_)
      · skip
        have e9 := nat_le (a := z) (b := k) (by omega) (by omega) c9
        have hs0 : z = k := by omega
        subst hs0
        refine s_aload_n C (pc := 60) dX0_worstPeriodFound_60 rfl 0 rfl ?_
        refine s_iload_n C (pc := 61) dX0_worstPeriodFound_61 rfl 1 rfl ?_
        refine s_calli C (pc := 62) (wr := []) (wc' := [(hg, .inr (0, [.ref hgn, .int (nI z), .long ar0, .long lf, .long gl])), (hgn, .inl (X.2.1, 144, .inl (F)))]) (wn := [(hg, .inr (0, [.ref hgn, .int (nI z), .long ar0, .long lf, .long gl])), (hgn, .inl (X.2.1, 144, .inl (F)))]) (r_V C (As := [.int (wlF F lf gl z)]) (rest := []) (kX0_period l X hg hgn z F ar0 lf gl (wlF F lf gl z) ) (cwV 1 C.ts gX0_worstPeriodFound_X0_period rfl rfl rfl (by decide +kernel) ⟨Nat.le_of_ble_eq_true rfl, Nat.le_of_ble_eq_true rfl⟩) (q0 := 0) rfl rfl [0, 1] (by decide) rfl rfl (Nat.le_of_ble_eq_true rfl) rfl dX0_worstPeriodFound_62 ⟨Nat.zero_le _, Nat.zero_le _⟩) [0, 1] [] [0, 1] rfl rfl (by decide) (by decide) (by decide) rfl ?_
        exact s_iret C (pc := 65) hr hlk [0, 1] (by decide) (rfl) (rfl) dX0_worstPeriodFound_65
      · skip
        have e9 := nat_nle (a := z) (b := k) (by omega) (by omega) c9
        refine s_iload_n C (pc := 12) dX0_worstPeriodFound_12 rfl 2 rfl ?_
        refine s_sipush C (pc := 13) (v := 144) dX0_worstPeriodFound_13 (by decide) ?_
        refine s_icmp_ge C (pc := 16) (tgt := 60) dX0_worstPeriodFound_16 (by decide) (fun h => absurd h (fun h2 => absurd (nat_le (a := 144) (b := k) (by omega) (by omega) h2) (by omega))) (fun c16 => ?_)
        refine s_aload_n C (pc := 19) dX0_worstPeriodFound_19 rfl 0 rfl ?_
        refine s_aload_n C (pc := 20) dX0_worstPeriodFound_20 rfl 0 rfl ?_
        refine s_get C (pc := 21) (T := TX0) (N := 5) (fun _ h => (List.mem_cons_of_mem _ (List.mem_append_right _ h))) 0 rfl rfl 0 (by decide) (List.mem_of_getElem? (i := 2) rfl) rfl rfl dX0_worstPeriodFound_21 ?_
        refine s_iload_n C (pc := 24) dX0_worstPeriodFound_24 rfl 2 rfl ?_
        refine s_iald C (pc := 25) 1 rfl k rfl (by omega) (by decide) dX0_worstPeriodFound_25 ?_
        refine s_calli C (pc := 26) (wr := []) (wc' := [(hg, .inr (0, [.ref hgn, .int (nI z), .long ar0, .long lf, .long gl])), (hgn, .inl (X.2.1, 144, .inl (F)))]) (wn := [(hg, .inr (0, [.ref hgn, .int (nI z), .long ar0, .long lf, .long gl])), (hgn, .inl (X.2.1, 144, .inl (F)))]) (r_V C (As := [.int (F k)]) (rest := []) (kX0_kindOf l X hg hgn z F ar0 lf gl (F k) ) (cwV 1 C.ts gX0_worstPeriodFound_X0_kindOf rfl rfl rfl (by decide +kernel) ⟨Nat.le_of_ble_eq_true rfl, Nat.le_of_ble_eq_true rfl⟩) (q0 := 0) rfl rfl [0, 1] (by decide) rfl rfl (Nat.le_of_ble_eq_true rfl) rfl dX0_worstPeriodFound_26 ⟨Nat.zero_le _, Nat.zero_le _⟩) [0, 1] [] [0, 1] rfl rfl (by decide) (by decide) (by decide) rfl ?_
        refine s_iconst C (pc := 29) (v := 3) dX0_worstPeriodFound_29 (by decide) ?_
        refine s_icmp_ne C (pc := 30) (tgt := 54) dX0_worstPeriodFound_30 (by decide) (fun c30 => ?_) (fun c30 => ?_)
        · skip
          refine s_iinc C (pc := 54) (v := nI (k + 1)) (ls' := [(2, .int (nI (k + 1))), (0, .ref hg), (1, .int (wlF F lf gl k))]) dX0_worstPeriodFound_54 2 rfl (nI_1 _) (by decide) rfl ?_
          refine s_goto C (pc := 57) (tgt := 4) dX0_worstPeriodFound_57 (by decide) ?_
          refine s_loc C (ls' := [(0, .ref hg), (1, .int (wlF F lf gl k)), (2, .int (nI (k + 1)))]) [1, 2, 0] rfl ?_
          have hb := ih4 (k + 1) (by omega) (by omega)
          rw [show wlF F lf gl (k + 1) = wlF F lf gl k from if_neg c30] at hb
          exact hb
        · skip
          refine s_iload_n C (pc := 33) dX0_worstPeriodFound_33 rfl 1 rfl ?_
          refine s_if_eq C (pc := 34) (tgt := 47) dX0_worstPeriodFound_34 (by decide) (fun c34 => ?_) (fun c34 => ?_)
          · skip
            refine s_aload_n C (pc := 47) dX0_worstPeriodFound_47 rfl 0 rfl ?_
            refine s_get C (pc := 48) (T := TX0) (N := 5) (fun _ h => (List.mem_cons_of_mem _ (List.mem_append_right _ h))) 0 rfl rfl 0 (by decide) (List.mem_of_getElem? (i := 2) rfl) rfl rfl dX0_worstPeriodFound_48 ?_
            refine s_iload_n C (pc := 51) dX0_worstPeriodFound_51 rfl 2 rfl ?_
            refine s_iald C (pc := 52) 1 rfl k rfl (by omega) (by decide) dX0_worstPeriodFound_52 ?_
            refine s_istore_n C (pc := 53) (ls' := [(1, .int (F k)), (0, .ref hg), (2, .int (nI k))]) dX0_worstPeriodFound_53 rfl (by decide) rfl ?_
            refine s_iinc C (pc := 54) (v := nI (k + 1)) (ls' := [(2, .int (nI (k + 1))), (1, .int (F k)), (0, .ref hg)]) dX0_worstPeriodFound_54 2 rfl (nI_1 _) (by decide) rfl ?_
            refine s_goto C (pc := 57) (tgt := 4) dX0_worstPeriodFound_57 (by decide) ?_
            refine s_loc C (ls' := [(0, .ref hg), (1, .int (F k)), (2, .int (nI (k + 1)))]) [2, 1, 0] rfl ?_
            have hb := ih4 (k + 1) (by omega) (by omega)
            rw [show wlF F lf gl (k + 1) = F k from (if_pos c30).trans (if_pos c34)] at hb
            exact hb
          · skip
            refine s_aload_n C (pc := 37) dX0_worstPeriodFound_37 rfl 0 rfl ?_
            refine s_get C (pc := 38) (T := TX0) (N := 5) (fun _ h => (List.mem_cons_of_mem _ (List.mem_append_right _ h))) 0 rfl rfl 0 (by decide) (List.mem_of_getElem? (i := 2) rfl) rfl rfl dX0_worstPeriodFound_38 ?_
            refine s_iload_n C (pc := 41) dX0_worstPeriodFound_41 rfl 2 rfl ?_
            refine s_iald C (pc := 42) 1 rfl k rfl (by omega) (by decide) dX0_worstPeriodFound_42 ?_
            refine s_iload_n C (pc := 43) dX0_worstPeriodFound_43 rfl 1 rfl ?_
            refine s_icmp_ge C (pc := 44) (tgt := 54) dX0_worstPeriodFound_44 (by decide) (fun c44 => ?_) (fun c44 => ?_)
            · skip
              refine s_iinc C (pc := 54) (v := nI (k + 1)) (ls' := [(2, .int (nI (k + 1))), (0, .ref hg), (1, .int (wlF F lf gl k))]) dX0_worstPeriodFound_54 2 rfl (nI_1 _) (by decide) rfl ?_
              refine s_goto C (pc := 57) (tgt := 4) dX0_worstPeriodFound_57 (by decide) ?_
              refine s_loc C (ls' := [(0, .ref hg), (1, .int (wlF F lf gl k)), (2, .int (nI (k + 1)))]) [1, 2, 0] rfl ?_
              have hb := ih4 (k + 1) (by omega) (by omega)
              rw [show wlF F lf gl (k + 1) = wlF F lf gl k from (if_pos c30).trans ((if_neg c34).trans (if_pos c44))] at hb
              exact hb
            · skip
              refine s_aload_n C (pc := 47) dX0_worstPeriodFound_47 rfl 0 rfl ?_
              refine s_get C (pc := 48) (T := TX0) (N := 5) (fun _ h => (List.mem_cons_of_mem _ (List.mem_append_right _ h))) 0 rfl rfl 0 (by decide) (List.mem_of_getElem? (i := 2) rfl) rfl rfl dX0_worstPeriodFound_48 ?_
              refine s_iload_n C (pc := 51) dX0_worstPeriodFound_51 rfl 2 rfl ?_
              refine s_iald C (pc := 52) 1 rfl k rfl (by omega) (by decide) dX0_worstPeriodFound_52 ?_
              refine s_istore_n C (pc := 53) (ls' := [(1, .int (F k)), (0, .ref hg), (2, .int (nI k))]) dX0_worstPeriodFound_53 rfl (by decide) rfl ?_
              refine s_iinc C (pc := 54) (v := nI (k + 1)) (ls' := [(2, .int (nI (k + 1))), (1, .int (F k)), (0, .ref hg)]) dX0_worstPeriodFound_54 2 rfl (nI_1 _) (by decide) rfl ?_
              refine s_goto C (pc := 57) (tgt := 4) dX0_worstPeriodFound_57 (by decide) ?_
              refine s_loc C (ls' := [(0, .ref hg), (1, .int (F k)), (2, .int (nI (k + 1)))]) [2, 1, 0] rfl ?_
              have hb := ih4 (k + 1) (by omega) (by omega)
              rw [show wlF F lf gl (k + 1) = F k from (if_pos c30).trans ((if_neg c34).trans (if_neg c44))] at hb
              exact hb
  refine s_loc C (ls' := [(0, .ref hg), (1, .int 0), (2, .int 0)]) [2, 1, 0] rfl ?_
  exact L4 (z + 1) 0 (Nat.zero_le _) (by omega)

set_option maxHeartbeats 4000000 in
set_option maxRecDepth 100000 in
theorem kX0_sort (l : Launch) (X : XT) (hg hgn z : Nat) (F : Nat → Int32) (ar0 lf gl : Int64) (hz : z ≤ 144) (hz1 : 1 ≤ z) : KV l yX0_sort wsX0_sort ({ frames := 0, cells := 0, slots := 0, locals := 0 }) X [.ref hg] [(hg, .inr (0, [.ref hgn, .int (nI z), .long ar0, .long lf, .long gl])), (hgn, .inl (X.2.1, 144, .inl (F)))] [(hg, .inr (0, [.ref hgn, .int (nI z), .long ar0, .long lf, .long gl])), (hgn, .inl (X.2.1, 144, .inl (srF F (z - 1))))] := by
  refine k_ofV (cc := cX0_sort) (own := RX0) (maxL := 4) (ret := none) (ls0 := [(0, .ref hg)]) (by decide) rfl rfl (Nat.le_of_ble_eq_true rfl) rfl ?_
  intro p e s m args below meth c A g C hr hlk
  refine s_iconst C (pc := 0) (v := 1) dX0_sort_0 (by decide) ?_
  refine s_istore_n C (pc := 1) (ls' := [(1, .int 1), (0, .ref hg)]) dX0_sort_1 rfl (by decide) rfl ?_
  have L2 : ∀ (n_ : Nat) (j : Nat), (j + 1 ≤ z) → z ≤ j + n_ → g [(hg, .inr (0, [.ref hgn, .int (nI z), .long ar0, .long lf, .long gl])), (hgn, .inl (X.2.1, 144, .inl ((srF F j))))] 2 [(0, .ref hg), (1, .int (nI (j + 1)))] [] := by
    intro n_
    induction n_ with
    | zero =>
      intro j hj hf
      exact absurd hf (by omega)
    | succ n_ ih2 =>
      intro j hj hf2
      refine s_iload_n C (pc := 2) dX0_sort_2 rfl 1 rfl ?_
      refine s_aload_n C (pc := 3) dX0_sort_3 rfl 0 rfl ?_
      refine s_get C (pc := 4) (T := TX0) (N := 5) (fun _ h => (List.mem_cons_of_mem _ (List.mem_append_right _ h))) 0 rfl rfl 1 (by decide) (List.mem_of_getElem? (i := 1) rfl) rfl rfl dX0_sort_4 ?_
      refine s_icmp_ge C (pc := 7) (tgt := 75) dX0_sort_7 (by decide) (fun c7 => ?_) (fun c7 => ?_)
      · skip
        have e7 := nat_le (a := z) (b := (j + 1)) (by omega) (by omega) c7
        have hs0 : z - 1 = j := by omega
        subst hs0
        exact s_vret C (pc := 75) hr hlk [0, 1] (by decide) (rfl) dX0_sort_75
      · skip
        have e7 := nat_nle (a := z) (b := (j + 1)) (by omega) (by omega) c7
        refine s_iload_n C (pc := 10) dX0_sort_10 rfl 1 rfl ?_
        refine s_sipush C (pc := 11) (v := 144) dX0_sort_11 (by decide) ?_
        refine s_icmp_ge C (pc := 14) (tgt := 75) dX0_sort_14 (by decide) (fun h => absurd h (fun h2 => absurd (nat_le (a := 144) (b := (j + 1)) (by omega) (by omega) h2) (by omega))) (fun c14 => ?_)
        refine s_aload_n C (pc := 17) dX0_sort_17 rfl 0 rfl ?_
        refine s_get C (pc := 18) (T := TX0) (N := 5) (fun _ h => (List.mem_cons_of_mem _ (List.mem_append_right _ h))) 0 rfl rfl 0 (by decide) (List.mem_of_getElem? (i := 2) rfl) rfl rfl dX0_sort_18 ?_
        refine s_iload_n C (pc := 21) dX0_sort_21 rfl 1 rfl ?_
        refine s_iald C (pc := 22) 1 rfl (j + 1) rfl (by omega) (by decide) dX0_sort_22 ?_
        refine s_top C (y := srF F j (j + 1)) (rfl) ?_
        refine s_istore_n C (pc := 23) (ls' := [(2, .int (srF F j (j + 1))), (0, .ref hg), (1, .int (nI (j + 1)))]) dX0_sort_23 rfl (by decide) rfl ?_
        refine s_iload_n C (pc := 24) dX0_sort_24 rfl 2 rfl ?_
        refine s_istore_n C (pc := 25) (ls' := [(3, .int (nI (j + 1))), (2, .int (srF F j (j + 1))), (0, .ref hg), (1, .int (nI (j + 1)))]) dX0_sort_25 rfl (by decide) rfl ?_
        have L26 : ∀ (n_ : Nat) (q : Nat) (f1 : Nat → Int32), (q ≤ j + 1) → (insW f1 (srF F j (j + 1)) q = insW (srF F j) (srF F j (j + 1)) (j + 1)) → q < n_ → g [(hg, .inr (0, [.ref hgn, .int (nI z), .long ar0, .long lf, .long gl])), (hgn, .inl (X.2.1, 144, .inl (f1)))] 26 [(0, .ref hg), (1, .int (nI (j + 1))), (2, .int (srF F j (j + 1))), (3, .int (nI q))] [] := by
          intro n_
          induction n_ with
          | zero =>
            intro q f1 hq hI hf
            exact absurd hf (by omega)
          | succ n_ ih26 =>
            intro q f1 hq hI hf26
            refine s_iload_n C (pc := 26) dX0_sort_26 rfl 3 rfl ?_
            refine s_if_le C (pc := 27) (tgt := 62) dX0_sort_27 (by decide) (fun c27 => ?_) (fun c27 => ?_)
            · skip
              have e27 := nat_le (a := q) (b := 0) (by omega) (by omega) c27
              refine s_aload_n C (pc := 62) dX0_sort_62 rfl 0 rfl ?_
              refine s_get C (pc := 63) (T := TX0) (N := 5) (fun _ h => (List.mem_cons_of_mem _ (List.mem_append_right _ h))) 0 rfl rfl 0 (by decide) (List.mem_of_getElem? (i := 2) rfl) rfl rfl dX0_sort_63 ?_
              refine s_iload_n C (pc := 66) dX0_sort_66 rfl 3 rfl ?_
              refine s_iload_n C (pc := 67) dX0_sort_67 rfl 2 rfl ?_
              refine s_iast C (pc := 68) (ws' := [(hg, .inr (0, [.ref hgn, .int (nI z), .long ar0, .long lf, .long gl])), (hgn, .inl (X.2.1, 144, .inl (upd f1 q (srF F j (j + 1)))))]) 1 rfl q rfl (by omega) (by decide) rfl dX0_sort_68 ?_
              refine s_iinc C (pc := 69) (v := nI ((j + 1) + 1)) (ls' := [(1, .int (nI ((j + 1) + 1))), (0, .ref hg), (2, .int (srF F j (j + 1))), (3, .int (nI q))]) dX0_sort_69 1 rfl (nI_1 _) (by decide) rfl ?_
              refine s_goto C (pc := 72) (tgt := 2) dX0_sort_72 (by decide) ?_
              refine s_loc C (ls' := [(0, .ref hg), (1, .int (nI ((j + 1) + 1)))]) [1, 0] rfl ?_
              have hb := ih2 (j + 1) (by omega) (by omega)
              have hq0 : 0 = q := by omega
              subst hq0
              rw [show srF F (j + 1) = upd f1 0 (srF F j (j + 1)) from hI.symm] at hb
              exact hb
            · skip
              have e27 := nat_nle (a := q) (b := 0) (by omega) (by omega) c27
              obtain ⟨q1, hq1⟩ : ∃ q1, q = q1 + 1 := ⟨q - 1, by omega⟩
              subst hq1
              refine s_aload_n C (pc := 30) dX0_sort_30 rfl 0 rfl ?_
              refine s_get C (pc := 31) (T := TX0) (N := 5) (fun _ h => (List.mem_cons_of_mem _ (List.mem_append_right _ h))) 0 rfl rfl 0 (by decide) (List.mem_of_getElem? (i := 2) rfl) rfl rfl dX0_sort_31 ?_
              refine s_iload_n C (pc := 34) dX0_sort_34 rfl 3 rfl ?_
              refine s_iconst C (pc := 35) (v := 1) dX0_sort_35 (by decide) ?_
              refine s_isub C (pc := 36) dX0_sort_36 ?_
              refine s_top C (y := nI q1) (nI_pred _) ?_
              refine s_iald C (pc := 37) 1 rfl q1 rfl (by omega) (by decide) dX0_sort_37 ?_
              refine s_iload_n C (pc := 38) dX0_sort_38 rfl 2 rfl ?_
              refine s_icmp_le C (pc := 39) (tgt := 62) dX0_sort_39 (by decide) (fun c39 => ?_) (fun c39 => ?_)
              · skip
                refine s_aload_n C (pc := 62) dX0_sort_62 rfl 0 rfl ?_
                refine s_get C (pc := 63) (T := TX0) (N := 5) (fun _ h => (List.mem_cons_of_mem _ (List.mem_append_right _ h))) 0 rfl rfl 0 (by decide) (List.mem_of_getElem? (i := 2) rfl) rfl rfl dX0_sort_63 ?_
                refine s_iload_n C (pc := 66) dX0_sort_66 rfl 3 rfl ?_
                refine s_iload_n C (pc := 67) dX0_sort_67 rfl 2 rfl ?_
                refine s_iast C (pc := 68) (ws' := [(hg, .inr (0, [.ref hgn, .int (nI z), .long ar0, .long lf, .long gl])), (hgn, .inl (X.2.1, 144, .inl (upd f1 (q1 + 1) (srF F j (j + 1)))))]) 1 rfl (q1 + 1) rfl (by omega) (by decide) rfl dX0_sort_68 ?_
                refine s_iinc C (pc := 69) (v := nI ((j + 1) + 1)) (ls' := [(1, .int (nI ((j + 1) + 1))), (0, .ref hg), (2, .int (srF F j (j + 1))), (3, .int (nI (q1 + 1)))]) dX0_sort_69 1 rfl (nI_1 _) (by decide) rfl ?_
                refine s_goto C (pc := 72) (tgt := 2) dX0_sort_72 (by decide) ?_
                refine s_loc C (ls' := [(0, .ref hg), (1, .int (nI ((j + 1) + 1)))]) [1, 0] rfl ?_
                have hb := ih2 (j + 1) (by omega) (by omega)
                rw [show srF F (j + 1) = upd f1 (q1 + 1) (srF F j (j + 1)) from hI.symm.trans (if_pos c39)] at hb
                exact hb
              · skip
                refine s_aload_n C (pc := 42) dX0_sort_42 rfl 0 rfl ?_
                refine s_get C (pc := 43) (T := TX0) (N := 5) (fun _ h => (List.mem_cons_of_mem _ (List.mem_append_right _ h))) 0 rfl rfl 0 (by decide) (List.mem_of_getElem? (i := 2) rfl) rfl rfl dX0_sort_43 ?_
                refine s_iload_n C (pc := 46) dX0_sort_46 rfl 3 rfl ?_
                refine s_aload_n C (pc := 47) dX0_sort_47 rfl 0 rfl ?_
                refine s_get C (pc := 48) (T := TX0) (N := 5) (fun _ h => (List.mem_cons_of_mem _ (List.mem_append_right _ h))) 0 rfl rfl 0 (by decide) (List.mem_of_getElem? (i := 2) rfl) rfl rfl dX0_sort_48 ?_
                refine s_iload_n C (pc := 51) dX0_sort_51 rfl 3 rfl ?_
                refine s_iconst C (pc := 52) (v := 1) dX0_sort_52 (by decide) ?_
                refine s_isub C (pc := 53) dX0_sort_53 ?_
                refine s_top C (y := nI q1) (nI_pred _) ?_
                refine s_iald C (pc := 54) 1 rfl q1 rfl (by omega) (by decide) dX0_sort_54 ?_
                refine s_iast C (pc := 55) (ws' := [(hg, .inr (0, [.ref hgn, .int (nI z), .long ar0, .long lf, .long gl])), (hgn, .inl (X.2.1, 144, .inl (upd f1 (q1 + 1) (f1 q1))))]) 1 rfl (q1 + 1) rfl (by omega) (by decide) rfl dX0_sort_55 ?_
                refine s_iinc C (pc := 56) (v := nI q1) (ls' := [(3, .int (nI q1)), (0, .ref hg), (1, .int (nI (j + 1))), (2, .int (srF F j (j + 1)))]) dX0_sort_56 3 rfl (pk_m1 _) (by decide) rfl ?_
                refine s_goto C (pc := 59) (tgt := 26) dX0_sort_59 (by decide) ?_
                refine s_loc C (ls' := [(0, .ref hg), (1, .int (nI (j + 1))), (2, .int (srF F j (j + 1))), (3, .int (nI q1))]) [1, 2, 3, 0] rfl ?_
                exact ih26 q1 (upd f1 (q1 + 1) (f1 q1)) (by omega) (by rw [← hI]; exact (if_neg c39).symm) (by omega)
        refine s_loc C (ls' := [(0, .ref hg), (1, .int (nI (j + 1))), (2, .int (srF F j (j + 1))), (3, .int (nI (j + 1)))]) [2, 3, 1, 0] rfl ?_
        exact L26 (j + 2) (j + 1) (srF F j) (Nat.le_refl _) rfl (by omega)
  refine s_loc C (ls' := [(0, .ref hg), (1, .int 1)]) [1, 0] rfl ?_
  exact L2 z 0 hz1 (by omega)

set_option maxHeartbeats 4000000 in
set_option maxRecDepth 100000 in
theorem kX0_differentNorms (l : Launch) (X : XT) (hg hgn z : Nat) (F : Nat → Int32) (ar0 lf gl : Int64) (hz : z ≤ 144) : KI l yX0_differentNorms wsX0_differentNorms ({ frames := 0, cells := 0, slots := 0, locals := 0 }) X [.ref hg] [(hg, .inr (0, [.ref hgn, .int (nI z), .long ar0, .long lf, .long gl])), (hgn, .inl (X.2.1, 144, .inl (F)))] [(hg, .inr (0, [.ref hgn, .int (nI z), .long ar0, .long lf, .long gl])), (hgn, .inl (X.2.1, 144, .inl (F)))] (dnF F z) := by
  refine k_ofI (cc := cX0_differentNorms) (own := RX0) (maxL := 3) (ret := (some .int)) (ls0 := [(0, .ref hg)]) (by decide) rfl rfl (Nat.le_of_ble_eq_true rfl) rfl ?_
  intro p e s m args below meth c A g C hr hlk
  refine s_iconst C (pc := 0) (v := 0) dX0_differentNorms_0 (by decide) ?_
  refine s_istore_n C (pc := 1) (ls' := [(1, .int 0), (0, .ref hg)]) dX0_differentNorms_1 rfl (by decide) rfl ?_
  refine s_iconst C (pc := 2) (v := 0) dX0_differentNorms_2 (by decide) ?_
  refine s_istore_n C (pc := 3) (ls' := [(2, .int 0), (1, .int 0), (0, .ref hg)]) dX0_differentNorms_3 rfl (by decide) rfl ?_
  have L4 : ∀ (n_ : Nat) (k : Nat), (k ≤ z) → z + 1 ≤ k + n_ → g [(hg, .inr (0, [.ref hgn, .int (nI z), .long ar0, .long lf, .long gl])), (hgn, .inl (X.2.1, 144, .inl (F)))] 4 [(0, .ref hg), (1, .int (dnF F k)), (2, .int (nI k))] [] := by
    intro n_
    induction n_ with
    | zero =>
      intro k hk hf
      exact absurd hf (by omega)
    | succ n_ ih4 =>
      intro k hk hf4
      refine s_iload_n C (pc := 4) dX0_differentNorms_4 rfl 2 rfl ?_
      refine s_aload_n C (pc := 5) dX0_differentNorms_5 rfl 0 rfl ?_
      refine s_get C (pc := 6) (T := TX0) (N := 5) (fun _ h => (List.mem_cons_of_mem _ (List.mem_append_right _ h))) 0 rfl rfl 1 (by decide) (List.mem_of_getElem? (i := 1) rfl) rfl rfl dX0_differentNorms_6 ?_
      refine s_icmp_ge C (pc := 9) (tgt := 49) dX0_differentNorms_9 (by decide) (fun c9 => ?_) (fun c9 => ?_)
      · skip
        have e9 := nat_le (a := z) (b := k) (by omega) (by omega) c9
        have hs0 : z = k := by omega
        subst hs0
        refine s_iload_n C (pc := 49) dX0_differentNorms_49 rfl 1 rfl ?_
        exact s_iret C (pc := 50) hr hlk [0, 1] (by decide) (rfl) (rfl) dX0_differentNorms_50
      · skip
        have e9 := nat_nle (a := z) (b := k) (by omega) (by omega) c9
        refine s_iload_n C (pc := 12) dX0_differentNorms_12 rfl 2 rfl ?_
        refine s_sipush C (pc := 13) (v := 144) dX0_differentNorms_13 (by decide) ?_
        refine s_icmp_ge C (pc := 16) (tgt := 49) dX0_differentNorms_16 (by decide) (fun h => absurd h (fun h2 => absurd (nat_le (a := 144) (b := k) (by omega) (by omega) h2) (by omega))) (fun c16 => ?_)
        refine s_iload_n C (pc := 19) dX0_differentNorms_19 rfl 2 rfl ?_
        refine s_if_eq C (pc := 20) (tgt := 40) dX0_differentNorms_20 (by decide) (fun c20 => ?_) (fun c20 => ?_)
        · skip
          have e20 := nat_eq (a := k) (b := 0) (by omega) (by omega) c20
          refine s_iinc C (pc := 40) (v := (dnF F k) + 1) (ls' := [(1, .int ((dnF F k) + 1)), (0, .ref hg), (2, .int (nI k))]) dX0_differentNorms_40 1 rfl rfl (by decide) rfl ?_
          refine s_iinc C (pc := 43) (v := nI (k + 1)) (ls' := [(2, .int (nI (k + 1))), (1, .int ((dnF F k) + 1)), (0, .ref hg)]) dX0_differentNorms_43 2 rfl (nI_1 _) (by decide) rfl ?_
          refine s_goto C (pc := 46) (tgt := 4) dX0_differentNorms_46 (by decide) ?_
          refine s_loc C (ls' := [(0, .ref hg), (1, .int ((dnF F k) + 1)), (2, .int (nI (k + 1)))]) [2, 1, 0] rfl ?_
          have hb := ih4 (k + 1) (by omega) (by omega)
          rw [show dnF F (k + 1) = dnF F k + 1 from if_neg (fun h => h.1 e20)] at hb
          exact hb
        · skip
          have e20 := nat_ne (a := k) (b := 0) (by omega) (by omega) c20
          obtain ⟨k1, hk1⟩ : ∃ k1, k = k1 + 1 := ⟨k - 1, by omega⟩
          subst hk1
          refine s_aload_n C (pc := 23) dX0_differentNorms_23 rfl 0 rfl ?_
          refine s_get C (pc := 24) (T := TX0) (N := 5) (fun _ h => (List.mem_cons_of_mem _ (List.mem_append_right _ h))) 0 rfl rfl 0 (by decide) (List.mem_of_getElem? (i := 2) rfl) rfl rfl dX0_differentNorms_24 ?_
          refine s_iload_n C (pc := 27) dX0_differentNorms_27 rfl 2 rfl ?_
          refine s_iald C (pc := 28) 1 rfl (k1 + 1) rfl (by omega) (by decide) dX0_differentNorms_28 ?_
          refine s_aload_n C (pc := 29) dX0_differentNorms_29 rfl 0 rfl ?_
          refine s_get C (pc := 30) (T := TX0) (N := 5) (fun _ h => (List.mem_cons_of_mem _ (List.mem_append_right _ h))) 0 rfl rfl 0 (by decide) (List.mem_of_getElem? (i := 2) rfl) rfl rfl dX0_differentNorms_30 ?_
          refine s_iload_n C (pc := 33) dX0_differentNorms_33 rfl 2 rfl ?_
          refine s_iconst C (pc := 34) (v := 1) dX0_differentNorms_34 (by decide) ?_
          refine s_isub C (pc := 35) dX0_differentNorms_35 ?_
          refine s_top C (y := nI k1) (nI_pred _) ?_
          refine s_iald C (pc := 36) 1 rfl k1 rfl (by omega) (by decide) dX0_differentNorms_36 ?_
          refine s_icmp_eq C (pc := 37) (tgt := 43) dX0_differentNorms_37 (by decide) (fun c37 => ?_) (fun c37 => ?_)
          · skip
            refine s_iinc C (pc := 43) (v := nI ((k1 + 1) + 1)) (ls' := [(2, .int (nI ((k1 + 1) + 1))), (0, .ref hg), (1, .int (dnF F (k1 + 1)))]) dX0_differentNorms_43 2 rfl (nI_1 _) (by decide) rfl ?_
            refine s_goto C (pc := 46) (tgt := 4) dX0_differentNorms_46 (by decide) ?_
            refine s_loc C (ls' := [(0, .ref hg), (1, .int (dnF F (k1 + 1))), (2, .int (nI ((k1 + 1) + 1)))]) [1, 2, 0] rfl ?_
            have hb := ih4 (k1 + 1 + 1) (by omega) (by omega)
            rw [show dnF F (k1 + 1 + 1) = dnF F (k1 + 1) from if_pos ⟨by omega, c37⟩] at hb
            exact hb
          · skip
            refine s_iinc C (pc := 40) (v := (dnF F (k1 + 1)) + 1) (ls' := [(1, .int ((dnF F (k1 + 1)) + 1)), (0, .ref hg), (2, .int (nI (k1 + 1)))]) dX0_differentNorms_40 1 rfl rfl (by decide) rfl ?_
            refine s_iinc C (pc := 43) (v := nI ((k1 + 1) + 1)) (ls' := [(2, .int (nI ((k1 + 1) + 1))), (1, .int ((dnF F (k1 + 1)) + 1)), (0, .ref hg)]) dX0_differentNorms_43 2 rfl (nI_1 _) (by decide) rfl ?_
            refine s_goto C (pc := 46) (tgt := 4) dX0_differentNorms_46 (by decide) ?_
            refine s_loc C (ls' := [(0, .ref hg), (1, .int ((dnF F (k1 + 1)) + 1)), (2, .int (nI ((k1 + 1) + 1)))]) [2, 1, 0] rfl ?_
            have hb := ih4 (k1 + 1 + 1) (by omega) (by omega)
            rw [show dnF F (k1 + 1 + 1) = dnF F (k1 + 1) + 1 from if_neg (fun h => c37 h.2)] at hb
            exact hb
  refine s_loc C (ls' := [(0, .ref hg), (1, .int 0), (2, .int 0)]) [2, 1, 0] rfl ?_
  exact L4 (z + 1) 0 (Nat.zero_le _) (by omega)

set_option maxHeartbeats 4000000 in
set_option maxRecDepth 100000 in
theorem kX0_normAt (l : Launch) (X : XT) (hg hgn z : Nat) (F : Nat → Int32) (ar0 lf gl : Int64) (rk : Int32) (hz : z ≤ 144) : KI l yX0_normAt wsX0_normAt ({ frames := 0, cells := 0, slots := 0, locals := 0 }) X [.ref hg, .int rk] [(hg, .inr (0, [.ref hgn, .int (nI z), .long ar0, .long lf, .long gl])), (hgn, .inl (X.2.1, 144, .inl (F)))] [(hg, .inr (0, [.ref hgn, .int (nI z), .long ar0, .long lf, .long gl])), (hgn, .inl (X.2.1, 144, .inl (F)))] (naF F rk z 0 0) := by
  refine k_ofI (cc := cX0_normAt) (own := RX0) (maxL := 4) (ret := (some .int)) (ls0 := [(0, .ref hg), (1, .int rk)]) (by decide) rfl rfl (Nat.le_of_ble_eq_true rfl) rfl ?_
  intro p e s m args below meth c A g C hr hlk
  refine s_iconst C (pc := 0) (v := 0) dX0_normAt_0 (by decide) ?_
  refine s_istore_n C (pc := 1) (ls' := [(2, .int 0), (0, .ref hg), (1, .int rk)]) dX0_normAt_1 rfl (by decide) rfl ?_
  refine s_iconst C (pc := 2) (v := 0) dX0_normAt_2 (by decide) ?_
  refine s_istore_n C (pc := 3) (ls' := [(3, .int 0), (2, .int 0), (0, .ref hg), (1, .int rk)]) dX0_normAt_3 rfl (by decide) rfl ?_
  have L4 : ∀ (n_ : Nat) (k : Nat) (nx : Int32), (k ≤ z) → (naF F rk (z - k) k nx = naF F rk z 0 0) → z + 1 ≤ k + n_ → g [(hg, .inr (0, [.ref hgn, .int (nI z), .long ar0, .long lf, .long gl])), (hgn, .inl (X.2.1, 144, .inl (F)))] 4 [(0, .ref hg), (1, .int rk), (2, .int nx), (3, .int (nI k))] [] := by
    intro n_
    induction n_ with
    | zero =>
      intro k nx hk hI hf
      exact absurd hf (by omega)
    | succ n_ ih4 =>
      intro k nx hk hI hf4
      refine s_iload_n C (pc := 4) dX0_normAt_4 rfl 3 rfl ?_
      refine s_aload_n C (pc := 5) dX0_normAt_5 rfl 0 rfl ?_
      refine s_get C (pc := 6) (T := TX0) (N := 5) (fun _ h => (List.mem_cons_of_mem _ (List.mem_append_right _ h))) 0 rfl rfl 1 (by decide) (List.mem_of_getElem? (i := 1) rfl) rfl rfl dX0_normAt_6 ?_
      refine s_icmp_ge C (pc := 9) (tgt := 61) dX0_normAt_9 (by decide) (fun c9 => ?_) (fun c9 => ?_)
      · skip
        have e9 := nat_le (a := z) (b := k) (by omega) (by omega) c9
        rw [show z - k = 0 by omega] at hI
        refine s_bipush C (pc := 61) (v := (-4)) dX0_normAt_61 (by decide) ?_
        exact s_iret C (pc := 63) hr hlk [0, 1] (by decide) (rfl) (hI) dX0_normAt_63
      · skip
        have e9 := nat_nle (a := z) (b := k) (by omega) (by omega) c9
        obtain ⟨u, hu⟩ : ∃ u, z - k = u + 1 := ⟨z - k - 1, by omega⟩
        rw [hu] at hI
        refine s_iload_n C (pc := 12) dX0_normAt_12 rfl 3 rfl ?_
        refine s_sipush C (pc := 13) (v := 144) dX0_normAt_13 (by decide) ?_
        refine s_icmp_ge C (pc := 16) (tgt := 61) dX0_normAt_16 (by decide) (fun h => absurd h (fun h2 => absurd (nat_le (a := 144) (b := k) (by omega) (by omega) h2) (by omega))) (fun c16 => ?_)
        refine s_iload_n C (pc := 19) dX0_normAt_19 rfl 3 rfl ?_
        refine s_if_eq C (pc := 20) (tgt := 40) dX0_normAt_20 (by decide) (fun c20 => ?_) (fun c20 => ?_)
        · skip
          have e20 := nat_eq (a := k) (b := 0) (by omega) (by omega) c20
          refine s_iload_n C (pc := 40) dX0_normAt_40 rfl 2 rfl ?_
          refine s_iload_n C (pc := 41) dX0_normAt_41 rfl 1 rfl ?_
          refine s_icmp_ne C (pc := 42) (tgt := 52) dX0_normAt_42 (by decide) (fun c42 => ?_) (fun c42 => ?_)
          · skip
            refine s_iinc C (pc := 52) (v := nx + 1) (ls' := [(2, .int (nx + 1)), (0, .ref hg), (1, .int rk), (3, .int (nI k))]) dX0_normAt_52 2 rfl rfl (by decide) rfl ?_
            refine s_iinc C (pc := 55) (v := nI (k + 1)) (ls' := [(3, .int (nI (k + 1))), (2, .int (nx + 1)), (0, .ref hg), (1, .int rk)]) dX0_normAt_55 3 rfl (nI_1 _) (by decide) rfl ?_
            refine s_goto C (pc := 58) (tgt := 4) dX0_normAt_58 (by decide) ?_
            refine s_loc C (ls' := [(0, .ref hg), (1, .int rk), (2, .int (nx + 1)), (3, .int (nI (k + 1)))]) [2, 3, 1, 0] rfl ?_
            exact ih4 (k + 1) (nx + 1) (by omega) (by rw [show z - (k + 1) = u by omega, ← hI]; exact ((if_neg (fun h => h.1 e20)).trans (if_neg c42)).symm) (by omega)
          · skip
            refine s_aload_n C (pc := 45) dX0_normAt_45 rfl 0 rfl ?_
            refine s_get C (pc := 46) (T := TX0) (N := 5) (fun _ h => (List.mem_cons_of_mem _ (List.mem_append_right _ h))) 0 rfl rfl 0 (by decide) (List.mem_of_getElem? (i := 2) rfl) rfl rfl dX0_normAt_46 ?_
            refine s_iload_n C (pc := 49) dX0_normAt_49 rfl 3 rfl ?_
            refine s_iald C (pc := 50) 1 rfl k rfl (by omega) (by decide) dX0_normAt_50 ?_
            exact s_iret C (pc := 51) hr hlk [0, 1] (by decide) (rfl) ((((if_neg (fun h => h.1 e20)).trans (if_pos c42)).symm.trans hI)) dX0_normAt_51
        · skip
          have e20 := nat_ne (a := k) (b := 0) (by omega) (by omega) c20
          obtain ⟨k1, hk1⟩ : ∃ k1, k = k1 + 1 := ⟨k - 1, by omega⟩
          subst hk1
          refine s_aload_n C (pc := 23) dX0_normAt_23 rfl 0 rfl ?_
          refine s_get C (pc := 24) (T := TX0) (N := 5) (fun _ h => (List.mem_cons_of_mem _ (List.mem_append_right _ h))) 0 rfl rfl 0 (by decide) (List.mem_of_getElem? (i := 2) rfl) rfl rfl dX0_normAt_24 ?_
          refine s_iload_n C (pc := 27) dX0_normAt_27 rfl 3 rfl ?_
          refine s_iald C (pc := 28) 1 rfl (k1 + 1) rfl (by omega) (by decide) dX0_normAt_28 ?_
          refine s_aload_n C (pc := 29) dX0_normAt_29 rfl 0 rfl ?_
          refine s_get C (pc := 30) (T := TX0) (N := 5) (fun _ h => (List.mem_cons_of_mem _ (List.mem_append_right _ h))) 0 rfl rfl 0 (by decide) (List.mem_of_getElem? (i := 2) rfl) rfl rfl dX0_normAt_30 ?_
          refine s_iload_n C (pc := 33) dX0_normAt_33 rfl 3 rfl ?_
          refine s_iconst C (pc := 34) (v := 1) dX0_normAt_34 (by decide) ?_
          refine s_isub C (pc := 35) dX0_normAt_35 ?_
          refine s_top C (y := nI k1) (nI_pred _) ?_
          refine s_iald C (pc := 36) 1 rfl k1 rfl (by omega) (by decide) dX0_normAt_36 ?_
          refine s_icmp_eq C (pc := 37) (tgt := 55) dX0_normAt_37 (by decide) (fun c37 => ?_) (fun c37 => ?_)
          · skip
            refine s_iinc C (pc := 55) (v := nI ((k1 + 1) + 1)) (ls' := [(3, .int (nI ((k1 + 1) + 1))), (0, .ref hg), (1, .int rk), (2, .int nx)]) dX0_normAt_55 3 rfl (nI_1 _) (by decide) rfl ?_
            refine s_goto C (pc := 58) (tgt := 4) dX0_normAt_58 (by decide) ?_
            refine s_loc C (ls' := [(0, .ref hg), (1, .int rk), (2, .int nx), (3, .int (nI ((k1 + 1) + 1)))]) [1, 2, 3, 0] rfl ?_
            exact ih4 (k1 + 1 + 1) nx (by omega) (by rw [show z - (k1 + 1 + 1) = u by omega, ← hI]; exact (if_pos ⟨by omega, c37⟩).symm) (by omega)
          · skip
            refine s_iload_n C (pc := 40) dX0_normAt_40 rfl 2 rfl ?_
            refine s_iload_n C (pc := 41) dX0_normAt_41 rfl 1 rfl ?_
            refine s_icmp_ne C (pc := 42) (tgt := 52) dX0_normAt_42 (by decide) (fun c42 => ?_) (fun c42 => ?_)
            · skip
              refine s_iinc C (pc := 52) (v := nx + 1) (ls' := [(2, .int (nx + 1)), (0, .ref hg), (1, .int rk), (3, .int (nI (k1 + 1)))]) dX0_normAt_52 2 rfl rfl (by decide) rfl ?_
              refine s_iinc C (pc := 55) (v := nI ((k1 + 1) + 1)) (ls' := [(3, .int (nI ((k1 + 1) + 1))), (2, .int (nx + 1)), (0, .ref hg), (1, .int rk)]) dX0_normAt_55 3 rfl (nI_1 _) (by decide) rfl ?_
              refine s_goto C (pc := 58) (tgt := 4) dX0_normAt_58 (by decide) ?_
              refine s_loc C (ls' := [(0, .ref hg), (1, .int rk), (2, .int (nx + 1)), (3, .int (nI ((k1 + 1) + 1)))]) [2, 3, 1, 0] rfl ?_
              exact ih4 ((k1 + 1) + 1) (nx + 1) (by omega) (by rw [show z - ((k1 + 1) + 1) = u by omega, ← hI]; exact ((if_neg (fun h => c37 h.2)).trans (if_neg c42)).symm) (by omega)
            · skip
              refine s_aload_n C (pc := 45) dX0_normAt_45 rfl 0 rfl ?_
              refine s_get C (pc := 46) (T := TX0) (N := 5) (fun _ h => (List.mem_cons_of_mem _ (List.mem_append_right _ h))) 0 rfl rfl 0 (by decide) (List.mem_of_getElem? (i := 2) rfl) rfl rfl dX0_normAt_46 ?_
              refine s_iload_n C (pc := 49) dX0_normAt_49 rfl 3 rfl ?_
              refine s_iald C (pc := 50) 1 rfl (k1 + 1) rfl (by omega) (by decide) dX0_normAt_50 ?_
              exact s_iret C (pc := 51) hr hlk [0, 1] (by decide) (rfl) ((((if_neg (fun h => c37 h.2)).trans (if_pos c42)).symm.trans hI)) dX0_normAt_51
  refine s_loc C (ls' := [(0, .ref hg), (1, .int rk), (2, .int 0), (3, .int 0)]) [2, 3, 1, 0] rfl ?_
  exact L4 (z + 1) 0 0 (Nat.zero_le _) rfl (by omega)

set_option maxHeartbeats 4000000 in
set_option maxRecDepth 100000 in
theorem kX0_productReal (l : Launch) (X : XT) (h hp hq n : Nat) (P Q : Nat → Int32) (o f ll : Int32) (i j : Nat) (hi : i < n) (hj : j < n) (hn : n ≤ 4) : KI l yX0_productReal wsX0_productReal ({ frames := 2, cells := 0, slots := 0, locals := 42 }) X [.ref h, .int (nI i), .int (nI j)] [(h, .inr (1, [.ref hp, .ref hq, .int (nI n), .int o, .int f, .int ll])), (hp, .inl (X.2.1, 4, .inl (P))), (hq, .inl (X.2.1, 4, .inl (Q)))] [(h, .inr (1, [.ref hp, .ref hq, .int (nI n), .int o, .int f, .int ll])), (hp, .inl (X.2.1, 4, .inl (P))), (hq, .inl (X.2.1, 4, .inl (Q)))] (prRe P Q i j) := by
  refine k_ofI (cc := cX0_productReal) (own := RX0) (maxL := 3) (ret := (some .int)) (ls0 := [(0, .ref h), (1, .int (nI i)), (2, .int (nI j))]) (by decide) rfl rfl (Nat.le_of_ble_eq_true rfl) rfl ?_
  intro p e s m args below meth c A g C hr hlk
  refine s_aload_n C (pc := 0) dX0_productReal_0 rfl 0 rfl ?_
  refine s_iload_n C (pc := 1) dX0_productReal_1 rfl 1 rfl ?_
  refine s_calli C (pc := 2) (wr := []) (wc' := [(h, .inr (1, [.ref hp, .ref hq, .int (nI n), .int o, .int f, .int ll])), (hp, .inl (X.2.1, 4, .inl (P))), (hq, .inl (X.2.1, 4, .inl (Q)))]) (wn := [(h, .inr (1, [.ref hp, .ref hq, .int (nI n), .int o, .int f, .int ll])), (hp, .inl (X.2.1, 4, .inl (P))), (hq, .inl (X.2.1, 4, .inl (Q)))]) (r_VN C (As := [.int (nI i)]) (rest := []) (kX1_pOf l X h hp hq n P Q o f ll i (by first | assumption | omega | decide) (by first | assumption | omega | decide)) ⟨va_cnB 1 C.ts gX0_productReal_X1_pOf_n60 rfl rfl rfl (C.nm 22 rfl) (C.ts _ (List.mem_of_getElem? (i := 2) rfl)) (by decide +kernel) ⟨Nat.le_of_ble_eq_true rfl, Nat.le_of_ble_eq_true rfl⟩, C.ts _ (List.mem_of_getElem? (i := 1) rfl), C.ts _ (List.mem_of_getElem? (i := 3) rfl)⟩ (q0 := 0) rfl rfl [0, 1, 2] (by decide) rfl rfl (Nat.le_of_ble_eq_true rfl) rfl dX0_productReal_2 ⟨Nat.zero_le _, Nat.zero_le _⟩) [0, 1, 2] [] [0, 1, 2] rfl rfl (by decide) (by decide) (by decide) rfl ?_
  refine s_aload_n C (pc := 5) dX0_productReal_5 rfl 0 rfl ?_
  refine s_iload_n C (pc := 6) dX0_productReal_6 rfl 2 rfl ?_
  refine s_calli C (pc := 7) (wr := []) (wc' := [(h, .inr (1, [.ref hp, .ref hq, .int (nI n), .int o, .int f, .int ll])), (hp, .inl (X.2.1, 4, .inl (P))), (hq, .inl (X.2.1, 4, .inl (Q)))]) (wn := [(h, .inr (1, [.ref hp, .ref hq, .int (nI n), .int o, .int f, .int ll])), (hp, .inl (X.2.1, 4, .inl (P))), (hq, .inl (X.2.1, 4, .inl (Q)))]) (r_VN C (As := [.int (nI j)]) (rest := [.int (P i)]) (kX1_pOf l X h hp hq n P Q o f ll j (by first | assumption | omega | decide) (by first | assumption | omega | decide)) ⟨va_cnB 1 C.ts gX0_productReal_X1_pOf_n60 rfl rfl rfl (C.nm 22 rfl) (C.ts _ (List.mem_of_getElem? (i := 2) rfl)) (by decide +kernel) ⟨Nat.le_of_ble_eq_true rfl, Nat.le_of_ble_eq_true rfl⟩, C.ts _ (List.mem_of_getElem? (i := 1) rfl), C.ts _ (List.mem_of_getElem? (i := 3) rfl)⟩ (q0 := 0) rfl rfl [0, 1, 2] (by decide) rfl rfl (Nat.le_of_ble_eq_true rfl) rfl dX0_productReal_7 ⟨Nat.zero_le _, Nat.zero_le _⟩) [0, 1, 2] [] [0, 1, 2] rfl rfl (by decide) (by decide) (by decide) rfl ?_
  refine s_imul C (pc := 10) dX0_productReal_10 ?_
  refine s_aload_n C (pc := 11) dX0_productReal_11 rfl 0 rfl ?_
  refine s_iload_n C (pc := 12) dX0_productReal_12 rfl 1 rfl ?_
  refine s_calli C (pc := 13) (wr := []) (wc' := [(h, .inr (1, [.ref hp, .ref hq, .int (nI n), .int o, .int f, .int ll])), (hp, .inl (X.2.1, 4, .inl (P))), (hq, .inl (X.2.1, 4, .inl (Q)))]) (wn := [(h, .inr (1, [.ref hp, .ref hq, .int (nI n), .int o, .int f, .int ll])), (hp, .inl (X.2.1, 4, .inl (P))), (hq, .inl (X.2.1, 4, .inl (Q)))]) (r_VN C (As := [.int (nI i)]) (rest := [.int ((P i) * (P j))]) (kX1_qOf l X h hp hq n P Q o f ll i (by first | assumption | omega | decide) (by first | assumption | omega | decide)) ⟨va_cnB 1 C.ts gX0_productReal_X1_qOf_n63 rfl rfl rfl (C.nm 23 rfl) (C.ts _ (List.mem_of_getElem? (i := 2) rfl)) (by decide +kernel) ⟨Nat.le_of_ble_eq_true rfl, Nat.le_of_ble_eq_true rfl⟩, C.ts _ (List.mem_of_getElem? (i := 11) rfl), C.ts _ (List.mem_of_getElem? (i := 12) rfl)⟩ (q0 := 0) rfl rfl [0, 1, 2] (by decide) rfl rfl (Nat.le_of_ble_eq_true rfl) rfl dX0_productReal_13 ⟨Nat.zero_le _, Nat.zero_le _⟩) [0, 1, 2] [] [0, 1, 2] rfl rfl (by decide) (by decide) (by decide) rfl ?_
  refine s_aload_n C (pc := 16) dX0_productReal_16 rfl 0 rfl ?_
  refine s_iload_n C (pc := 17) dX0_productReal_17 rfl 2 rfl ?_
  refine s_calli C (pc := 18) (wr := []) (wc' := [(h, .inr (1, [.ref hp, .ref hq, .int (nI n), .int o, .int f, .int ll])), (hp, .inl (X.2.1, 4, .inl (P))), (hq, .inl (X.2.1, 4, .inl (Q)))]) (wn := [(h, .inr (1, [.ref hp, .ref hq, .int (nI n), .int o, .int f, .int ll])), (hp, .inl (X.2.1, 4, .inl (P))), (hq, .inl (X.2.1, 4, .inl (Q)))]) (r_VN C (As := [.int (nI j)]) (rest := [.int (Q i), .int ((P i) * (P j))]) (kX1_qOf l X h hp hq n P Q o f ll j (by first | assumption | omega | decide) (by first | assumption | omega | decide)) ⟨va_cnB 1 C.ts gX0_productReal_X1_qOf_n63 rfl rfl rfl (C.nm 23 rfl) (C.ts _ (List.mem_of_getElem? (i := 2) rfl)) (by decide +kernel) ⟨Nat.le_of_ble_eq_true rfl, Nat.le_of_ble_eq_true rfl⟩, C.ts _ (List.mem_of_getElem? (i := 11) rfl), C.ts _ (List.mem_of_getElem? (i := 12) rfl)⟩ (q0 := 0) rfl rfl [0, 1, 2] (by decide) rfl rfl (Nat.le_of_ble_eq_true rfl) rfl dX0_productReal_18 ⟨Nat.zero_le _, Nat.zero_le _⟩) [0, 1, 2] [] [0, 1, 2] rfl rfl (by decide) (by decide) (by decide) rfl ?_
  refine s_imul C (pc := 21) dX0_productReal_21 ?_
  refine s_isub C (pc := 22) dX0_productReal_22 ?_
  exact s_iret C (pc := 23) hr hlk [0, 1, 2] (by decide) (rfl) (rfl) dX0_productReal_23

set_option maxHeartbeats 4000000 in
set_option maxRecDepth 100000 in
theorem kX0_productImaginary (l : Launch) (X : XT) (h hp hq n : Nat) (P Q : Nat → Int32) (o f ll : Int32) (i j : Nat) (hi : i < n) (hj : j < n) (hn : n ≤ 4) : KI l yX0_productImaginary wsX0_productImaginary ({ frames := 2, cells := 0, slots := 0, locals := 42 }) X [.ref h, .int (nI i), .int (nI j)] [(h, .inr (1, [.ref hp, .ref hq, .int (nI n), .int o, .int f, .int ll])), (hp, .inl (X.2.1, 4, .inl (P))), (hq, .inl (X.2.1, 4, .inl (Q)))] [(h, .inr (1, [.ref hp, .ref hq, .int (nI n), .int o, .int f, .int ll])), (hp, .inl (X.2.1, 4, .inl (P))), (hq, .inl (X.2.1, 4, .inl (Q)))] (prIm P Q i j) := by
  refine k_ofI (cc := cX0_productImaginary) (own := RX0) (maxL := 3) (ret := (some .int)) (ls0 := [(0, .ref h), (1, .int (nI i)), (2, .int (nI j))]) (by decide) rfl rfl (Nat.le_of_ble_eq_true rfl) rfl ?_
  intro p e s m args below meth c A g C hr hlk
  refine s_aload_n C (pc := 0) dX0_productImaginary_0 rfl 0 rfl ?_
  refine s_iload_n C (pc := 1) dX0_productImaginary_1 rfl 1 rfl ?_
  refine s_calli C (pc := 2) (wr := []) (wc' := [(h, .inr (1, [.ref hp, .ref hq, .int (nI n), .int o, .int f, .int ll])), (hp, .inl (X.2.1, 4, .inl (P))), (hq, .inl (X.2.1, 4, .inl (Q)))]) (wn := [(h, .inr (1, [.ref hp, .ref hq, .int (nI n), .int o, .int f, .int ll])), (hp, .inl (X.2.1, 4, .inl (P))), (hq, .inl (X.2.1, 4, .inl (Q)))]) (r_VN C (As := [.int (nI i)]) (rest := []) (kX1_pOf l X h hp hq n P Q o f ll i (by first | assumption | omega | decide) (by first | assumption | omega | decide)) ⟨va_cnB 1 C.ts gX0_productImaginary_X1_pOf_n60 rfl rfl rfl (C.nm 22 rfl) (C.ts _ (List.mem_of_getElem? (i := 2) rfl)) (by decide +kernel) ⟨Nat.le_of_ble_eq_true rfl, Nat.le_of_ble_eq_true rfl⟩, C.ts _ (List.mem_of_getElem? (i := 1) rfl), C.ts _ (List.mem_of_getElem? (i := 3) rfl)⟩ (q0 := 0) rfl rfl [0, 1, 2] (by decide) rfl rfl (Nat.le_of_ble_eq_true rfl) rfl dX0_productImaginary_2 ⟨Nat.zero_le _, Nat.zero_le _⟩) [0, 1, 2] [] [0, 1, 2] rfl rfl (by decide) (by decide) (by decide) rfl ?_
  refine s_aload_n C (pc := 5) dX0_productImaginary_5 rfl 0 rfl ?_
  refine s_iload_n C (pc := 6) dX0_productImaginary_6 rfl 2 rfl ?_
  refine s_calli C (pc := 7) (wr := []) (wc' := [(h, .inr (1, [.ref hp, .ref hq, .int (nI n), .int o, .int f, .int ll])), (hp, .inl (X.2.1, 4, .inl (P))), (hq, .inl (X.2.1, 4, .inl (Q)))]) (wn := [(h, .inr (1, [.ref hp, .ref hq, .int (nI n), .int o, .int f, .int ll])), (hp, .inl (X.2.1, 4, .inl (P))), (hq, .inl (X.2.1, 4, .inl (Q)))]) (r_VN C (As := [.int (nI j)]) (rest := [.int (P i)]) (kX1_qOf l X h hp hq n P Q o f ll j (by first | assumption | omega | decide) (by first | assumption | omega | decide)) ⟨va_cnB 1 C.ts gX0_productImaginary_X1_qOf_n63 rfl rfl rfl (C.nm 23 rfl) (C.ts _ (List.mem_of_getElem? (i := 2) rfl)) (by decide +kernel) ⟨Nat.le_of_ble_eq_true rfl, Nat.le_of_ble_eq_true rfl⟩, C.ts _ (List.mem_of_getElem? (i := 11) rfl), C.ts _ (List.mem_of_getElem? (i := 12) rfl)⟩ (q0 := 0) rfl rfl [0, 1, 2] (by decide) rfl rfl (Nat.le_of_ble_eq_true rfl) rfl dX0_productImaginary_7 ⟨Nat.zero_le _, Nat.zero_le _⟩) [0, 1, 2] [] [0, 1, 2] rfl rfl (by decide) (by decide) (by decide) rfl ?_
  refine s_imul C (pc := 10) dX0_productImaginary_10 ?_
  refine s_aload_n C (pc := 11) dX0_productImaginary_11 rfl 0 rfl ?_
  refine s_iload_n C (pc := 12) dX0_productImaginary_12 rfl 1 rfl ?_
  refine s_calli C (pc := 13) (wr := []) (wc' := [(h, .inr (1, [.ref hp, .ref hq, .int (nI n), .int o, .int f, .int ll])), (hp, .inl (X.2.1, 4, .inl (P))), (hq, .inl (X.2.1, 4, .inl (Q)))]) (wn := [(h, .inr (1, [.ref hp, .ref hq, .int (nI n), .int o, .int f, .int ll])), (hp, .inl (X.2.1, 4, .inl (P))), (hq, .inl (X.2.1, 4, .inl (Q)))]) (r_VN C (As := [.int (nI i)]) (rest := [.int ((P i) * (Q j))]) (kX1_qOf l X h hp hq n P Q o f ll i (by first | assumption | omega | decide) (by first | assumption | omega | decide)) ⟨va_cnB 1 C.ts gX0_productImaginary_X1_qOf_n63 rfl rfl rfl (C.nm 23 rfl) (C.ts _ (List.mem_of_getElem? (i := 2) rfl)) (by decide +kernel) ⟨Nat.le_of_ble_eq_true rfl, Nat.le_of_ble_eq_true rfl⟩, C.ts _ (List.mem_of_getElem? (i := 11) rfl), C.ts _ (List.mem_of_getElem? (i := 12) rfl)⟩ (q0 := 0) rfl rfl [0, 1, 2] (by decide) rfl rfl (Nat.le_of_ble_eq_true rfl) rfl dX0_productImaginary_13 ⟨Nat.zero_le _, Nat.zero_le _⟩) [0, 1, 2] [] [0, 1, 2] rfl rfl (by decide) (by decide) (by decide) rfl ?_
  refine s_aload_n C (pc := 16) dX0_productImaginary_16 rfl 0 rfl ?_
  refine s_iload_n C (pc := 17) dX0_productImaginary_17 rfl 2 rfl ?_
  refine s_calli C (pc := 18) (wr := []) (wc' := [(h, .inr (1, [.ref hp, .ref hq, .int (nI n), .int o, .int f, .int ll])), (hp, .inl (X.2.1, 4, .inl (P))), (hq, .inl (X.2.1, 4, .inl (Q)))]) (wn := [(h, .inr (1, [.ref hp, .ref hq, .int (nI n), .int o, .int f, .int ll])), (hp, .inl (X.2.1, 4, .inl (P))), (hq, .inl (X.2.1, 4, .inl (Q)))]) (r_VN C (As := [.int (nI j)]) (rest := [.int (Q i), .int ((P i) * (Q j))]) (kX1_pOf l X h hp hq n P Q o f ll j (by first | assumption | omega | decide) (by first | assumption | omega | decide)) ⟨va_cnB 1 C.ts gX0_productImaginary_X1_pOf_n60 rfl rfl rfl (C.nm 22 rfl) (C.ts _ (List.mem_of_getElem? (i := 2) rfl)) (by decide +kernel) ⟨Nat.le_of_ble_eq_true rfl, Nat.le_of_ble_eq_true rfl⟩, C.ts _ (List.mem_of_getElem? (i := 1) rfl), C.ts _ (List.mem_of_getElem? (i := 3) rfl)⟩ (q0 := 0) rfl rfl [0, 1, 2] (by decide) rfl rfl (Nat.le_of_ble_eq_true rfl) rfl dX0_productImaginary_18 ⟨Nat.zero_le _, Nat.zero_le _⟩) [0, 1, 2] [] [0, 1, 2] rfl rfl (by decide) (by decide) (by decide) rfl ?_
  refine s_imul C (pc := 21) dX0_productImaginary_21 ?_
  refine s_iadd C (pc := 22) dX0_productImaginary_22 ?_
  exact s_iret C (pc := 23) hr hlk [0, 1, 2] (by decide) (rfl) (rfl) dX0_productImaginary_23

set_option maxHeartbeats 4000000 in
set_option maxRecDepth 100000 in
theorem kX0_start (l : Launch) (X : XT) (hg hgn z : Nat) (F : Nat → Int32) (ar0 lf gl : Int64) (h hp hq n : Nat) (P Q : Nat → Int32) (o f ll : Int32) (a : Int64)  : KV l yX0_start wsX0_start ({ frames := 1, cells := 0, slots := 0, locals := 23 }) X [.ref hg, .ref h, .long a] [(hg, .inr (0, [.ref hgn, .int (nI z), .long ar0, .long lf, .long gl])), (hgn, .inl (X.2.1, 144, .inl (F))), (h, .inr (1, [.ref hp, .ref hq, .int (nI n), .int o, .int f, .int ll])), (hp, .inl (X.2.1, 4, .inl (P))), (hq, .inl (X.2.1, 4, .inl (Q)))] [(hg, .inr (0, [.ref hgn, .int (nI 0), .long a, .long (lfL a f), .long (glL a ll)])), (hgn, .inl (X.2.1, 144, .inl (F))), (h, .inr (1, [.ref hp, .ref hq, .int (nI n), .int o, .int f, .int ll])), (hp, .inl (X.2.1, 4, .inl (P))), (hq, .inl (X.2.1, 4, .inl (Q)))] := by
  refine k_ofV (cc := cX0_start) (own := RX0) (maxL := 8) (ret := none) (ls0 := [(0, .ref hg), (1, .ref h), (2, .long a)]) (by decide) rfl rfl (Nat.le_of_ble_eq_true rfl) rfl ?_
  intro p e s m args below meth c A g C hr hlk
  refine s_aload_n C (pc := 0) dX0_start_0 rfl 0 rfl ?_
  refine s_iconst C (pc := 1) (v := 0) dX0_start_1 (by decide) ?_
  refine s_put C (pc := 2) (T := TX0) (N := 5) (ws' := [(hg, .inr (0, [.ref hgn, .int 0, .long ar0, .long lf, .long gl])), (hgn, .inl (X.2.1, 144, .inl (F))), (h, .inr (1, [.ref hp, .ref hq, .int (nI n), .int o, .int f, .int ll])), (hp, .inl (X.2.1, 4, .inl (P))), (hq, .inl (X.2.1, 4, .inl (Q)))]) (fun _ h => (List.mem_cons_of_mem _ (List.mem_append_left _ (List.mem_append_right _ h)))) 0 rfl rfl tyX0 tyX0_ok nmX0 1 (by decide) (List.mem_of_getElem? (i := 1) rfl) rfl rfl rfl rfl (Nat.le_of_ble_eq_true rfl) rfl dX0_start_2 ?_
  refine s_aload_n C (pc := 5) dX0_start_5 rfl 0 rfl ?_
  refine s_lload_n C (pc := 6) dX0_start_6 rfl 2 rfl ?_
  refine s_put C (pc := 7) (T := TX0) (N := 5) (ws' := [(hg, .inr (0, [.ref hgn, .int 0, .long a, .long lf, .long gl])), (hgn, .inl (X.2.1, 144, .inl (F))), (h, .inr (1, [.ref hp, .ref hq, .int (nI n), .int o, .int f, .int ll])), (hp, .inl (X.2.1, 4, .inl (P))), (hq, .inl (X.2.1, 4, .inl (Q)))]) (fun _ h => (List.mem_cons_of_mem _ (List.mem_append_left _ (List.mem_append_right _ h)))) 0 rfl rfl tyX0 tyX0_ok nmX0 2 (by decide) (List.mem_of_getElem? (i := 2) rfl) rfl rfl rfl rfl (Nat.le_of_ble_eq_true rfl) rfl dX0_start_7 ?_
  refine s_aload_n C (pc := 10) dX0_start_10 rfl 1 rfl ?_
  refine s_getN C (pc := 11) (T := TX1) (N := 6) (fun _ h => (List.mem_cons_of_mem _ (List.mem_append_right _ h))) 2 rfl rfl 4 (by decide) (C.nf 5 rfl) rfl rfl dX0_start_11 ?_
  refine s_i2l C (pc := 14) dX0_start_14 ?_
  refine s_aload_n C (pc := 15) dX0_start_15 rfl 1 rfl ?_
  refine s_getN C (pc := 16) (T := TX1) (N := 6) (fun _ h => (List.mem_cons_of_mem _ (List.mem_append_right _ h))) 2 rfl rfl 4 (by decide) (C.nf 5 rfl) rfl rfl dX0_start_16 ?_
  refine s_i2l C (pc := 19) dX0_start_19 ?_
  refine s_lmul C (pc := 20) dX0_start_20 ?_
  refine s_lstore C (pc := 21) (ls' := [(4, .long (f.toInt64 * f.toInt64)), (0, .ref hg), (1, .ref h), (2, .long a)]) dX0_start_21 (by decide) rfl ?_
  refine s_aload_n C (pc := 23) dX0_start_23 rfl 2 rfl ?_
  refine s_getN C (pc := 24) (T := TX1) (N := 6) (fun _ h => (List.mem_cons_of_mem _ (List.mem_append_right _ h))) 2 rfl rfl 5 (by decide) (C.nf 7 rfl) rfl rfl dX0_start_24 ?_
  refine s_i2l C (pc := 27) dX0_start_27 ?_
  refine s_aload_n C (pc := 28) dX0_start_28 rfl 2 rfl ?_
  refine s_getN C (pc := 29) (T := TX1) (N := 6) (fun _ h => (List.mem_cons_of_mem _ (List.mem_append_right _ h))) 2 rfl rfl 5 (by decide) (C.nf 7 rfl) rfl rfl dX0_start_29 ?_
  refine s_i2l C (pc := 32) dX0_start_32 ?_
  refine s_lmul C (pc := 33) dX0_start_33 ?_
  refine s_lstore C (pc := 34) (ls' := [(6, .long (ll.toInt64 * ll.toInt64)), (4, .long (f.toInt64 * f.toInt64)), (0, .ref hg), (1, .ref h), (2, .long a)]) dX0_start_34 (by decide) rfl ?_
  refine s_aload_n C (pc := 36) dX0_start_36 rfl 2 rfl ?_
  refine s_aload_n C (pc := 37) dX0_start_37 rfl 2 rfl ?_
  refine s_get C (pc := 38) (T := TX0) (N := 5) (fun _ h => (List.mem_cons_of_mem _ (List.mem_append_left _ (List.mem_append_right _ h)))) 0 rfl rfl 2 (by decide) (List.mem_of_getElem? (i := 2) rfl) rfl rfl dX0_start_38 ?_
  refine s_lload C (pc := 41) dX0_start_41 1 rfl ?_
  refine s_ladd C (pc := 43) dX0_start_43 ?_
  refine s_lconst C (pc := 44) (v := 1) dX0_start_44 (by decide) ?_
  refine s_lsub C (pc := 45) dX0_start_45 ?_
  refine s_lload C (pc := 46) dX0_start_46 1 rfl ?_
  refine s_calll C (pc := 48) (wr := [(hg, .inr (0, [.ref hgn, .int 0, .long a, .long lf, .long gl])), (hgn, .inl (X.2.1, 144, .inl (F))), (h, .inr (1, [.ref hp, .ref hq, .int (nI n), .int o, .int f, .int ll])), (hp, .inl (X.2.1, 4, .inl (P))), (hq, .inl (X.2.1, 4, .inl (Q)))]) (wc' := []) (wn := [(hg, .inr (0, [.ref hgn, .int 0, .long a, .long lf, .long gl])), (hgn, .inl (X.2.1, 144, .inl (F))), (h, .inr (1, [.ref hp, .ref hq, .int (nI n), .int o, .int f, .int ll])), (hp, .inl (X.2.1, 4, .inl (P))), (hq, .inl (X.2.1, 4, .inl (Q)))]) (r_SN C (As := [.long ((a + (f.toInt64 * f.toInt64)) - 1), .long (f.toInt64 * f.toInt64)]) (rest := [.ref hg]) (kX2_divided l X ((a + (f.toInt64 * f.toInt64)) - 1) (f.toInt64 * f.toInt64) ) ⟨va_cnB 2 C.ts gX0_start_X2_divided_n45 rfl rfl rfl (C.nm 13 rfl) (C.ts _ (List.mem_of_getElem? (i := 6) rfl)) (by decide +kernel) ⟨Nat.le_of_ble_eq_true rfl, Nat.le_of_ble_eq_true rfl⟩, C.ts _ (List.mem_of_getElem? (i := 5) rfl), trivial⟩ [] (by decide) rfl rfl (Nat.le_of_ble_eq_true rfl) rfl dX0_start_48 ⟨Nat.zero_le _, Nat.zero_le _⟩) [] [0, 1, 2, 3, 4] [0, 1, 2, 3, 4] rfl rfl (by decide) (by decide) (by decide) rfl ?_
  refine s_put C (pc := 51) (T := TX0) (N := 5) (ws' := [(hg, .inr (0, [.ref hgn, .int 0, .long a, .long (dvL ((a + (f.toInt64 * f.toInt64)) - 1) (f.toInt64 * f.toInt64)), .long gl])), (hgn, .inl (X.2.1, 144, .inl (F))), (h, .inr (1, [.ref hp, .ref hq, .int (nI n), .int o, .int f, .int ll])), (hp, .inl (X.2.1, 4, .inl (P))), (hq, .inl (X.2.1, 4, .inl (Q)))]) (fun _ h => (List.mem_cons_of_mem _ (List.mem_append_left _ (List.mem_append_right _ h)))) 0 rfl rfl tyX0 tyX0_ok nmX0 3 (by decide) (List.mem_of_getElem? (i := 3) rfl) rfl rfl rfl rfl (Nat.le_of_ble_eq_true rfl) rfl dX0_start_51 ?_
  refine s_aload_n C (pc := 54) dX0_start_54 rfl 2 rfl ?_
  refine s_aload_n C (pc := 55) dX0_start_55 rfl 2 rfl ?_
  refine s_get C (pc := 56) (T := TX0) (N := 5) (fun _ h => (List.mem_cons_of_mem _ (List.mem_append_left _ (List.mem_append_right _ h)))) 0 rfl rfl 2 (by decide) (List.mem_of_getElem? (i := 2) rfl) rfl rfl dX0_start_56 ?_
  refine s_lload C (pc := 59) dX0_start_59 0 rfl ?_
  refine s_calll C (pc := 61) (wr := [(hg, .inr (0, [.ref hgn, .int 0, .long a, .long (dvL ((a + (f.toInt64 * f.toInt64)) - 1) (f.toInt64 * f.toInt64)), .long gl])), (hgn, .inl (X.2.1, 144, .inl (F))), (h, .inr (1, [.ref hp, .ref hq, .int (nI n), .int o, .int f, .int ll])), (hp, .inl (X.2.1, 4, .inl (P))), (hq, .inl (X.2.1, 4, .inl (Q)))]) (wc' := []) (wn := [(hg, .inr (0, [.ref hgn, .int 0, .long a, .long (dvL ((a + (f.toInt64 * f.toInt64)) - 1) (f.toInt64 * f.toInt64)), .long gl])), (hgn, .inl (X.2.1, 144, .inl (F))), (h, .inr (1, [.ref hp, .ref hq, .int (nI n), .int o, .int f, .int ll])), (hp, .inl (X.2.1, 4, .inl (P))), (hq, .inl (X.2.1, 4, .inl (Q)))]) (r_SN C (As := [.long a, .long (ll.toInt64 * ll.toInt64)]) (rest := [.ref hg]) (kX2_divided l X a (ll.toInt64 * ll.toInt64) ) ⟨va_cnB 2 C.ts gX0_start_X2_divided_n45 rfl rfl rfl (C.nm 13 rfl) (C.ts _ (List.mem_of_getElem? (i := 6) rfl)) (by decide +kernel) ⟨Nat.le_of_ble_eq_true rfl, Nat.le_of_ble_eq_true rfl⟩, C.ts _ (List.mem_of_getElem? (i := 5) rfl), trivial⟩ [] (by decide) rfl rfl (Nat.le_of_ble_eq_true rfl) rfl dX0_start_61 ⟨Nat.zero_le _, Nat.zero_le _⟩) [] [0, 1, 2, 3, 4] [0, 1, 2, 3, 4] rfl rfl (by decide) (by decide) (by decide) rfl ?_
  refine s_put C (pc := 64) (T := TX0) (N := 5) (ws' := [(hg, .inr (0, [.ref hgn, .int 0, .long a, .long (dvL ((a + (f.toInt64 * f.toInt64)) - 1) (f.toInt64 * f.toInt64)), .long (dvL a (ll.toInt64 * ll.toInt64))])), (hgn, .inl (X.2.1, 144, .inl (F))), (h, .inr (1, [.ref hp, .ref hq, .int (nI n), .int o, .int f, .int ll])), (hp, .inl (X.2.1, 4, .inl (P))), (hq, .inl (X.2.1, 4, .inl (Q)))]) (fun _ h => (List.mem_cons_of_mem _ (List.mem_append_left _ (List.mem_append_right _ h)))) 0 rfl rfl tyX0 tyX0_ok nmX0 4 (by decide) (List.mem_of_getElem? (i := 4) rfl) rfl rfl rfl rfl (Nat.le_of_ble_eq_true rfl) rfl dX0_start_64 ?_
  exact s_vret C (pc := 67) hr hlk [0, 1, 2, 3, 4] (by decide) (rfl) dX0_start_67

set_option maxHeartbeats 4000000 in
set_option maxRecDepth 100000 in
theorem kX0_startPair (l : Launch) (X : XT) (hg hgn z : Nat) (F : Nat → Int32) (ar0 lf gl : Int64) (h hp hq n : Nat) (P Q : Nat → Int32) (o f ll : Int32) (i j : Nat) (hi : i < n) (hj : j < n) (hn : n ≤ 4) : KV l yX0_startPair wsX0_startPair ({ frames := 3, cells := 0, slots := 0, locals := 63 }) X [.ref hg, .ref h, .int (nI i), .int (nI j)] [(hg, .inr (0, [.ref hgn, .int (nI z), .long ar0, .long lf, .long gl])), (hgn, .inl (X.2.1, 144, .inl (F))), (h, .inr (1, [.ref hp, .ref hq, .int (nI n), .int o, .int f, .int ll])), (hp, .inl (X.2.1, 4, .inl (P))), (hq, .inl (X.2.1, 4, .inl (Q)))] [(hg, .inr (0, [.ref hgn, .int (nI 0), .long ((ar P Q i).toInt64 * (ar P Q j).toInt64), .long (lfL ((ar P Q i).toInt64 * (ar P Q j).toInt64) f), .long (glL ((ar P Q i).toInt64 * (ar P Q j).toInt64) ll)])), (hgn, .inl (X.2.1, 144, .inl (F))), (h, .inr (1, [.ref hp, .ref hq, .int (nI n), .int o, .int f, .int ll])), (hp, .inl (X.2.1, 4, .inl (P))), (hq, .inl (X.2.1, 4, .inl (Q)))] := by
  refine k_ofV (cc := cX0_startPair) (own := RX0) (maxL := 4) (ret := none) (ls0 := [(0, .ref hg), (1, .ref h), (2, .int (nI i)), (3, .int (nI j))]) (by decide) rfl rfl (Nat.le_of_ble_eq_true rfl) rfl ?_
  intro p e s m args below meth c A g C hr hlk
  refine s_aload_n C (pc := 0) dX0_startPair_0 rfl 0 rfl ?_
  refine s_aload_n C (pc := 1) dX0_startPair_1 rfl 1 rfl ?_
  refine s_aload_n C (pc := 2) dX0_startPair_2 rfl 1 rfl ?_
  refine s_iload_n C (pc := 3) dX0_startPair_3 rfl 2 rfl ?_
  refine s_calli C (pc := 4) (wr := [(hg, .inr (0, [.ref hgn, .int (nI z), .long ar0, .long lf, .long gl])), (hgn, .inl (X.2.1, 144, .inl (F)))]) (wc' := [(h, .inr (1, [.ref hp, .ref hq, .int (nI n), .int o, .int f, .int ll])), (hp, .inl (X.2.1, 4, .inl (P))), (hq, .inl (X.2.1, 4, .inl (Q)))]) (wn := [(hg, .inr (0, [.ref hgn, .int (nI z), .long ar0, .long lf, .long gl])), (hgn, .inl (X.2.1, 144, .inl (F))), (h, .inr (1, [.ref hp, .ref hq, .int (nI n), .int o, .int f, .int ll])), (hp, .inl (X.2.1, 4, .inl (P))), (hq, .inl (X.2.1, 4, .inl (Q)))]) (r_VN C (As := [.int (nI i)]) (rest := [.ref h, .ref hg]) (kX1_areaOf l X h hp hq n P Q o f ll i (by first | assumption | omega | decide) (by first | assumption | omega | decide)) ⟨va_cnB 1 C.ts gX0_startPair_X1_areaOf_n25 rfl rfl rfl (C.nm 12 rfl) (C.ts _ (List.mem_of_getElem? (i := 2) rfl)) (by decide +kernel) ⟨Nat.le_of_ble_eq_true rfl, Nat.le_of_ble_eq_true rfl⟩, C.ts _ (List.mem_of_getElem? (i := 1) rfl), C.ts _ (List.mem_of_getElem? (i := 3) rfl)⟩ (q0 := 2) rfl rfl [2, 3, 4] (by decide) rfl rfl (Nat.le_of_ble_eq_true rfl) rfl dX0_startPair_4 ⟨Nat.zero_le _, Nat.zero_le _⟩) [2, 3, 4] [0, 1] [0, 1, 2, 3, 4] rfl rfl (by decide) (by decide) (by decide) rfl ?_
  refine s_i2l C (pc := 7) dX0_startPair_7 ?_
  refine s_aload_n C (pc := 8) dX0_startPair_8 rfl 1 rfl ?_
  refine s_iload_n C (pc := 9) dX0_startPair_9 rfl 3 rfl ?_
  refine s_calli C (pc := 10) (wr := [(hg, .inr (0, [.ref hgn, .int (nI z), .long ar0, .long lf, .long gl])), (hgn, .inl (X.2.1, 144, .inl (F)))]) (wc' := [(h, .inr (1, [.ref hp, .ref hq, .int (nI n), .int o, .int f, .int ll])), (hp, .inl (X.2.1, 4, .inl (P))), (hq, .inl (X.2.1, 4, .inl (Q)))]) (wn := [(hg, .inr (0, [.ref hgn, .int (nI z), .long ar0, .long lf, .long gl])), (hgn, .inl (X.2.1, 144, .inl (F))), (h, .inr (1, [.ref hp, .ref hq, .int (nI n), .int o, .int f, .int ll])), (hp, .inl (X.2.1, 4, .inl (P))), (hq, .inl (X.2.1, 4, .inl (Q)))]) (r_VN C (As := [.int (nI j)]) (rest := [.long ((ar P Q i).toInt64), .ref h, .ref hg]) (kX1_areaOf l X h hp hq n P Q o f ll j (by first | assumption | omega | decide) (by first | assumption | omega | decide)) ⟨va_cnB 1 C.ts gX0_startPair_X1_areaOf_n25 rfl rfl rfl (C.nm 12 rfl) (C.ts _ (List.mem_of_getElem? (i := 2) rfl)) (by decide +kernel) ⟨Nat.le_of_ble_eq_true rfl, Nat.le_of_ble_eq_true rfl⟩, C.ts _ (List.mem_of_getElem? (i := 1) rfl), C.ts _ (List.mem_of_getElem? (i := 3) rfl)⟩ (q0 := 2) rfl rfl [2, 3, 4] (by decide) rfl rfl (Nat.le_of_ble_eq_true rfl) rfl dX0_startPair_10 ⟨Nat.zero_le _, Nat.zero_le _⟩) [2, 3, 4] [0, 1] [0, 1, 2, 3, 4] rfl rfl (by decide) (by decide) (by decide) rfl ?_
  refine s_i2l C (pc := 13) dX0_startPair_13 ?_
  refine s_lmul C (pc := 14) dX0_startPair_14 ?_
  refine s_callv C (pc := 15) (wr := []) (wc' := [(hg, .inr (0, [.ref hgn, .int (nI 0), .long (((ar P Q i).toInt64) * ((ar P Q j).toInt64)), .long (lfL (((ar P Q i).toInt64) * ((ar P Q j).toInt64)) f), .long (glL (((ar P Q i).toInt64) * ((ar P Q j).toInt64)) ll)])), (hgn, .inl (X.2.1, 144, .inl (F))), (h, .inr (1, [.ref hp, .ref hq, .int (nI n), .int o, .int f, .int ll])), (hp, .inl (X.2.1, 4, .inl (P))), (hq, .inl (X.2.1, 4, .inl (Q)))]) (wn := [(hg, .inr (0, [.ref hgn, .int (nI 0), .long (((ar P Q i).toInt64) * ((ar P Q j).toInt64)), .long (lfL (((ar P Q i).toInt64) * ((ar P Q j).toInt64)) f), .long (glL (((ar P Q i).toInt64) * ((ar P Q j).toInt64)) ll)])), (hgn, .inl (X.2.1, 144, .inl (F))), (h, .inr (1, [.ref hp, .ref hq, .int (nI n), .int o, .int f, .int ll])), (hp, .inl (X.2.1, 4, .inl (P))), (hq, .inl (X.2.1, 4, .inl (Q)))]) (r_V C (As := [.ref h, .long (((ar P Q i).toInt64) * ((ar P Q j).toInt64))]) (rest := []) (kX0_start l X hg hgn z F ar0 lf gl h hp hq n P Q o f ll (((ar P Q i).toInt64) * ((ar P Q j).toInt64)) ) (cwV 2 C.ts gX0_startPair_X0_start rfl rfl rfl (by decide +kernel) ⟨Nat.le_of_ble_eq_true rfl, Nat.le_of_ble_eq_true rfl⟩) (q0 := 0) rfl rfl [0, 1, 2, 3, 4] (by decide) rfl rfl (Nat.le_of_ble_eq_true rfl) rfl dX0_startPair_15 ⟨Nat.zero_le _, Nat.zero_le _⟩) [0, 1, 2, 3, 4] [] [0, 1, 2, 3, 4] rfl rfl (by decide) (by decide) (by decide) rfl ?_
  exact s_vret C (pc := 18) hr hlk [0, 1, 2, 3, 4] (by decide) (rfl) dX0_startPair_18
end
