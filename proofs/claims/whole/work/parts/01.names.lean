-- ===== PART A: goes FIRST, ahead of the names: the tables' words, and 'selects' of the private methods out of them =====
/-- a private method of a class that the tables say can be made, by its rows of tables_1 -/
def lw_okq (q : MethodName × Nat) : Prop := (q.1.cls ≠ "java/lang/invoke/MethodHandle" ∧ q.1.cls ≠ "java/lang/invoke/VarHandle") ∧ Cond.instantiable q.1.cls q.2 ∈ tables_1 ∧ Cond.privateMethod q.1 ∈ tables_1 ∧ Cond.instanceMethod q.1 ∈ tables_1
theorem lw_p0 : lw_okq (⟨"PlateBeats", "record", "()V"⟩, 7) := ⟨⟨by decide +kernel, by decide +kernel⟩, List.mem_of_getElem? (i := 7) (by decide +kernel), List.mem_of_getElem? (i := 103) (by decide +kernel), List.mem_of_getElem? (i := 104) (by decide +kernel)⟩
theorem lw_p1 : lw_okq (⟨"PlateBeats", "dropOldest", "()V"⟩, 7) := ⟨⟨by decide +kernel, by decide +kernel⟩, List.mem_of_getElem? (i := 7) (by decide +kernel), List.mem_of_getElem? (i := 107) (by decide +kernel), List.mem_of_getElem? (i := 108) (by decide +kernel)⟩
theorem lw_p2 : lw_okq (⟨"PlateBeats$State", "append", "(II)V"⟩, 6) := ⟨⟨by decide +kernel, by decide +kernel⟩, List.mem_of_getElem? (i := 15) (by decide +kernel), List.mem_of_getElem? (i := 114) (by decide +kernel), List.mem_of_getElem? (i := 115) (by decide +kernel)⟩
theorem lw_p3 : lw_okq (⟨"PlateBeats$State", "put", "(III)V"⟩, 6) := ⟨⟨by decide +kernel, by decide +kernel⟩, List.mem_of_getElem? (i := 15) (by decide +kernel), List.mem_of_getElem? (i := 118) (by decide +kernel), List.mem_of_getElem? (i := 119) (by decide +kernel)⟩
theorem lw_p4 : lw_okq (⟨"PlateBeats$State", "has", "(I)Z"⟩, 6) := ⟨⟨by decide +kernel, by decide +kernel⟩, List.mem_of_getElem? (i := 15) (by decide +kernel), List.mem_of_getElem? (i := 122) (by decide +kernel), List.mem_of_getElem? (i := 123) (by decide +kernel)⟩
theorem lw_p5 : lw_okq (⟨"PlateBeats$State", "areaOf", "(I)I"⟩, 6) := ⟨⟨by decide +kernel, by decide +kernel⟩, List.mem_of_getElem? (i := 15) (by decide +kernel), List.mem_of_getElem? (i := 131) (by decide +kernel), List.mem_of_getElem? (i := 132) (by decide +kernel)⟩
theorem lw_p6 : lw_okq (⟨"PlateBeats$State", "drop", "(I)V"⟩, 6) := ⟨⟨by decide +kernel, by decide +kernel⟩, List.mem_of_getElem? (i := 15) (by decide +kernel), List.mem_of_getElem? (i := 140) (by decide +kernel), List.mem_of_getElem? (i := 141) (by decide +kernel)⟩
theorem lw_p7 : lw_okq (⟨"PlateBeats$State", "pOf", "(I)I"⟩, 6) := ⟨⟨by decide +kernel, by decide +kernel⟩, List.mem_of_getElem? (i := 15) (by decide +kernel), List.mem_of_getElem? (i := 144) (by decide +kernel), List.mem_of_getElem? (i := 145) (by decide +kernel)⟩
theorem lw_p8 : lw_okq (⟨"PlateBeats$State", "qOf", "(I)I"⟩, 6) := ⟨⟨by decide +kernel, by decide +kernel⟩, List.mem_of_getElem? (i := 15) (by decide +kernel), List.mem_of_getElem? (i := 148) (by decide +kernel), List.mem_of_getElem? (i := 149) (by decide +kernel)⟩
theorem lw_p9 : lw_okq (⟨"PlateBeats", "tileOf", "(I)J"⟩, 7) := ⟨⟨by decide +kernel, by decide +kernel⟩, List.mem_of_getElem? (i := 7) (by decide +kernel), List.mem_of_getElem? (i := 174) (by decide +kernel), List.mem_of_getElem? (i := 175) (by decide +kernel)⟩
theorem lw_p10 : lw_okq (⟨"PlateBeats", "platesBefore", "(I)I"⟩, 7) := ⟨⟨by decide +kernel, by decide +kernel⟩, List.mem_of_getElem? (i := 7) (by decide +kernel), List.mem_of_getElem? (i := 192) (by decide +kernel), List.mem_of_getElem? (i := 193) (by decide +kernel)⟩
theorem lw_p11 : lw_okq (⟨"PlateBeats", "isCombination", "(IIIIII)Z"⟩, 7) := ⟨⟨by decide +kernel, by decide +kernel⟩, List.mem_of_getElem? (i := 7) (by decide +kernel), List.mem_of_getElem? (i := 212) (by decide +kernel), List.mem_of_getElem? (i := 213) (by decide +kernel)⟩
theorem lw_p12 : lw_okq (⟨"PlateBeats$State", "hasPair", "(II)Z"⟩, 6) := ⟨⟨by decide +kernel, by decide +kernel⟩, List.mem_of_getElem? (i := 15) (by decide +kernel), List.mem_of_getElem? (i := 216) (by decide +kernel), List.mem_of_getElem? (i := 217) (by decide +kernel)⟩
theorem lw_p13 : lw_okq (⟨"PlateBeats$State", "isFactorPair", "(II)Z"⟩, 6) := ⟨⟨by decide +kernel, by decide +kernel⟩, List.mem_of_getElem? (i := 15) (by decide +kernel), List.mem_of_getElem? (i := 220) (by decide +kernel), List.mem_of_getElem? (i := 221) (by decide +kernel)⟩
theorem lw_p14 : lw_okq (⟨"PlateBeats$Group", "startPair", "(LPlateBeats$State;II)V"⟩, 5) := ⟨⟨by decide +kernel, by decide +kernel⟩, List.mem_of_getElem? (i := 51) (by decide +kernel), List.mem_of_getElem? (i := 225) (by decide +kernel), List.mem_of_getElem? (i := 226) (by decide +kernel)⟩
theorem lw_p15 : lw_okq (⟨"PlateBeats$Group", "start", "(LPlateBeats$State;J)V"⟩, 5) := ⟨⟨by decide +kernel, by decide +kernel⟩, List.mem_of_getElem? (i := 51) (by decide +kernel), List.mem_of_getElem? (i := 230) (by decide +kernel), List.mem_of_getElem? (i := 231) (by decide +kernel)⟩
def lw_privs_1 : List (MethodName × Nat) := [(⟨"PlateBeats", "record", "()V"⟩, 7), (⟨"PlateBeats", "dropOldest", "()V"⟩, 7), (⟨"PlateBeats$State", "append", "(II)V"⟩, 6), (⟨"PlateBeats$State", "put", "(III)V"⟩, 6), (⟨"PlateBeats$State", "has", "(I)Z"⟩, 6), (⟨"PlateBeats$State", "areaOf", "(I)I"⟩, 6), (⟨"PlateBeats$State", "drop", "(I)V"⟩, 6), (⟨"PlateBeats$State", "pOf", "(I)I"⟩, 6), (⟨"PlateBeats$State", "qOf", "(I)I"⟩, 6), (⟨"PlateBeats", "tileOf", "(I)J"⟩, 7), (⟨"PlateBeats", "platesBefore", "(I)I"⟩, 7), (⟨"PlateBeats", "isCombination", "(IIIIII)Z"⟩, 7), (⟨"PlateBeats$State", "hasPair", "(II)Z"⟩, 6), (⟨"PlateBeats$State", "isFactorPair", "(II)Z"⟩, 6), (⟨"PlateBeats$Group", "startPair", "(LPlateBeats$State;II)V"⟩, 5), (⟨"PlateBeats$Group", "start", "(LPlateBeats$State;J)V"⟩, 5)]
theorem lw_r1 : ∀ q ∈ lw_privs_1, lw_okq q := List.forall_mem_cons.mpr ⟨lw_p0, List.forall_mem_cons.mpr ⟨lw_p1, List.forall_mem_cons.mpr ⟨lw_p2, List.forall_mem_cons.mpr ⟨lw_p3, List.forall_mem_cons.mpr ⟨lw_p4, List.forall_mem_cons.mpr ⟨lw_p5, List.forall_mem_cons.mpr ⟨lw_p6, List.forall_mem_cons.mpr ⟨lw_p7, List.forall_mem_cons.mpr ⟨lw_p8, List.forall_mem_cons.mpr ⟨lw_p9, List.forall_mem_cons.mpr ⟨lw_p10, List.forall_mem_cons.mpr ⟨lw_p11, List.forall_mem_cons.mpr ⟨lw_p12, List.forall_mem_cons.mpr ⟨lw_p13, List.forall_mem_cons.mpr ⟨lw_p14, List.forall_mem_cons.mpr ⟨lw_p15, fun _ h => absurd h List.not_mem_nil⟩⟩⟩⟩⟩⟩⟩⟩⟩⟩⟩⟩⟩⟩⟩⟩
theorem lw_p16 : lw_okq (⟨"PlateBeats$State", "pairNorm", "(IIIIII)I"⟩, 6) := ⟨⟨by decide +kernel, by decide +kernel⟩, List.mem_of_getElem? (i := 15) (by decide +kernel), List.mem_of_getElem? (i := 235) (by decide +kernel), List.mem_of_getElem? (i := 236) (by decide +kernel)⟩
theorem lw_p17 : lw_okq (⟨"PlateBeats$Group", "numerator", "(I)J"⟩, 5) := ⟨⟨by decide +kernel, by decide +kernel⟩, List.mem_of_getElem? (i := 51) (by decide +kernel), List.mem_of_getElem? (i := 245) (by decide +kernel), List.mem_of_getElem? (i := 246) (by decide +kernel)⟩
theorem lw_p18 : lw_okq (⟨"PlateBeats$Group", "denominator", "(I)J"⟩, 5) := ⟨⟨by decide +kernel, by decide +kernel⟩, List.mem_of_getElem? (i := 51) (by decide +kernel), List.mem_of_getElem? (i := 254) (by decide +kernel), List.mem_of_getElem? (i := 255) (by decide +kernel)⟩
theorem lw_p19 : lw_okq (⟨"PlateBeats$Group", "kindOf", "(I)I"⟩, 5) := ⟨⟨by decide +kernel, by decide +kernel⟩, List.mem_of_getElem? (i := 51) (by decide +kernel), List.mem_of_getElem? (i := 262) (by decide +kernel), List.mem_of_getElem? (i := 263) (by decide +kernel)⟩
theorem lw_p20 : lw_okq (⟨"PlateBeats$Group", "fillPair", "(LPlateBeats$State;II)V"⟩, 5) := ⟨⟨by decide +kernel, by decide +kernel⟩, List.mem_of_getElem? (i := 51) (by decide +kernel), List.mem_of_getElem? (i := 270) (by decide +kernel), List.mem_of_getElem? (i := 271) (by decide +kernel)⟩
theorem lw_p21 : lw_okq (⟨"PlateBeats$Group", "addAllFor", "(LPlateBeats$State;IIII)V"⟩, 5) := ⟨⟨by decide +kernel, by decide +kernel⟩, List.mem_of_getElem? (i := 51) (by decide +kernel), List.mem_of_getElem? (i := 275) (by decide +kernel), List.mem_of_getElem? (i := 276) (by decide +kernel)⟩
theorem lw_p22 : lw_okq (⟨"PlateBeats$Group", "add", "(I)V"⟩, 5) := ⟨⟨by decide +kernel, by decide +kernel⟩, List.mem_of_getElem? (i := 51) (by decide +kernel), List.mem_of_getElem? (i := 283) (by decide +kernel), List.mem_of_getElem? (i := 284) (by decide +kernel)⟩
theorem lw_p23 : lw_okq (⟨"PlateBeats$Group", "sort", "()V"⟩, 5) := ⟨⟨by decide +kernel, by decide +kernel⟩, List.mem_of_getElem? (i := 51) (by decide +kernel), List.mem_of_getElem? (i := 287) (by decide +kernel), List.mem_of_getElem? (i := 288) (by decide +kernel)⟩
theorem lw_p24 : lw_okq (⟨"PlateBeats$Group", "differentNorms", "()I"⟩, 5) := ⟨⟨by decide +kernel, by decide +kernel⟩, List.mem_of_getElem? (i := 51) (by decide +kernel), List.mem_of_getElem? (i := 291) (by decide +kernel), List.mem_of_getElem? (i := 292) (by decide +kernel)⟩
theorem lw_p25 : lw_okq (⟨"PlateBeats", "normOfRank", "(III)I"⟩, 7) := ⟨⟨by decide +kernel, by decide +kernel⟩, List.mem_of_getElem? (i := 7) (by decide +kernel), List.mem_of_getElem? (i := 299) (by decide +kernel), List.mem_of_getElem? (i := 300) (by decide +kernel)⟩
theorem lw_p26 : lw_okq (⟨"PlateBeats$Group", "normAt", "(I)I"⟩, 5) := ⟨⟨by decide +kernel, by decide +kernel⟩, List.mem_of_getElem? (i := 51) (by decide +kernel), List.mem_of_getElem? (i := 303) (by decide +kernel), List.mem_of_getElem? (i := 304) (by decide +kernel)⟩
theorem lw_p27 : lw_okq (⟨"PlateBeats$Group", "combinationsWith", "(I)I"⟩, 5) := ⟨⟨by decide +kernel, by decide +kernel⟩, List.mem_of_getElem? (i := 51) (by decide +kernel), List.mem_of_getElem? (i := 315) (by decide +kernel), List.mem_of_getElem? (i := 316) (by decide +kernel)⟩
theorem lw_p28 : lw_okq (⟨"PlateBeats$Group", "period", "(I)I"⟩, 5) := ⟨⟨by decide +kernel, by decide +kernel⟩, List.mem_of_getElem? (i := 51) (by decide +kernel), List.mem_of_getElem? (i := 323) (by decide +kernel), List.mem_of_getElem? (i := 324) (by decide +kernel)⟩
theorem lw_p29 : lw_okq (⟨"PlateBeats", "pairBands", "(II)I"⟩, 7) := ⟨⟨by decide +kernel, by decide +kernel⟩, List.mem_of_getElem? (i := 7) (by decide +kernel), List.mem_of_getElem? (i := 338) (by decide +kernel), List.mem_of_getElem? (i := 339) (by decide +kernel)⟩
theorem lw_p30 : lw_okq (⟨"PlateBeats$Group", "bandCount", "()I"⟩, 5) := ⟨⟨by decide +kernel, by decide +kernel⟩, List.mem_of_getElem? (i := 51) (by decide +kernel), List.mem_of_getElem? (i := 342) (by decide +kernel), List.mem_of_getElem? (i := 343) (by decide +kernel)⟩
theorem lw_p31 : lw_okq (⟨"PlateBeats$Group", "fillTriple", "(LPlateBeats$State;III)V"⟩, 5) := ⟨⟨by decide +kernel, by decide +kernel⟩, List.mem_of_getElem? (i := 51) (by decide +kernel), List.mem_of_getElem? (i := 351) (by decide +kernel), List.mem_of_getElem? (i := 352) (by decide +kernel)⟩
def lw_privs_2 : List (MethodName × Nat) := [(⟨"PlateBeats$State", "pairNorm", "(IIIIII)I"⟩, 6), (⟨"PlateBeats$Group", "numerator", "(I)J"⟩, 5), (⟨"PlateBeats$Group", "denominator", "(I)J"⟩, 5), (⟨"PlateBeats$Group", "kindOf", "(I)I"⟩, 5), (⟨"PlateBeats$Group", "fillPair", "(LPlateBeats$State;II)V"⟩, 5), (⟨"PlateBeats$Group", "addAllFor", "(LPlateBeats$State;IIII)V"⟩, 5), (⟨"PlateBeats$Group", "add", "(I)V"⟩, 5), (⟨"PlateBeats$Group", "sort", "()V"⟩, 5), (⟨"PlateBeats$Group", "differentNorms", "()I"⟩, 5), (⟨"PlateBeats", "normOfRank", "(III)I"⟩, 7), (⟨"PlateBeats$Group", "normAt", "(I)I"⟩, 5), (⟨"PlateBeats$Group", "combinationsWith", "(I)I"⟩, 5), (⟨"PlateBeats$Group", "period", "(I)I"⟩, 5), (⟨"PlateBeats", "pairBands", "(II)I"⟩, 7), (⟨"PlateBeats$Group", "bandCount", "()I"⟩, 5), (⟨"PlateBeats$Group", "fillTriple", "(LPlateBeats$State;III)V"⟩, 5)]
theorem lw_r2 : ∀ q ∈ lw_privs_2, lw_okq q := List.forall_mem_cons.mpr ⟨lw_p16, List.forall_mem_cons.mpr ⟨lw_p17, List.forall_mem_cons.mpr ⟨lw_p18, List.forall_mem_cons.mpr ⟨lw_p19, List.forall_mem_cons.mpr ⟨lw_p20, List.forall_mem_cons.mpr ⟨lw_p21, List.forall_mem_cons.mpr ⟨lw_p22, List.forall_mem_cons.mpr ⟨lw_p23, List.forall_mem_cons.mpr ⟨lw_p24, List.forall_mem_cons.mpr ⟨lw_p25, List.forall_mem_cons.mpr ⟨lw_p26, List.forall_mem_cons.mpr ⟨lw_p27, List.forall_mem_cons.mpr ⟨lw_p28, List.forall_mem_cons.mpr ⟨lw_p29, List.forall_mem_cons.mpr ⟨lw_p30, List.forall_mem_cons.mpr ⟨lw_p31, fun _ h => absurd h List.not_mem_nil⟩⟩⟩⟩⟩⟩⟩⟩⟩⟩⟩⟩⟩⟩⟩⟩
theorem lw_p32 : lw_okq (⟨"PlateBeats", "bandsOfGroups", "(LPlateBeats$State;I)I"⟩, 7) := ⟨⟨by decide +kernel, by decide +kernel⟩, List.mem_of_getElem? (i := 7) (by decide +kernel), List.mem_of_getElem? (i := 365) (by decide +kernel), List.mem_of_getElem? (i := 366) (by decide +kernel)⟩
theorem lw_p33 : lw_okq (⟨"PlateBeats$State", "hasAll", "(I)Z"⟩, 6) := ⟨⟨by decide +kernel, by decide +kernel⟩, List.mem_of_getElem? (i := 15) (by decide +kernel), List.mem_of_getElem? (i := 371) (by decide +kernel), List.mem_of_getElem? (i := 372) (by decide +kernel)⟩
theorem lw_p34 : lw_okq (⟨"PlateBeats$Group", "fillPlates", "(LPlateBeats$State;I)V"⟩, 5) := ⟨⟨by decide +kernel, by decide +kernel⟩, List.mem_of_getElem? (i := 51) (by decide +kernel), List.mem_of_getElem? (i := 375) (by decide +kernel), List.mem_of_getElem? (i := 376) (by decide +kernel)⟩
theorem lw_p35 : lw_okq (⟨"PlateBeats", "worstPeriodOf", "(I)I"⟩, 7) := ⟨⟨by decide +kernel, by decide +kernel⟩, List.mem_of_getElem? (i := 7) (by decide +kernel), List.mem_of_getElem? (i := 388) (by decide +kernel), List.mem_of_getElem? (i := 389) (by decide +kernel)⟩
theorem lw_p36 : lw_okq (⟨"PlateBeats$Group", "worstPeriodFound", "()I"⟩, 5) := ⟨⟨by decide +kernel, by decide +kernel⟩, List.mem_of_getElem? (i := 51) (by decide +kernel), List.mem_of_getElem? (i := 392) (by decide +kernel), List.mem_of_getElem? (i := 393) (by decide +kernel)⟩
theorem lw_p37 : lw_okq (⟨"PlateBeats", "search", "(III)I"⟩, 7) := ⟨⟨by decide +kernel, by decide +kernel⟩, List.mem_of_getElem? (i := 7) (by decide +kernel), List.mem_of_getElem? (i := 413) (by decide +kernel), List.mem_of_getElem? (i := 414) (by decide +kernel)⟩
theorem lw_p38 : lw_okq (⟨"PlateBeatsModel", "records", "()V"⟩, 10) := ⟨⟨by decide +kernel, by decide +kernel⟩, List.mem_of_getElem? (i := 443) (by decide +kernel), List.mem_of_getElem? (i := 491) (by decide +kernel), List.mem_of_getElem? (i := 492) (by decide +kernel)⟩
theorem lw_p39 : lw_okq (⟨"PlateBeatsModel", "isPlate", "(I)Z"⟩, 10) := ⟨⟨by decide +kernel, by decide +kernel⟩, List.mem_of_getElem? (i := 443) (by decide +kernel), List.mem_of_getElem? (i := 499) (by decide +kernel), List.mem_of_getElem? (i := 500) (by decide +kernel)⟩
theorem lw_p40 : lw_okq (⟨"PlateBeatsModel", "areaOf", "(I)I"⟩, 10) := ⟨⟨by decide +kernel, by decide +kernel⟩, List.mem_of_getElem? (i := 443) (by decide +kernel), List.mem_of_getElem? (i := 503) (by decide +kernel), List.mem_of_getElem? (i := 504) (by decide +kernel)⟩
theorem lw_p41 : lw_okq (⟨"PlateBeatsModel", "firstOf", "(I)I"⟩, 10) := ⟨⟨by decide +kernel, by decide +kernel⟩, List.mem_of_getElem? (i := 443) (by decide +kernel), List.mem_of_getElem? (i := 507) (by decide +kernel), List.mem_of_getElem? (i := 508) (by decide +kernel)⟩
theorem lw_p42 : lw_okq (⟨"PlateBeatsModel", "secondOf", "(I)I"⟩, 10) := ⟨⟨by decide +kernel, by decide +kernel⟩, List.mem_of_getElem? (i := 443) (by decide +kernel), List.mem_of_getElem? (i := 511) (by decide +kernel), List.mem_of_getElem? (i := 512) (by decide +kernel)⟩
theorem lw_p43 : lw_okq (⟨"PlateBeatsModel", "tileOf", "(I)I"⟩, 10) := ⟨⟨by decide +kernel, by decide +kernel⟩, List.mem_of_getElem? (i := 443) (by decide +kernel), List.mem_of_getElem? (i := 539) (by decide +kernel), List.mem_of_getElem? (i := 540) (by decide +kernel)⟩
theorem lw_p44 : lw_okq (⟨"PlateBeatsModel", "isAhead", "(II)Z"⟩, 10) := ⟨⟨by decide +kernel, by decide +kernel⟩, List.mem_of_getElem? (i := 443) (by decide +kernel), List.mem_of_getElem? (i := 554) (by decide +kernel), List.mem_of_getElem? (i := 555) (by decide +kernel)⟩
theorem lw_p45 : lw_okq (⟨"PlateBeatsModel", "isCombination", "(IIIIII)Z"⟩, 10) := ⟨⟨by decide +kernel, by decide +kernel⟩, List.mem_of_getElem? (i := 443) (by decide +kernel), List.mem_of_getElem? (i := 574) (by decide +kernel), List.mem_of_getElem? (i := 575) (by decide +kernel)⟩
theorem lw_p46 : lw_okq (⟨"PlateBeatsModel", "isPair", "(II)Z"⟩, 10) := ⟨⟨by decide +kernel, by decide +kernel⟩, List.mem_of_getElem? (i := 443) (by decide +kernel), List.mem_of_getElem? (i := 578) (by decide +kernel), List.mem_of_getElem? (i := 579) (by decide +kernel)⟩
theorem lw_p47 : lw_okq (⟨"PlateBeatsModel", "isPart", "(II)Z"⟩, 10) := ⟨⟨by decide +kernel, by decide +kernel⟩, List.mem_of_getElem? (i := 443) (by decide +kernel), List.mem_of_getElem? (i := 582) (by decide +kernel), List.mem_of_getElem? (i := 583) (by decide +kernel)⟩
def lw_privs_3 : List (MethodName × Nat) := [(⟨"PlateBeats", "bandsOfGroups", "(LPlateBeats$State;I)I"⟩, 7), (⟨"PlateBeats$State", "hasAll", "(I)Z"⟩, 6), (⟨"PlateBeats$Group", "fillPlates", "(LPlateBeats$State;I)V"⟩, 5), (⟨"PlateBeats", "worstPeriodOf", "(I)I"⟩, 7), (⟨"PlateBeats$Group", "worstPeriodFound", "()I"⟩, 5), (⟨"PlateBeats", "search", "(III)I"⟩, 7), (⟨"PlateBeatsModel", "records", "()V"⟩, 10), (⟨"PlateBeatsModel", "isPlate", "(I)Z"⟩, 10), (⟨"PlateBeatsModel", "areaOf", "(I)I"⟩, 10), (⟨"PlateBeatsModel", "firstOf", "(I)I"⟩, 10), (⟨"PlateBeatsModel", "secondOf", "(I)I"⟩, 10), (⟨"PlateBeatsModel", "tileOf", "(I)I"⟩, 10), (⟨"PlateBeatsModel", "isAhead", "(II)Z"⟩, 10), (⟨"PlateBeatsModel", "isCombination", "(IIIIII)Z"⟩, 10), (⟨"PlateBeatsModel", "isPair", "(II)Z"⟩, 10), (⟨"PlateBeatsModel", "isPart", "(II)Z"⟩, 10)]
theorem lw_r3 : ∀ q ∈ lw_privs_3, lw_okq q := List.forall_mem_cons.mpr ⟨lw_p32, List.forall_mem_cons.mpr ⟨lw_p33, List.forall_mem_cons.mpr ⟨lw_p34, List.forall_mem_cons.mpr ⟨lw_p35, List.forall_mem_cons.mpr ⟨lw_p36, List.forall_mem_cons.mpr ⟨lw_p37, List.forall_mem_cons.mpr ⟨lw_p38, List.forall_mem_cons.mpr ⟨lw_p39, List.forall_mem_cons.mpr ⟨lw_p40, List.forall_mem_cons.mpr ⟨lw_p41, List.forall_mem_cons.mpr ⟨lw_p42, List.forall_mem_cons.mpr ⟨lw_p43, List.forall_mem_cons.mpr ⟨lw_p44, List.forall_mem_cons.mpr ⟨lw_p45, List.forall_mem_cons.mpr ⟨lw_p46, List.forall_mem_cons.mpr ⟨lw_p47, fun _ h => absurd h List.not_mem_nil⟩⟩⟩⟩⟩⟩⟩⟩⟩⟩⟩⟩⟩⟩⟩⟩
theorem lw_p48 : lw_okq (⟨"PlateBeatsModel", "pairSquare", "(IIIIII)J"⟩, 10) := ⟨⟨by decide +kernel, by decide +kernel⟩, List.mem_of_getElem? (i := 443) (by decide +kernel), List.mem_of_getElem? (i := 587) (by decide +kernel), List.mem_of_getElem? (i := 588) (by decide +kernel)⟩
theorem lw_p49 : lw_okq (⟨"PlateBeatsModel", "pairBase", "(II)J"⟩, 10) := ⟨⟨by decide +kernel, by decide +kernel⟩, List.mem_of_getElem? (i := 443) (by decide +kernel), List.mem_of_getElem? (i := 591) (by decide +kernel), List.mem_of_getElem? (i := 592) (by decide +kernel)⟩
theorem lw_p50 : lw_okq (⟨"PlateBeatsModel", "kindOf", "(JJ)I"⟩, 10) := ⟨⟨by decide +kernel, by decide +kernel⟩, List.mem_of_getElem? (i := 443) (by decide +kernel), List.mem_of_getElem? (i := 603) (by decide +kernel), List.mem_of_getElem? (i := 604) (by decide +kernel)⟩
theorem lw_p51 : lw_okq (⟨"PlateBeatsModel", "laySquares", "(II)V"⟩, 10) := ⟨⟨by decide +kernel, by decide +kernel⟩, List.mem_of_getElem? (i := 443) (by decide +kernel), List.mem_of_getElem? (i := 611) (by decide +kernel), List.mem_of_getElem? (i := 612) (by decide +kernel)⟩
theorem lw_p52 : lw_okq (⟨"PlateBeatsModel", "layWith", "(IIII)V"⟩, 10) := ⟨⟨by decide +kernel, by decide +kernel⟩, List.mem_of_getElem? (i := 443) (by decide +kernel), List.mem_of_getElem? (i := 615) (by decide +kernel), List.mem_of_getElem? (i := 616) (by decide +kernel)⟩
theorem lw_p53 : lw_okq (⟨"PlateBeatsModel", "insert", "(J)V"⟩, 10) := ⟨⟨by decide +kernel, by decide +kernel⟩, List.mem_of_getElem? (i := 443) (by decide +kernel), List.mem_of_getElem? (i := 619) (by decide +kernel), List.mem_of_getElem? (i := 620) (by decide +kernel)⟩
theorem lw_p54 : lw_okq (⟨"PlateBeatsModel", "behind", "(I)I"⟩, 10) := ⟨⟨by decide +kernel, by decide +kernel⟩, List.mem_of_getElem? (i := 443) (by decide +kernel), List.mem_of_getElem? (i := 623) (by decide +kernel), List.mem_of_getElem? (i := 624) (by decide +kernel)⟩
theorem lw_p55 : lw_okq (⟨"PlateBeatsModel", "beat", "(IIII)J"⟩, 10) := ⟨⟨by decide +kernel, by decide +kernel⟩, List.mem_of_getElem? (i := 443) (by decide +kernel), List.mem_of_getElem? (i := 631) (by decide +kernel), List.mem_of_getElem? (i := 632) (by decide +kernel)⟩
theorem lw_p56 : lw_okq (⟨"PlateBeatsModel", "placeOf", "(I)I"⟩, 10) := ⟨⟨by decide +kernel, by decide +kernel⟩, List.mem_of_getElem? (i := 443) (by decide +kernel), List.mem_of_getElem? (i := 635) (by decide +kernel), List.mem_of_getElem? (i := 636) (by decide +kernel)⟩
theorem lw_p57 : lw_okq (⟨"PlateBeatsModel", "ofKind", "(III)I"⟩, 10) := ⟨⟨by decide +kernel, by decide +kernel⟩, List.mem_of_getElem? (i := 443) (by decide +kernel), List.mem_of_getElem? (i := 661) (by decide +kernel), List.mem_of_getElem? (i := 662) (by decide +kernel)⟩
theorem lw_p58 : lw_okq (⟨"PlateBeatsModel", "bandsOfThree", "(III)I"⟩, 10) := ⟨⟨by decide +kernel, by decide +kernel⟩, List.mem_of_getElem? (i := 443) (by decide +kernel), List.mem_of_getElem? (i := 673) (by decide +kernel), List.mem_of_getElem? (i := 674) (by decide +kernel)⟩
theorem lw_p59 : lw_okq (⟨"PlateBeatsModel", "tripleBase", "(III)J"⟩, 10) := ⟨⟨by decide +kernel, by decide +kernel⟩, List.mem_of_getElem? (i := 443) (by decide +kernel), List.mem_of_getElem? (i := 677) (by decide +kernel), List.mem_of_getElem? (i := 678) (by decide +kernel)⟩
theorem lw_p60 : lw_okq (⟨"PlateBeatsModel", "tripleSquare", "(IIII)J"⟩, 10) := ⟨⟨by decide +kernel, by decide +kernel⟩, List.mem_of_getElem? (i := 443) (by decide +kernel), List.mem_of_getElem? (i := 681) (by decide +kernel), List.mem_of_getElem? (i := 682) (by decide +kernel)⟩
theorem lw_p61 : lw_okq (⟨"PlateBeatsModel", "part", "(IIZ)I"⟩, 10) := ⟨⟨by decide +kernel, by decide +kernel⟩, List.mem_of_getElem? (i := 443) (by decide +kernel), List.mem_of_getElem? (i := 685) (by decide +kernel), List.mem_of_getElem? (i := 686) (by decide +kernel)⟩
theorem lw_p62 : lw_okq (⟨"PlateBeatsModel", "findAll", "()I"⟩, 10) := ⟨⟨by decide +kernel, by decide +kernel⟩, List.mem_of_getElem? (i := 443) (by decide +kernel), List.mem_of_getElem? (i := 693) (by decide +kernel), List.mem_of_getElem? (i := 694) (by decide +kernel)⟩
theorem lw_p63 : lw_okq (⟨"PlateBeatsModel", "note", "(I)V"⟩, 10) := ⟨⟨by decide +kernel, by decide +kernel⟩, List.mem_of_getElem? (i := 443) (by decide +kernel), List.mem_of_getElem? (i := 697) (by decide +kernel), List.mem_of_getElem? (i := 698) (by decide +kernel)⟩
def lw_privs_4 : List (MethodName × Nat) := [(⟨"PlateBeatsModel", "pairSquare", "(IIIIII)J"⟩, 10), (⟨"PlateBeatsModel", "pairBase", "(II)J"⟩, 10), (⟨"PlateBeatsModel", "kindOf", "(JJ)I"⟩, 10), (⟨"PlateBeatsModel", "laySquares", "(II)V"⟩, 10), (⟨"PlateBeatsModel", "layWith", "(IIII)V"⟩, 10), (⟨"PlateBeatsModel", "insert", "(J)V"⟩, 10), (⟨"PlateBeatsModel", "behind", "(I)I"⟩, 10), (⟨"PlateBeatsModel", "beat", "(IIII)J"⟩, 10), (⟨"PlateBeatsModel", "placeOf", "(I)I"⟩, 10), (⟨"PlateBeatsModel", "ofKind", "(III)I"⟩, 10), (⟨"PlateBeatsModel", "bandsOfThree", "(III)I"⟩, 10), (⟨"PlateBeatsModel", "tripleBase", "(III)J"⟩, 10), (⟨"PlateBeatsModel", "tripleSquare", "(IIII)J"⟩, 10), (⟨"PlateBeatsModel", "part", "(IIZ)I"⟩, 10), (⟨"PlateBeatsModel", "findAll", "()I"⟩, 10), (⟨"PlateBeatsModel", "note", "(I)V"⟩, 10)]
theorem lw_r4 : ∀ q ∈ lw_privs_4, lw_okq q := List.forall_mem_cons.mpr ⟨lw_p48, List.forall_mem_cons.mpr ⟨lw_p49, List.forall_mem_cons.mpr ⟨lw_p50, List.forall_mem_cons.mpr ⟨lw_p51, List.forall_mem_cons.mpr ⟨lw_p52, List.forall_mem_cons.mpr ⟨lw_p53, List.forall_mem_cons.mpr ⟨lw_p54, List.forall_mem_cons.mpr ⟨lw_p55, List.forall_mem_cons.mpr ⟨lw_p56, List.forall_mem_cons.mpr ⟨lw_p57, List.forall_mem_cons.mpr ⟨lw_p58, List.forall_mem_cons.mpr ⟨lw_p59, List.forall_mem_cons.mpr ⟨lw_p60, List.forall_mem_cons.mpr ⟨lw_p61, List.forall_mem_cons.mpr ⟨lw_p62, List.forall_mem_cons.mpr ⟨lw_p63, fun _ h => absurd h List.not_mem_nil⟩⟩⟩⟩⟩⟩⟩⟩⟩⟩⟩⟩⟩⟩⟩⟩
theorem lw_p64 : lw_okq (⟨"PlateBeatsModel", "isRange", "(III)Z"⟩, 10) := ⟨⟨by decide +kernel, by decide +kernel⟩, List.mem_of_getElem? (i := 443) (by decide +kernel), List.mem_of_getElem? (i := 717) (by decide +kernel), List.mem_of_getElem? (i := 718) (by decide +kernel)⟩
theorem lw_p65 : lw_okq (⟨"PlateBeatsModel", "search", "(III)I"⟩, 10) := ⟨⟨by decide +kernel, by decide +kernel⟩, List.mem_of_getElem? (i := 443) (by decide +kernel), List.mem_of_getElem? (i := 721) (by decide +kernel), List.mem_of_getElem? (i := 722) (by decide +kernel)⟩
def lw_privs_5 : List (MethodName × Nat) := [(⟨"PlateBeatsModel", "isRange", "(III)Z"⟩, 10), (⟨"PlateBeatsModel", "search", "(III)I"⟩, 10)]
theorem lw_r5 : ∀ q ∈ lw_privs_5, lw_okq q := List.forall_mem_cons.mpr ⟨lw_p64, List.forall_mem_cons.mpr ⟨lw_p65, fun _ h => absurd h List.not_mem_nil⟩⟩
def lw_privs : List (MethodName × Nat) := lw_privs_1 ++ (lw_privs_2 ++ (lw_privs_3 ++ (lw_privs_4 ++ (lw_privs_5))))
def lw_tbl : List Cond := k2_sels lw_privs ++ tables_1
theorem lw_privs_ok : ∀ q ∈ lw_privs, lw_okq q := by
  show ∀ q ∈ lw_privs_1 ++ (lw_privs_2 ++ (lw_privs_3 ++ (lw_privs_4 ++ (lw_privs_5)))), lw_okq q
  exact List.forall_mem_append.mpr ⟨lw_r1, List.forall_mem_append.mpr ⟨lw_r2, List.forall_mem_append.mpr ⟨lw_r3, List.forall_mem_append.mpr ⟨lw_r4, lw_r5⟩⟩⟩⟩
/-! ===== BEGIN words of one list among another's, by their places ===== -/
theorem goodIn_r {big : List Cond} (ws : List Cond) (ps : List Nat) (hp : ws = ps.filterMap (fun i => big[i]?)) (h : ws.all goodWord = true) : GoodIn big ws := by
  intro w hw
  have h1 := List.all_eq_true.mp h w hw
  rw [hp] at hw
  obtain ⟨i, -, hi⟩ := List.mem_filterMap.mp hw
  have hm : w ∈ big := by first | exact List.mem_of_getElem? hi | exact List.getElem?_mem hi
  exact ⟨hm, good_of_word h1⟩
theorem goodIn_app {big a b : List Cond} (ha : GoodIn big a) (hb : GoodIn big b) : GoodIn big (a ++ b) := fun w h => (List.mem_append.mp h).elim (ha w) (hb w)
theorem goodIn_ca {big a b : List Cond} {c : Cond} (ha : GoodIn big (c :: a)) (hb : GoodIn big b) : GoodIn big (c :: (a ++ b)) := fun w h => (List.mem_cons.mp h).elim (fun e => ha w (List.mem_cons.mpr (Or.inl e))) (fun h => (List.mem_append.mp h).elim (fun h => ha w (List.mem_cons.mpr (Or.inr h))) (hb w))
theorem goodIn_sub {big ws : List Cond} (hm : ∀ w ∈ ws, w ∈ big) (h : ws.all goodWord = true) : GoodIn big ws := fun w hw => ⟨hm w hw, good_of_word (List.all_eq_true.mp h w hw)⟩
/-! ===== END ===== -/

/-! ===== BEGIN printed: names, fields, word lists, decode rows ===== -/
def RX0 : String := "PlateBeats$Group"
def TX0 : u_T := fun k => match k with
  | 0 => ("PlateBeats$Group", "norms", "[I", true)
  | 1 => ("PlateBeats$Group", "size", "I", false)
  | 2 => ("PlateBeats$Group", "areas", "J", false)
  | 3 => ("PlateBeats$Group", "leastFine", "J", false)
  | _ => ("PlateBeats$Group", "greatestLong", "J", false)
def tyX0 : Nat → FieldType := fun k => match k with
  | 0 => .array .int
  | 1 => .int
  | 2 => .long
  | 3 => .long
  | _ => .long
abbrev wsX00 : List Cond := u_ws RX0 TX0 5
theorem nmX0 : ∀ a, a < 5 → ∀ b, b < 5 → a ≠ b → (TX0 a).2.1 ≠ (TX0 b).2.1 := by decide +kernel
theorem tyX0_ok : ∀ k, k < 5 → parseFieldDescriptor (TX0 k).2.2.1 = some (tyX0 k) := by decide +kernel
abbrev cX0_init : ByteArray := prog_2_method_1_code
def yX0_init : MethodName := ⟨RX0, "<init>", "()V"⟩
abbrev cX0_startPair : ByteArray := prog_2_method_2_code
def yX0_startPair : MethodName := ⟨RX0, "startPair", "(LPlateBeats$State;II)V"⟩
abbrev cX0_start : ByteArray := prog_2_method_3_code
def yX0_start : MethodName := ⟨RX0, "start", "(LPlateBeats$State;J)V"⟩
abbrev cX0_add : ByteArray := prog_2_method_4_code
def yX0_add : MethodName := ⟨RX0, "add", "(I)V"⟩
abbrev cX0_fillPair : ByteArray := prog_2_method_5_code
def yX0_fillPair : MethodName := ⟨RX0, "fillPair", "(LPlateBeats$State;II)V"⟩
abbrev cX0_addAllFor : ByteArray := prog_2_method_6_code
def yX0_addAllFor : MethodName := ⟨RX0, "addAllFor", "(LPlateBeats$State;IIII)V"⟩
abbrev cX0_fillTriple : ByteArray := prog_2_method_7_code
def yX0_fillTriple : MethodName := ⟨RX0, "fillTriple", "(LPlateBeats$State;III)V"⟩
abbrev cX0_productReal : ByteArray := prog_2_method_8_code
def yX0_productReal : MethodName := ⟨RX0, "productReal", "(LPlateBeats$State;II)I"⟩
abbrev cX0_productImaginary : ByteArray := prog_2_method_9_code
def yX0_productImaginary : MethodName := ⟨RX0, "productImaginary", "(LPlateBeats$State;II)I"⟩
abbrev cX0_fillPlates : ByteArray := prog_2_method_10_code
def yX0_fillPlates : MethodName := ⟨RX0, "fillPlates", "(LPlateBeats$State;I)V"⟩
abbrev cX0_firstPlate : ByteArray := prog_2_method_11_code
def yX0_firstPlate : MethodName := ⟨RX0, "firstPlate", "(II)I"⟩
abbrev cX0_kindOf : ByteArray := prog_2_method_12_code
def yX0_kindOf : MethodName := ⟨RX0, "kindOf", "(I)I"⟩
abbrev cX0_bandCount : ByteArray := prog_2_method_13_code
def yX0_bandCount : MethodName := ⟨RX0, "bandCount", "()I"⟩
abbrev cX0_worstPeriodFound : ByteArray := prog_2_method_14_code
def yX0_worstPeriodFound : MethodName := ⟨RX0, "worstPeriodFound", "()I"⟩
abbrev cX0_combinationsWith : ByteArray := prog_2_method_15_code
def yX0_combinationsWith : MethodName := ⟨RX0, "combinationsWith", "(I)I"⟩
abbrev cX0_sort : ByteArray := prog_2_method_16_code
def yX0_sort : MethodName := ⟨RX0, "sort", "()V"⟩
abbrev cX0_differentNorms : ByteArray := prog_2_method_17_code
def yX0_differentNorms : MethodName := ⟨RX0, "differentNorms", "()I"⟩
abbrev cX0_normAt : ByteArray := prog_2_method_18_code
def yX0_normAt : MethodName := ⟨RX0, "normAt", "(I)I"⟩
abbrev cX0_numerator : ByteArray := prog_2_method_19_code
def yX0_numerator : MethodName := ⟨RX0, "numerator", "(I)J"⟩
abbrev cX0_denominator : ByteArray := prog_2_method_20_code
def yX0_denominator : MethodName := ⟨RX0, "denominator", "(I)J"⟩
abbrev cX0_period : ByteArray := prog_2_method_21_code
def yX0_period : MethodName := ⟨RX0, "period", "(I)I"⟩
def RX1 : String := "PlateBeats$State"
def TX1 : u_T := fun k => match k with
  | 0 => ("PlateBeats$State", "p", "[I", true)
  | 1 => ("PlateBeats$State", "q", "[I", true)
  | 2 => ("PlateBeats$State", "count", "I", false)
  | 3 => ("PlateBeats$State", "order", "I", false)
  | 4 => ("PlateBeats$State", "fineLimit", "I", false)
  | _ => ("PlateBeats$State", "longLimit", "I", false)
def tyX1 : Nat → FieldType := fun k => match k with
  | 0 => .array .int
  | 1 => .array .int
  | 2 => .int
  | 3 => .int
  | 4 => .int
  | _ => .int
abbrev wsX10 : List Cond := u_ws RX1 TX1 6
theorem nmX1 : ∀ a, a < 6 → ∀ b, b < 6 → a ≠ b → (TX1 a).2.1 ≠ (TX1 b).2.1 := by decide +kernel
theorem tyX1_ok : ∀ k, k < 6 → parseFieldDescriptor (TX1 k).2.2.1 = some (tyX1 k) := by decide +kernel
abbrev cX1_init : ByteArray := prog_3_method_1_code
def yX1_init : MethodName := ⟨RX1, "<init>", "()V"⟩
abbrev cX1_has : ByteArray := prog_3_method_2_code
def yX1_has : MethodName := ⟨RX1, "has", "(I)Z"⟩
abbrev cX1_hasPair : ByteArray := prog_3_method_3_code
def yX1_hasPair : MethodName := ⟨RX1, "hasPair", "(II)Z"⟩
abbrev cX1_hasAll : ByteArray := prog_3_method_4_code
def yX1_hasAll : MethodName := ⟨RX1, "hasAll", "(I)Z"⟩
abbrev cX1_isFactorPair : ByteArray := prog_3_method_5_code
def yX1_isFactorPair : MethodName := ⟨RX1, "isFactorPair", "(II)Z"⟩
abbrev cX1_pOf : ByteArray := prog_3_method_6_code
def yX1_pOf : MethodName := ⟨RX1, "pOf", "(I)I"⟩
abbrev cX1_qOf : ByteArray := prog_3_method_7_code
def yX1_qOf : MethodName := ⟨RX1, "qOf", "(I)I"⟩
abbrev cX1_areaOf : ByteArray := prog_3_method_8_code
def yX1_areaOf : MethodName := ⟨RX1, "areaOf", "(I)I"⟩
abbrev cX1_put : ByteArray := prog_3_method_9_code
def yX1_put : MethodName := ⟨RX1, "put", "(III)V"⟩
abbrev cX1_append : ByteArray := prog_3_method_10_code
def yX1_append : MethodName := ⟨RX1, "append", "(II)V"⟩
abbrev cX1_drop : ByteArray := prog_3_method_11_code
def yX1_drop : MethodName := ⟨RX1, "drop", "(I)V"⟩
abbrev cX1_pairNorm : ByteArray := prog_3_method_12_code
def yX1_pairNorm : MethodName := ⟨RX1, "pairNorm", "(IIIIII)I"⟩
def RX2 : String := "PlateBeats"
def TX2 : u_T := fun k => match k with
  | 0 => ("PlateBeats", "present", "LPlateBeats$State;", true)
  | 1 => ("PlateBeats", "trial", "LPlateBeats$State;", true)
  | 2 => ("PlateBeats", "history", "[LPlateBeats$State;", true)
  | 3 => ("PlateBeats", "slots", "[LPlateBeats$State;", true)
  | 4 => ("PlateBeats", "slotFilled", "[Z", true)
  | 5 => ("PlateBeats", "group", "LPlateBeats$Group;", true)
  | _ => ("PlateBeats", "historyCount", "I", false)
def tyX2 : Nat → FieldType := fun k => match k with
  | 0 => .object "PlateBeats$State"
  | 1 => .object "PlateBeats$State"
  | 2 => .array (.object "PlateBeats$State")
  | 3 => .array (.object "PlateBeats$State")
  | 4 => .array .boolean
  | 5 => .object "PlateBeats$Group"
  | _ => .int
abbrev wsX20 : List Cond := u_ws RX2 TX2 7
theorem nmX2 : ∀ a, a < 7 → ∀ b, b < 7 → a ≠ b → (TX2 a).2.1 ≠ (TX2 b).2.1 := by decide +kernel
theorem tyX2_ok : ∀ k, k < 7 → parseFieldDescriptor (TX2 k).2.2.1 = some (tyX2 k) := by decide +kernel
abbrev cX2_init : ByteArray := prog_1_method_1_code
def yX2_init : MethodName := ⟨RX2, "<init>", "()V"⟩
abbrev cX2_addPlate : ByteArray := prog_1_method_2_code
def yX2_addPlate : MethodName := ⟨RX2, "addPlate", "(II)I"⟩
abbrev cX2_setScreen : ByteArray := prog_1_method_3_code
def yX2_setScreen : MethodName := ⟨RX2, "setScreen", "(III)I"⟩
abbrev cX2_removePlate : ByteArray := prog_1_method_4_code
def yX2_removePlate : MethodName := ⟨RX2, "removePlate", "(I)I"⟩
abbrev cX2_plateCount : ByteArray := prog_1_method_5_code
def yX2_plateCount : MethodName := ⟨RX2, "plateCount", "()I"⟩
abbrev cX2_cellP : ByteArray := prog_1_method_6_code
def yX2_cellP : MethodName := ⟨RX2, "cellP", "(I)I"⟩
abbrev cX2_cellQ : ByteArray := prog_1_method_7_code
def yX2_cellQ : MethodName := ⟨RX2, "cellQ", "(I)I"⟩
abbrev cX2_cellArea : ByteArray := prog_1_method_8_code
def yX2_cellArea : MethodName := ⟨RX2, "cellArea", "(I)I"⟩
abbrev cX2_tile : ByteArray := prog_1_method_9_code
def yX2_tile : MethodName := ⟨RX2, "tile", "(I)I"⟩
abbrev cX2_commonTile : ByteArray := prog_1_method_10_code
def yX2_commonTile : MethodName := ⟨RX2, "commonTile", "()J"⟩
abbrev cX2_byAngle : ByteArray := prog_1_method_11_code
def yX2_byAngle : MethodName := ⟨RX2, "byAngle", "(I)I"⟩
abbrev cX2_tileOf : ByteArray := prog_1_method_12_code
def yX2_tileOf : MethodName := ⟨RX2, "tileOf", "(I)J"⟩
abbrev cX2_platesBefore : ByteArray := prog_1_method_13_code
def yX2_platesBefore : MethodName := ⟨RX2, "platesBefore", "(I)I"⟩
abbrev cX2_isScreen : ByteArray := prog_1_method_14_code
def yX2_isScreen : MethodName := ⟨RX2, "isScreen", "(II)Z"⟩
abbrev cX2_setOrder : ByteArray := prog_1_method_15_code
def yX2_setOrder : MethodName := ⟨RX2, "setOrder", "(I)I"⟩
abbrev cX2_setLimits : ByteArray := prog_1_method_16_code
def yX2_setLimits : MethodName := ⟨RX2, "setLimits", "(II)I"⟩
abbrev cX2_longLimit : ByteArray := prog_1_method_17_code
def yX2_longLimit : MethodName := ⟨RX2, "longLimit", "()I"⟩
abbrev cX2_squareNumerator : ByteArray := prog_1_method_18_code
def yX2_squareNumerator : MethodName := ⟨RX2, "squareNumerator", "(IIIIII)J"⟩
abbrev cX2_squareDenominator : ByteArray := prog_1_method_19_code
def yX2_squareDenominator : MethodName := ⟨RX2, "squareDenominator", "(IIIIII)J"⟩
abbrev cX2_kind : ByteArray := prog_1_method_20_code
def yX2_kind : MethodName := ⟨RX2, "kind", "(IIIIII)I"⟩
abbrev cX2_beatCount : ByteArray := prog_1_method_21_code
def yX2_beatCount : MethodName := ⟨RX2, "beatCount", "(II)I"⟩
abbrev cX2_beatNumerator : ByteArray := prog_1_method_22_code
def yX2_beatNumerator : MethodName := ⟨RX2, "beatNumerator", "(III)J"⟩
abbrev cX2_beatDenominator : ByteArray := prog_1_method_23_code
def yX2_beatDenominator : MethodName := ⟨RX2, "beatDenominator", "(III)J"⟩
abbrev cX2_beatFrequency : ByteArray := prog_1_method_24_code
def yX2_beatFrequency : MethodName := ⟨RX2, "beatFrequency", "(III)I"⟩
abbrev cX2_beatPeriod : ByteArray := prog_1_method_25_code
def yX2_beatPeriod : MethodName := ⟨RX2, "beatPeriod", "(III)I"⟩
abbrev cX2_locked : ByteArray := prog_1_method_26_code
def yX2_locked : MethodName := ⟨RX2, "locked", "(II)I"⟩
abbrev cX2_bands : ByteArray := prog_1_method_27_code
def yX2_bands : MethodName := ⟨RX2, "bands", "(II)I"⟩
abbrev cX2_isCombination : ByteArray := prog_1_method_28_code
def yX2_isCombination : MethodName := ⟨RX2, "isCombination", "(IIIIII)Z"⟩
abbrev cX2_normOfRank : ByteArray := prog_1_method_29_code
def yX2_normOfRank : MethodName := ⟨RX2, "normOfRank", "(III)I"⟩
abbrev cX2_pairBands : ByteArray := prog_1_method_30_code
def yX2_pairBands : MethodName := ⟨RX2, "pairBands", "(II)I"⟩
abbrev cX2_tripleBands : ByteArray := prog_1_method_31_code
def yX2_tripleBands : MethodName := ⟨RX2, "tripleBands", "(III)I"⟩
abbrev cX2_allBands : ByteArray := prog_1_method_32_code
def yX2_allBands : MethodName := ⟨RX2, "allBands", "()I"⟩
abbrev cX2_worstPlates : ByteArray := prog_1_method_33_code
def yX2_worstPlates : MethodName := ⟨RX2, "worstPlates", "()I"⟩
abbrev cX2_worstPeriod : ByteArray := prog_1_method_34_code
def yX2_worstPeriod : MethodName := ⟨RX2, "worstPeriod", "()I"⟩
abbrev cX2_worstPair : ByteArray := prog_1_method_35_code
def yX2_worstPair : MethodName := ⟨RX2, "worstPair", "()I"⟩
abbrev cX2_worstPeriodOf : ByteArray := prog_1_method_36_code
def yX2_worstPeriodOf : MethodName := ⟨RX2, "worstPeriodOf", "(I)I"⟩
abbrev cX2_bandsOfGroups : ByteArray := prog_1_method_37_code
def yX2_bandsOfGroups : MethodName := ⟨RX2, "bandsOfGroups", "(LPlateBeats$State;I)I"⟩
abbrev cX2_bestScreen : ByteArray := prog_1_method_38_code
def yX2_bestScreen : MethodName := ⟨RX2, "bestScreen", "(III)I"⟩
abbrev cX2_bandsWithBest : ByteArray := prog_1_method_39_code
def yX2_bandsWithBest : MethodName := ⟨RX2, "bandsWithBest", "(III)I"⟩
abbrev cX2_isRange : ByteArray := prog_1_method_40_code
def yX2_isRange : MethodName := ⟨RX2, "isRange", "(II)Z"⟩
abbrev cX2_search : ByteArray := prog_1_method_41_code
def yX2_search : MethodName := ⟨RX2, "search", "(III)I"⟩
abbrev cX2_save : ByteArray := prog_1_method_42_code
def yX2_save : MethodName := ⟨RX2, "save", "(I)I"⟩
abbrev cX2_restore : ByteArray := prog_1_method_43_code
def yX2_restore : MethodName := ⟨RX2, "restore", "(I)I"⟩
abbrev cX2_historySize : ByteArray := prog_1_method_44_code
def yX2_historySize : MethodName := ⟨RX2, "historySize", "()I"⟩
abbrev cX2_undo : ByteArray := prog_1_method_45_code
def yX2_undo : MethodName := ⟨RX2, "undo", "()I"⟩
abbrev cX2_isSlot : ByteArray := prog_1_method_46_code
def yX2_isSlot : MethodName := ⟨RX2, "isSlot", "(I)Z"⟩
abbrev cX2_record : ByteArray := prog_1_method_47_code
def yX2_record : MethodName := ⟨RX2, "record", "()V"⟩
abbrev cX2_dropOldest : ByteArray := prog_1_method_48_code
def yX2_dropOldest : MethodName := ⟨RX2, "dropOldest", "()V"⟩
abbrev cX2_copy : ByteArray := prog_1_method_49_code
def yX2_copy : MethodName := ⟨RX2, "copy", "(LPlateBeats$State;LPlateBeats$State;)V"⟩
abbrev cX2_realPart : ByteArray := prog_1_method_50_code
def yX2_realPart : MethodName := ⟨RX2, "realPart", "(IIII)I"⟩
abbrev cX2_imaginaryPart : ByteArray := prog_1_method_51_code
def yX2_imaginaryPart : MethodName := ⟨RX2, "imaginaryPart", "(IIII)I"⟩
abbrev cX2_gcd : ByteArray := prog_1_method_52_code
def yX2_gcd : MethodName := ⟨RX2, "gcd", "(JJ)J"⟩
abbrev cX2_divided : ByteArray := prog_1_method_53_code
def yX2_divided : MethodName := ⟨RX2, "divided", "(JJ)J"⟩
abbrev cX2_root : ByteArray := prog_1_method_54_code
def yX2_root : MethodName := ⟨RX2, "root", "(J)I"⟩
def RX3 : String := "PlateBeatsModel"
def TX3 : u_T := fun k => match k with
  | 0 => ("PlateBeatsModel", "p", "[I", true)
  | 1 => ("PlateBeatsModel", "saved", "[I", true)
  | 2 => ("PlateBeatsModel", "slots", "[I", true)
  | 3 => ("PlateBeatsModel", "states", "I", false)
  | 4 => ("PlateBeatsModel", "all", "I", false)
  | 5 => ("PlateBeatsModel", "square", "[J", true)
  | 6 => ("PlateBeatsModel", "widest", "J", false)
  | 7 => ("PlateBeatsModel", "worstSet", "I", false)
  | 8 => ("PlateBeatsModel", "worst", "I", false)
  | _ => ("PlateBeatsModel", "fewest", "I", false)
def tyX3 : Nat → FieldType := fun k => match k with
  | 0 => .array .int
  | 1 => .array .int
  | 2 => .array .int
  | 3 => .int
  | 4 => .int
  | 5 => .array .long
  | 6 => .long
  | 7 => .int
  | 8 => .int
  | _ => .int
abbrev wsX30 : List Cond := u_ws RX3 TX3 10
theorem nmX3 : ∀ a, a < 10 → ∀ b, b < 10 → a ≠ b → (TX3 a).2.1 ≠ (TX3 b).2.1 := by decide +kernel
theorem tyX3_ok : ∀ k, k < 10 → parseFieldDescriptor (TX3 k).2.2.1 = some (tyX3 k) := by decide +kernel
abbrev cX3_init : ByteArray := prog_5_method_1_code
def yX3_init : MethodName := ⟨RX3, "<init>", "()V"⟩
abbrev cX3_in : ByteArray := prog_5_method_3_code
def yX3_in : MethodName := ⟨RX3, "in", "(III)Z"⟩
abbrev cX3_records : ByteArray := prog_5_method_4_code
def yX3_records : MethodName := ⟨RX3, "records", "()V"⟩
abbrev cX3_isPlate : ByteArray := prog_5_method_5_code
def yX3_isPlate : MethodName := ⟨RX3, "isPlate", "(I)Z"⟩
abbrev cX3_isPair : ByteArray := prog_5_method_6_code
def yX3_isPair : MethodName := ⟨RX3, "isPair", "(II)Z"⟩
abbrev cX3_isVector : ByteArray := prog_5_method_7_code
def yX3_isVector : MethodName := ⟨RX3, "isVector", "(II)Z"⟩
abbrev cX3_firstOf : ByteArray := prog_5_method_8_code
def yX3_firstOf : MethodName := ⟨RX3, "firstOf", "(I)I"⟩
abbrev cX3_secondOf : ByteArray := prog_5_method_9_code
def yX3_secondOf : MethodName := ⟨RX3, "secondOf", "(I)I"⟩
abbrev cX3_areaOf : ByteArray := prog_5_method_10_code
def yX3_areaOf : MethodName := ⟨RX3, "areaOf", "(I)I"⟩
abbrev cX3_common : ByteArray := prog_5_method_11_code
def yX3_common : MethodName := ⟨RX3, "common", "(JJ)J"⟩
abbrev cX3_addPlate : ByteArray := prog_5_method_12_code
def yX3_addPlate : MethodName := ⟨RX3, "addPlate", "(II)I"⟩
abbrev cX3_setScreen : ByteArray := prog_5_method_13_code
def yX3_setScreen : MethodName := ⟨RX3, "setScreen", "(III)I"⟩
abbrev cX3_removePlate : ByteArray := prog_5_method_14_code
def yX3_removePlate : MethodName := ⟨RX3, "removePlate", "(I)I"⟩
abbrev cX3_plateCount : ByteArray := prog_5_method_15_code
def yX3_plateCount : MethodName := ⟨RX3, "plateCount", "()I"⟩
abbrev cX3_cellP : ByteArray := prog_5_method_16_code
def yX3_cellP : MethodName := ⟨RX3, "cellP", "(I)I"⟩
abbrev cX3_cellQ : ByteArray := prog_5_method_17_code
def yX3_cellQ : MethodName := ⟨RX3, "cellQ", "(I)I"⟩
abbrev cX3_cellArea : ByteArray := prog_5_method_18_code
def yX3_cellArea : MethodName := ⟨RX3, "cellArea", "(I)I"⟩
abbrev cX3_tileOf : ByteArray := prog_5_method_19_code
def yX3_tileOf : MethodName := ⟨RX3, "tileOf", "(I)I"⟩
abbrev cX3_tile : ByteArray := prog_5_method_20_code
def yX3_tile : MethodName := ⟨RX3, "tile", "(I)I"⟩
abbrev cX3_commonTile : ByteArray := prog_5_method_21_code
def yX3_commonTile : MethodName := ⟨RX3, "commonTile", "()J"⟩
abbrev cX3_isAhead : ByteArray := prog_5_method_22_code
def yX3_isAhead : MethodName := ⟨RX3, "isAhead", "(II)Z"⟩
abbrev cX3_byAngle : ByteArray := prog_5_method_23_code
def yX3_byAngle : MethodName := ⟨RX3, "byAngle", "(I)I"⟩
abbrev cX3_setOrder : ByteArray := prog_5_method_24_code
def yX3_setOrder : MethodName := ⟨RX3, "setOrder", "(I)I"⟩
abbrev cX3_setLimits : ByteArray := prog_5_method_25_code
def yX3_setLimits : MethodName := ⟨RX3, "setLimits", "(II)I"⟩
abbrev cX3_longLimit : ByteArray := prog_5_method_26_code
def yX3_longLimit : MethodName := ⟨RX3, "longLimit", "()I"⟩
abbrev cX3_pairSquare : ByteArray := prog_5_method_27_code
def yX3_pairSquare : MethodName := ⟨RX3, "pairSquare", "(IIIIII)J"⟩
abbrev cX3_pairBase : ByteArray := prog_5_method_28_code
def yX3_pairBase : MethodName := ⟨RX3, "pairBase", "(II)J"⟩
abbrev cX3_part : ByteArray := prog_5_method_29_code
def yX3_part : MethodName := ⟨RX3, "part", "(IIZ)I"⟩
abbrev cX3_tripleSquare : ByteArray := prog_5_method_30_code
def yX3_tripleSquare : MethodName := ⟨RX3, "tripleSquare", "(IIII)J"⟩
abbrev cX3_tripleBase : ByteArray := prog_5_method_31_code
def yX3_tripleBase : MethodName := ⟨RX3, "tripleBase", "(III)J"⟩
abbrev cX3_kindOf : ByteArray := prog_5_method_32_code
def yX3_kindOf : MethodName := ⟨RX3, "kindOf", "(JJ)I"⟩
abbrev cX3_periodOf : ByteArray := prog_5_method_33_code
def yX3_periodOf : MethodName := ⟨RX3, "periodOf", "(JJ)I"⟩
abbrev cX3_isPart : ByteArray := prog_5_method_34_code
def yX3_isPart : MethodName := ⟨RX3, "isPart", "(II)Z"⟩
abbrev cX3_isCombination : ByteArray := prog_5_method_35_code
def yX3_isCombination : MethodName := ⟨RX3, "isCombination", "(IIIIII)Z"⟩
abbrev cX3_squareNumerator : ByteArray := prog_5_method_36_code
def yX3_squareNumerator : MethodName := ⟨RX3, "squareNumerator", "(IIIIII)J"⟩
abbrev cX3_squareDenominator : ByteArray := prog_5_method_37_code
def yX3_squareDenominator : MethodName := ⟨RX3, "squareDenominator", "(IIIIII)J"⟩
abbrev cX3_kind : ByteArray := prog_5_method_38_code
def yX3_kind : MethodName := ⟨RX3, "kind", "(IIIIII)I"⟩
abbrev cX3_laySquares : ByteArray := prog_5_method_39_code
def yX3_laySquares : MethodName := ⟨RX3, "laySquares", "(II)V"⟩
abbrev cX3_layWith : ByteArray := prog_5_method_40_code
def yX3_layWith : MethodName := ⟨RX3, "layWith", "(IIII)V"⟩
abbrev cX3_insert : ByteArray := prog_5_method_41_code
def yX3_insert : MethodName := ⟨RX3, "insert", "(J)V"⟩
abbrev cX3_placeOf : ByteArray := prog_5_method_42_code
def yX3_placeOf : MethodName := ⟨RX3, "placeOf", "(I)I"⟩
abbrev cX3_behind : ByteArray := prog_5_method_43_code
def yX3_behind : MethodName := ⟨RX3, "behind", "(I)I"⟩
abbrev cX3_beatCount : ByteArray := prog_5_method_44_code
def yX3_beatCount : MethodName := ⟨RX3, "beatCount", "(II)I"⟩
abbrev cX3_beat : ByteArray := prog_5_method_45_code
def yX3_beat : MethodName := ⟨RX3, "beat", "(IIII)J"⟩
abbrev cX3_beatNumerator : ByteArray := prog_5_method_46_code
def yX3_beatNumerator : MethodName := ⟨RX3, "beatNumerator", "(III)J"⟩
abbrev cX3_beatDenominator : ByteArray := prog_5_method_47_code
def yX3_beatDenominator : MethodName := ⟨RX3, "beatDenominator", "(III)J"⟩
abbrev cX3_beatFrequency : ByteArray := prog_5_method_48_code
def yX3_beatFrequency : MethodName := ⟨RX3, "beatFrequency", "(III)I"⟩
abbrev cX3_beatPeriod : ByteArray := prog_5_method_49_code
def yX3_beatPeriod : MethodName := ⟨RX3, "beatPeriod", "(III)I"⟩
abbrev cX3_ofKind : ByteArray := prog_5_method_50_code
def yX3_ofKind : MethodName := ⟨RX3, "ofKind", "(III)I"⟩
abbrev cX3_locked : ByteArray := prog_5_method_51_code
def yX3_locked : MethodName := ⟨RX3, "locked", "(II)I"⟩
abbrev cX3_bands : ByteArray := prog_5_method_52_code
def yX3_bands : MethodName := ⟨RX3, "bands", "(II)I"⟩
abbrev cX3_bandsOfThree : ByteArray := prog_5_method_53_code
def yX3_bandsOfThree : MethodName := ⟨RX3, "bandsOfThree", "(III)I"⟩
abbrev cX3_tripleBands : ByteArray := prog_5_method_54_code
def yX3_tripleBands : MethodName := ⟨RX3, "tripleBands", "(III)I"⟩
abbrev cX3_findAll : ByteArray := prog_5_method_55_code
def yX3_findAll : MethodName := ⟨RX3, "findAll", "()I"⟩
abbrev cX3_note : ByteArray := prog_5_method_56_code
def yX3_note : MethodName := ⟨RX3, "note", "(I)V"⟩
abbrev cX3_allBands : ByteArray := prog_5_method_57_code
def yX3_allBands : MethodName := ⟨RX3, "allBands", "()I"⟩
abbrev cX3_worstPlates : ByteArray := prog_5_method_58_code
def yX3_worstPlates : MethodName := ⟨RX3, "worstPlates", "()I"⟩
abbrev cX3_worstPeriod : ByteArray := prog_5_method_59_code
def yX3_worstPeriod : MethodName := ⟨RX3, "worstPeriod", "()I"⟩
abbrev cX3_worstPair : ByteArray := prog_5_method_60_code
def yX3_worstPair : MethodName := ⟨RX3, "worstPair", "()I"⟩
abbrev cX3_size : ByteArray := prog_5_method_61_code
def yX3_size : MethodName := ⟨RX3, "size", "(I)I"⟩
abbrev cX3_search : ByteArray := prog_5_method_62_code
def yX3_search : MethodName := ⟨RX3, "search", "(III)I"⟩
abbrev cX3_isRange : ByteArray := prog_5_method_63_code
def yX3_isRange : MethodName := ⟨RX3, "isRange", "(III)Z"⟩
abbrev cX3_bestScreen : ByteArray := prog_5_method_64_code
def yX3_bestScreen : MethodName := ⟨RX3, "bestScreen", "(III)I"⟩
abbrev cX3_bandsWithBest : ByteArray := prog_5_method_65_code
def yX3_bandsWithBest : MethodName := ⟨RX3, "bandsWithBest", "(III)I"⟩
abbrev cX3_save : ByteArray := prog_5_method_66_code
def yX3_save : MethodName := ⟨RX3, "save", "(I)I"⟩
abbrev cX3_restore : ByteArray := prog_5_method_67_code
def yX3_restore : MethodName := ⟨RX3, "restore", "(I)I"⟩
abbrev cX3_historySize : ByteArray := prog_5_method_68_code
def yX3_historySize : MethodName := ⟨RX3, "historySize", "()I"⟩
abbrev cX3_undo : ByteArray := prog_5_method_69_code
def yX3_undo : MethodName := ⟨RX3, "undo", "()I"⟩
def RJ9 : String := "java/lang/Math"
def TJ9 : u_T := fun k => match k with
  | _ => ("", "", "", false)
def tyJ9 : Nat → FieldType := fun k => match k with
  | _ => .int
abbrev wsJ90 : List Cond := u_ws RJ9 TJ9 0
theorem nmJ9 : ∀ a, a < 0 → ∀ b, b < 0 → a ≠ b → (TJ9 a).2.1 ≠ (TJ9 b).2.1 := by decide +kernel
theorem tyJ9_ok : ∀ k, k < 0 → parseFieldDescriptor (TJ9 k).2.2.1 = some (tyJ9 k) := by decide +kernel
abbrev cJ9_abs_0f7a4 : ByteArray := prog_6_method_59_code
def yJ9_abs_0f7a4 : MethodName := ⟨RJ9, "abs", "(I)I"⟩
def RL : String := "PlateBeatsLaw"
abbrev cL_law : ByteArray := code
def yL_law : MethodName := ⟨RL, "law", "([I)Z"⟩
def wsX0_init : List Cond := .code yX0_init cX0_init 1 none :: ([.methodLink RX0 3 objectInit, .instanceMethod objectInit, .code objectInit ⟨#[0xb1]⟩ 1 none, .arrayClass .int, .fieldLink RX0 9 "PlateBeats$Group" "norms" "[I", .fieldLink RX0 15 "PlateBeats$Group" "areas" "J", .fieldLink RX0 19 "PlateBeats$Group" "leastFine" "J", .fieldLink RX0 22 "PlateBeats$Group" "greatestLong" "J"] ++ wsX00)
def wsX1_has : List Cond := .code yX1_has cX1_has 2 (some .boolean) :: ([.fieldLink RX1 18 "PlateBeats$State" "count" "I"] ++ wsX10)
def wsX1_areaOf : List Cond := .code yX1_areaOf cX1_areaOf 2 (some .int) :: ([.fieldLink RX1 9 "PlateBeats$State" "p" "[I", .fieldLink RX1 15 "PlateBeats$State" "q" "[I", .methodLink RX1 31 yX1_has, .instanceMethod yX1_has, .selects RX1 yX1_has yX1_has, .initialized RX1, .code yX1_has cX1_has 2 (some .boolean), .fieldLink RX1 18 "PlateBeats$State" "count" "I"] ++ wsX10)
def wsX2_divided : List Cond := .code yX2_divided cX2_divided 4 (some .long) :: ([])
def wsX0_start : List Cond := .code yX0_start cX0_start 8 none :: ([.fieldLink RX0 35 "PlateBeats$Group" "size" "I", .fieldLink RX0 15 "PlateBeats$Group" "areas" "J", .fieldLink RX0 19 "PlateBeats$Group" "leastFine" "J", .fieldLink RX0 22 "PlateBeats$Group" "greatestLong" "J", .static yX2_divided, .initialized RX2, .code yX2_divided cX2_divided 4 (some .long)] ++ wsX00 ++ wsX10)
def wsX0_startPair : List Cond := .code yX0_startPair cX0_startPair 4 none :: ([.instanceMethod yX1_areaOf, .initialized RX1, .selects RX1 yX1_areaOf yX1_areaOf, .code yX1_areaOf cX1_areaOf 2 (some .int), .fieldLink RX1 9 "PlateBeats$State" "p" "[I", .fieldLink RX1 15 "PlateBeats$State" "q" "[I", .methodLink RX1 31 yX1_has, .instanceMethod yX1_has, .selects RX1 yX1_has yX1_has, .code yX1_has cX1_has 2 (some .boolean), .fieldLink RX1 18 "PlateBeats$State" "count" "I", .methodLink RX0 31 yX0_start, .instanceMethod yX0_start, .selects RX0 yX0_start yX0_start, .initialized RX0, .code yX0_start cX0_start 8 none, .fieldLink RX0 35 "PlateBeats$Group" "size" "I", .fieldLink RX0 15 "PlateBeats$Group" "areas" "J", .fieldLink RX0 19 "PlateBeats$Group" "leastFine" "J", .fieldLink RX0 22 "PlateBeats$Group" "greatestLong" "J", .static yX2_divided, .initialized RX2, .code yX2_divided cX2_divided 4 (some .long)] ++ wsX10 ++ wsX00)
def wsX0_add : List Cond := .code yX0_add cX0_add 2 none :: ([.fieldLink RX0 35 "PlateBeats$Group" "size" "I", .fieldLink RX0 9 "PlateBeats$Group" "norms" "[I"] ++ wsX00)
def wsX1_pOf : List Cond := .code yX1_pOf cX1_pOf 2 (some .int) :: ([.fieldLink RX1 9 "PlateBeats$State" "p" "[I", .methodLink RX1 31 yX1_has, .instanceMethod yX1_has, .selects RX1 yX1_has yX1_has, .initialized RX1, .code yX1_has cX1_has 2 (some .boolean), .fieldLink RX1 18 "PlateBeats$State" "count" "I"] ++ wsX10)
def wsX1_qOf : List Cond := .code yX1_qOf cX1_qOf 2 (some .int) :: ([.fieldLink RX1 15 "PlateBeats$State" "q" "[I", .methodLink RX1 31 yX1_has, .instanceMethod yX1_has, .selects RX1 yX1_has yX1_has, .initialized RX1, .code yX1_has cX1_has 2 (some .boolean), .fieldLink RX1 18 "PlateBeats$State" "count" "I"] ++ wsX10)
def wsX2_realPart : List Cond := .code yX2_realPart cX2_realPart 4 (some .int) :: ([])
def wsX2_imaginaryPart : List Cond := .code yX2_imaginaryPart cX2_imaginaryPart 4 (some .int) :: ([])
def wsX0_addAllFor_r1 : List Cond := [Cond.instanceMethod yX1_pOf, Cond.initialized RX1, Cond.selects RX1 yX1_pOf yX1_pOf, Cond.code yX1_pOf cX1_pOf 2 (some .int), Cond.fieldLink RX1 9 "PlateBeats$State" "p" "[I", Cond.methodLink RX1 31 yX1_has, Cond.instanceMethod yX1_has, Cond.selects RX1 yX1_has yX1_has, Cond.code yX1_has cX1_has 2 (some .boolean), Cond.fieldLink RX1 18 "PlateBeats$State" "count" "I", Cond.instanceMethod yX1_qOf, Cond.selects RX1 yX1_qOf yX1_qOf, Cond.code yX1_qOf cX1_qOf 2 (some .int), Cond.fieldLink RX1 15 "PlateBeats$State" "q" "[I", Cond.static yX2_realPart, Cond.initialized RX2, Cond.code yX2_realPart cX2_realPart 4 (some .int), Cond.static yX2_imaginaryPart, Cond.code yX2_imaginaryPart cX2_imaginaryPart 4 (some .int), Cond.methodLink RX0 73 yX0_add, Cond.instanceMethod yX0_add, Cond.selects RX0 yX0_add yX0_add, Cond.initialized RX0, Cond.code yX0_add cX0_add 2 none]
def wsX0_addAllFor_r2 : List Cond := [Cond.fieldLink RX0 35 "PlateBeats$Group" "size" "I", Cond.fieldLink RX0 9 "PlateBeats$Group" "norms" "[I"]
def wsX0_addAllFor : List Cond := .code yX0_addAllFor cX0_addAllFor 14 none :: ((wsX0_addAllFor_r1 ++ wsX0_addAllFor_r2) ++ wsX10 ++ wsX00)
def wsX0_fillPair_r1 : List Cond := [Cond.methodLink RX0 49 yX0_startPair, Cond.instanceMethod yX0_startPair, Cond.selects RX0 yX0_startPair yX0_startPair, Cond.initialized RX0, Cond.code yX0_startPair cX0_startPair 4 none, Cond.instanceMethod yX1_areaOf, Cond.initialized RX1, Cond.selects RX1 yX1_areaOf yX1_areaOf, Cond.code yX1_areaOf cX1_areaOf 2 (some .int), Cond.fieldLink RX1 9 "PlateBeats$State" "p" "[I", Cond.fieldLink RX1 15 "PlateBeats$State" "q" "[I", Cond.methodLink RX1 31 yX1_has, Cond.instanceMethod yX1_has, Cond.selects RX1 yX1_has yX1_has, Cond.code yX1_has cX1_has 2 (some .boolean), Cond.fieldLink RX1 18 "PlateBeats$State" "count" "I", Cond.methodLink RX0 31 yX0_start, Cond.instanceMethod yX0_start, Cond.selects RX0 yX0_start yX0_start, Cond.code yX0_start cX0_start 8 none, Cond.fieldLink RX0 35 "PlateBeats$Group" "size" "I", Cond.fieldLink RX0 15 "PlateBeats$Group" "areas" "J", Cond.fieldLink RX0 19 "PlateBeats$Group" "leastFine" "J", Cond.fieldLink RX0 22 "PlateBeats$Group" "greatestLong" "J"]
def wsX0_fillPair_r2 : List Cond := [Cond.static yX2_divided, Cond.initialized RX2, Cond.code yX2_divided cX2_divided 4 (some .long), Cond.methodLink RX0 56 yX0_addAllFor, Cond.instanceMethod yX0_addAllFor, Cond.selects RX0 yX0_addAllFor yX0_addAllFor, Cond.code yX0_addAllFor cX0_addAllFor 14 none, Cond.instanceMethod yX1_pOf, Cond.selects RX1 yX1_pOf yX1_pOf, Cond.code yX1_pOf cX1_pOf 2 (some .int), Cond.instanceMethod yX1_qOf, Cond.selects RX1 yX1_qOf yX1_qOf, Cond.code yX1_qOf cX1_qOf 2 (some .int), Cond.static yX2_realPart, Cond.code yX2_realPart cX2_realPart 4 (some .int), Cond.static yX2_imaginaryPart, Cond.code yX2_imaginaryPart cX2_imaginaryPart 4 (some .int), Cond.methodLink RX0 73 yX0_add, Cond.instanceMethod yX0_add, Cond.selects RX0 yX0_add yX0_add, Cond.code yX0_add cX0_add 2 none, Cond.fieldLink RX0 9 "PlateBeats$Group" "norms" "[I"]
def wsX0_fillPair : List Cond := .code yX0_fillPair cX0_fillPair 6 none :: ((wsX0_fillPair_r1 ++ wsX0_fillPair_r2) ++ wsX10 ++ wsX00)
def wsX0_productReal : List Cond := .code yX0_productReal cX0_productReal 3 (some .int) :: ([.instanceMethod yX1_pOf, .initialized RX1, .selects RX1 yX1_pOf yX1_pOf, .code yX1_pOf cX1_pOf 2 (some .int), .fieldLink RX1 9 "PlateBeats$State" "p" "[I", .methodLink RX1 31 yX1_has, .instanceMethod yX1_has, .selects RX1 yX1_has yX1_has, .code yX1_has cX1_has 2 (some .boolean), .fieldLink RX1 18 "PlateBeats$State" "count" "I", .instanceMethod yX1_qOf, .selects RX1 yX1_qOf yX1_qOf, .code yX1_qOf cX1_qOf 2 (some .int), .fieldLink RX1 15 "PlateBeats$State" "q" "[I"] ++ wsX10)
def wsX0_productImaginary : List Cond := .code yX0_productImaginary cX0_productImaginary 3 (some .int) :: ([.instanceMethod yX1_pOf, .initialized RX1, .selects RX1 yX1_pOf yX1_pOf, .code yX1_pOf cX1_pOf 2 (some .int), .fieldLink RX1 9 "PlateBeats$State" "p" "[I", .methodLink RX1 31 yX1_has, .instanceMethod yX1_has, .selects RX1 yX1_has yX1_has, .code yX1_has cX1_has 2 (some .boolean), .fieldLink RX1 18 "PlateBeats$State" "count" "I", .instanceMethod yX1_qOf, .selects RX1 yX1_qOf yX1_qOf, .code yX1_qOf cX1_qOf 2 (some .int), .fieldLink RX1 15 "PlateBeats$State" "q" "[I"] ++ wsX10)
def wsX0_fillTriple_r1 : List Cond := [Cond.instanceMethod yX1_areaOf, Cond.initialized RX1, Cond.selects RX1 yX1_areaOf yX1_areaOf, Cond.code yX1_areaOf cX1_areaOf 2 (some .int), Cond.fieldLink RX1 9 "PlateBeats$State" "p" "[I", Cond.fieldLink RX1 15 "PlateBeats$State" "q" "[I", Cond.methodLink RX1 31 yX1_has, Cond.instanceMethod yX1_has, Cond.selects RX1 yX1_has yX1_has, Cond.code yX1_has cX1_has 2 (some .boolean), Cond.fieldLink RX1 18 "PlateBeats$State" "count" "I", Cond.methodLink RX0 31 yX0_start, Cond.instanceMethod yX0_start, Cond.selects RX0 yX0_start yX0_start, Cond.initialized RX0, Cond.code yX0_start cX0_start 8 none, Cond.fieldLink RX0 35 "PlateBeats$Group" "size" "I", Cond.fieldLink RX0 15 "PlateBeats$Group" "areas" "J", Cond.fieldLink RX0 19 "PlateBeats$Group" "leastFine" "J", Cond.fieldLink RX0 22 "PlateBeats$Group" "greatestLong" "J", Cond.static yX2_divided, Cond.initialized RX2, Cond.code yX2_divided cX2_divided 4 (some .long), Cond.methodLink RX0 77 yX0_productReal]
def wsX0_fillTriple_r2 : List Cond := [Cond.static yX0_productReal, Cond.code yX0_productReal cX0_productReal 3 (some .int), Cond.instanceMethod yX1_pOf, Cond.selects RX1 yX1_pOf yX1_pOf, Cond.code yX1_pOf cX1_pOf 2 (some .int), Cond.instanceMethod yX1_qOf, Cond.selects RX1 yX1_qOf yX1_qOf, Cond.code yX1_qOf cX1_qOf 2 (some .int), Cond.methodLink RX0 81 yX0_productImaginary, Cond.static yX0_productImaginary, Cond.code yX0_productImaginary cX0_productImaginary 3 (some .int), Cond.methodLink RX0 73 yX0_add, Cond.instanceMethod yX0_add, Cond.selects RX0 yX0_add yX0_add, Cond.code yX0_add cX0_add 2 none, Cond.fieldLink RX0 9 "PlateBeats$Group" "norms" "[I"]
def wsX0_fillTriple : List Cond := .code yX0_fillTriple cX0_fillTriple 16 none :: ((wsX0_fillTriple_r1 ++ wsX0_fillTriple_r2) ++ wsX10 ++ wsX00)
def wsX0_firstPlate : List Cond := .code yX0_firstPlate cX0_firstPlate 3 (some .int) :: ([])
def wsX0_fillPlates_r1 : List Cond := [Cond.methodLink RX0 84 yX0_firstPlate, Cond.static yX0_firstPlate, Cond.initialized RX0, Cond.code yX0_firstPlate cX0_firstPlate 3 (some .int), Cond.methodLink RX0 88 yX0_fillTriple, Cond.instanceMethod yX0_fillTriple, Cond.selects RX0 yX0_fillTriple yX0_fillTriple, Cond.code yX0_fillTriple cX0_fillTriple 16 none, Cond.instanceMethod yX1_areaOf, Cond.initialized RX1, Cond.selects RX1 yX1_areaOf yX1_areaOf, Cond.code yX1_areaOf cX1_areaOf 2 (some .int), Cond.fieldLink RX1 9 "PlateBeats$State" "p" "[I", Cond.fieldLink RX1 15 "PlateBeats$State" "q" "[I", Cond.methodLink RX1 31 yX1_has, Cond.instanceMethod yX1_has, Cond.selects RX1 yX1_has yX1_has, Cond.code yX1_has cX1_has 2 (some .boolean), Cond.fieldLink RX1 18 "PlateBeats$State" "count" "I", Cond.methodLink RX0 31 yX0_start, Cond.instanceMethod yX0_start, Cond.selects RX0 yX0_start yX0_start, Cond.code yX0_start cX0_start 8 none, Cond.fieldLink RX0 35 "PlateBeats$Group" "size" "I"]
def wsX0_fillPlates_r2 : List Cond := [Cond.fieldLink RX0 15 "PlateBeats$Group" "areas" "J", Cond.fieldLink RX0 19 "PlateBeats$Group" "leastFine" "J", Cond.fieldLink RX0 22 "PlateBeats$Group" "greatestLong" "J", Cond.static yX2_divided, Cond.initialized RX2, Cond.code yX2_divided cX2_divided 4 (some .long), Cond.methodLink RX0 77 yX0_productReal, Cond.static yX0_productReal, Cond.code yX0_productReal cX0_productReal 3 (some .int), Cond.instanceMethod yX1_pOf, Cond.selects RX1 yX1_pOf yX1_pOf, Cond.code yX1_pOf cX1_pOf 2 (some .int), Cond.instanceMethod yX1_qOf, Cond.selects RX1 yX1_qOf yX1_qOf, Cond.code yX1_qOf cX1_qOf 2 (some .int), Cond.methodLink RX0 81 yX0_productImaginary, Cond.static yX0_productImaginary, Cond.code yX0_productImaginary cX0_productImaginary 3 (some .int), Cond.methodLink RX0 73 yX0_add, Cond.instanceMethod yX0_add, Cond.selects RX0 yX0_add yX0_add, Cond.code yX0_add cX0_add 2 none, Cond.fieldLink RX0 9 "PlateBeats$Group" "norms" "[I", Cond.methodLink RX0 92 yX0_fillPair]
def wsX0_fillPlates_r3 : List Cond := [Cond.instanceMethod yX0_fillPair, Cond.selects RX0 yX0_fillPair yX0_fillPair, Cond.code yX0_fillPair cX0_fillPair 6 none, Cond.methodLink RX0 49 yX0_startPair, Cond.instanceMethod yX0_startPair, Cond.selects RX0 yX0_startPair yX0_startPair, Cond.code yX0_startPair cX0_startPair 4 none, Cond.methodLink RX0 56 yX0_addAllFor, Cond.instanceMethod yX0_addAllFor, Cond.selects RX0 yX0_addAllFor yX0_addAllFor, Cond.code yX0_addAllFor cX0_addAllFor 14 none, Cond.static yX2_realPart, Cond.code yX2_realPart cX2_realPart 4 (some .int), Cond.static yX2_imaginaryPart, Cond.code yX2_imaginaryPart cX2_imaginaryPart 4 (some .int)]
def wsX0_fillPlates : List Cond := .code yX0_fillPlates cX0_fillPlates 6 none :: ((wsX0_fillPlates_r1 ++ (wsX0_fillPlates_r2 ++ wsX0_fillPlates_r3)) ++ wsX10 ++ wsX00)
def wsX0_kindOf : List Cond := .code yX0_kindOf cX0_kindOf 2 (some .int) :: ([.fieldLink RX0 19 "PlateBeats$Group" "leastFine" "J", .fieldLink RX0 22 "PlateBeats$Group" "greatestLong" "J"] ++ wsX00)
def wsX0_bandCount : List Cond := .code yX0_bandCount cX0_bandCount 3 (some .int) :: ([.fieldLink RX0 35 "PlateBeats$Group" "size" "I", .fieldLink RX0 9 "PlateBeats$Group" "norms" "[I", .methodLink RX0 95 yX0_kindOf, .instanceMethod yX0_kindOf, .selects RX0 yX0_kindOf yX0_kindOf, .initialized RX0, .code yX0_kindOf cX0_kindOf 2 (some .int), .fieldLink RX0 19 "PlateBeats$Group" "leastFine" "J", .fieldLink RX0 22 "PlateBeats$Group" "greatestLong" "J"] ++ wsX00)
def wsX2_root : List Cond := .code yX2_root cX2_root 6 (some .int) :: ([])
def wsX0_period : List Cond := .code yX0_period cX0_period 2 (some .int) :: ([.fieldLink RX0 15 "PlateBeats$Group" "areas" "J", .static yX2_divided, .initialized RX2, .code yX2_divided cX2_divided 4 (some .long), .static yX2_root, .code yX2_root cX2_root 6 (some .int)] ++ wsX00)
def wsX0_worstPeriodFound : List Cond := .code yX0_worstPeriodFound cX0_worstPeriodFound 3 (some .int) :: ([.fieldLink RX0 35 "PlateBeats$Group" "size" "I", .fieldLink RX0 9 "PlateBeats$Group" "norms" "[I", .methodLink RX0 95 yX0_kindOf, .instanceMethod yX0_kindOf, .selects RX0 yX0_kindOf yX0_kindOf, .initialized RX0, .code yX0_kindOf cX0_kindOf 2 (some .int), .fieldLink RX0 19 "PlateBeats$Group" "leastFine" "J", .fieldLink RX0 22 "PlateBeats$Group" "greatestLong" "J", .methodLink RX0 98 yX0_period, .instanceMethod yX0_period, .selects RX0 yX0_period yX0_period, .code yX0_period cX0_period 2 (some .int), .fieldLink RX0 15 "PlateBeats$Group" "areas" "J", .static yX2_divided, .initialized RX2, .code yX2_divided cX2_divided 4 (some .long), .static yX2_root, .code yX2_root cX2_root 6 (some .int)] ++ wsX00)
def wsX0_combinationsWith : List Cond := .code yX0_combinationsWith cX0_combinationsWith 4 (some .int) :: ([.fieldLink RX0 35 "PlateBeats$Group" "size" "I", .fieldLink RX0 9 "PlateBeats$Group" "norms" "[I"] ++ wsX00)
def wsX0_sort : List Cond := .code yX0_sort cX0_sort 4 none :: ([.fieldLink RX0 35 "PlateBeats$Group" "size" "I", .fieldLink RX0 9 "PlateBeats$Group" "norms" "[I"] ++ wsX00)
def wsX0_differentNorms : List Cond := .code yX0_differentNorms cX0_differentNorms 3 (some .int) :: ([.fieldLink RX0 35 "PlateBeats$Group" "size" "I", .fieldLink RX0 9 "PlateBeats$Group" "norms" "[I"] ++ wsX00)
def wsX0_normAt : List Cond := .code yX0_normAt cX0_normAt 4 (some .int) :: ([.fieldLink RX0 35 "PlateBeats$Group" "size" "I", .fieldLink RX0 9 "PlateBeats$Group" "norms" "[I"] ++ wsX00)
def wsX2_gcd : List Cond := .code yX2_gcd cX2_gcd 11 (some .long) :: ([])
def wsX0_numerator : List Cond := .code yX0_numerator cX0_numerator 2 (some .long) :: ([.fieldLink RX0 15 "PlateBeats$Group" "areas" "J", .static yX2_gcd, .initialized RX2, .code yX2_gcd cX2_gcd 11 (some .long), .static yX2_divided, .code yX2_divided cX2_divided 4 (some .long)] ++ wsX00)
def wsX0_denominator : List Cond := .code yX0_denominator cX0_denominator 2 (some .long) :: ([.fieldLink RX0 15 "PlateBeats$Group" "areas" "J", .static yX2_gcd, .initialized RX2, .code yX2_gcd cX2_gcd 11 (some .long), .static yX2_divided, .code yX2_divided cX2_divided 4 (some .long)] ++ wsX00)
def wsX1_init : List Cond := .code yX1_init cX1_init 1 none :: ([.methodLink RX1 3 objectInit, .instanceMethod objectInit, .code objectInit ⟨#[0xb1]⟩ 1 none, .arrayClass .int, .fieldLink RX1 9 "PlateBeats$State" "p" "[I", .fieldLink RX1 15 "PlateBeats$State" "q" "[I", .fieldLink RX1 18 "PlateBeats$State" "count" "I", .fieldLink RX1 22 "PlateBeats$State" "order" "I", .fieldLink RX1 25 "PlateBeats$State" "fineLimit" "I", .fieldLink RX1 28 "PlateBeats$State" "longLimit" "I"] ++ wsX10)
def wsX1_hasPair : List Cond := .code yX1_hasPair cX1_hasPair 3 (some .boolean) :: ([.methodLink RX1 31 yX1_has, .instanceMethod yX1_has, .selects RX1 yX1_has yX1_has, .initialized RX1, .code yX1_has cX1_has 2 (some .boolean), .fieldLink RX1 18 "PlateBeats$State" "count" "I"] ++ wsX10)
def wsX1_hasAll : List Cond := .code yX1_hasAll cX1_hasAll 2 (some .boolean) :: ([.fieldLink RX1 18 "PlateBeats$State" "count" "I"] ++ wsX10)
def wsX1_isFactorPair : List Cond := .code yX1_isFactorPair cX1_isFactorPair 3 (some .boolean) :: ([.fieldLink RX1 22 "PlateBeats$State" "order" "I"] ++ wsX10)
def wsX1_put : List Cond := .code yX1_put cX1_put 4 none :: ([.fieldLink RX1 9 "PlateBeats$State" "p" "[I", .fieldLink RX1 15 "PlateBeats$State" "q" "[I", .methodLink RX1 31 yX1_has, .instanceMethod yX1_has, .selects RX1 yX1_has yX1_has, .initialized RX1, .code yX1_has cX1_has 2 (some .boolean), .fieldLink RX1 18 "PlateBeats$State" "count" "I"] ++ wsX10)
def wsX1_append : List Cond := .code yX1_append cX1_append 3 none :: ([.fieldLink RX1 18 "PlateBeats$State" "count" "I", .methodLink RX1 35 yX1_put, .instanceMethod yX1_put, .selects RX1 yX1_put yX1_put, .initialized RX1, .code yX1_put cX1_put 4 none, .fieldLink RX1 9 "PlateBeats$State" "p" "[I", .fieldLink RX1 15 "PlateBeats$State" "q" "[I", .methodLink RX1 31 yX1_has, .instanceMethod yX1_has, .selects RX1 yX1_has yX1_has, .code yX1_has cX1_has 2 (some .boolean)] ++ wsX10)
def wsX1_drop : List Cond := .code yX1_drop cX1_drop 3 none :: ([.fieldLink RX1 18 "PlateBeats$State" "count" "I", .methodLink RX1 31 yX1_has, .instanceMethod yX1_has, .selects RX1 yX1_has yX1_has, .initialized RX1, .code yX1_has cX1_has 2 (some .boolean), .methodLink RX1 39 yX1_pOf, .instanceMethod yX1_pOf, .selects RX1 yX1_pOf yX1_pOf, .code yX1_pOf cX1_pOf 2 (some .int), .fieldLink RX1 9 "PlateBeats$State" "p" "[I", .methodLink RX1 43 yX1_qOf, .instanceMethod yX1_qOf, .selects RX1 yX1_qOf yX1_qOf, .code yX1_qOf cX1_qOf 2 (some .int), .fieldLink RX1 15 "PlateBeats$State" "q" "[I", .methodLink RX1 35 yX1_put, .instanceMethod yX1_put, .selects RX1 yX1_put yX1_put, .code yX1_put cX1_put 4 none] ++ wsX10)
def wsX1_pairNorm : List Cond := .code yX1_pairNorm cX1_pairNorm 9 (some .int) :: ([.methodLink RX1 39 yX1_pOf, .instanceMethod yX1_pOf, .selects RX1 yX1_pOf yX1_pOf, .initialized RX1, .code yX1_pOf cX1_pOf 2 (some .int), .fieldLink RX1 9 "PlateBeats$State" "p" "[I", .methodLink RX1 31 yX1_has, .instanceMethod yX1_has, .selects RX1 yX1_has yX1_has, .code yX1_has cX1_has 2 (some .boolean), .fieldLink RX1 18 "PlateBeats$State" "count" "I", .methodLink RX1 43 yX1_qOf, .instanceMethod yX1_qOf, .selects RX1 yX1_qOf yX1_qOf, .code yX1_qOf cX1_qOf 2 (some .int), .fieldLink RX1 15 "PlateBeats$State" "q" "[I", .static yX2_realPart, .initialized RX2, .code yX2_realPart cX2_realPart 4 (some .int), .static yX2_imaginaryPart, .code yX2_imaginaryPart cX2_imaginaryPart 4 (some .int)] ++ wsX10)
def wsX2_init_r1 : List Cond := [Cond.methodLink RX2 1 objectInit, Cond.instanceMethod objectInit, Cond.code objectInit ⟨#[0xb1]⟩ 1 none, Cond.classLink RX2 7 RX1, Cond.instantiable RX1 6, Cond.initialized RX1, Cond.fieldLink RX2 10 "PlateBeats" "present" "LPlateBeats$State;", Cond.fieldLink RX2 16 "PlateBeats" "trial" "LPlateBeats$State;", Cond.fieldLink RX2 19 "PlateBeats" "history" "[LPlateBeats$State;", Cond.fieldLink RX2 23 "PlateBeats" "slots" "[LPlateBeats$State;", Cond.arrayClass .boolean, Cond.fieldLink RX2 26 "PlateBeats" "slotFilled" "[Z", Cond.classLink RX2 30 RX0, Cond.instantiable RX0 5, Cond.initialized RX0, Cond.fieldLink RX2 33 "PlateBeats" "group" "LPlateBeats$Group;", Cond.instanceMethod yX1_init, Cond.code yX1_init cX1_init 1 none, Cond.methodLink RX1 3 objectInit, Cond.arrayClass .int, Cond.fieldLink RX1 9 "PlateBeats$State" "p" "[I", Cond.fieldLink RX1 15 "PlateBeats$State" "q" "[I", Cond.fieldLink RX1 18 "PlateBeats$State" "count" "I", Cond.fieldLink RX1 22 "PlateBeats$State" "order" "I"]
def wsX2_init_r2 : List Cond := [Cond.fieldLink RX1 25 "PlateBeats$State" "fineLimit" "I", Cond.fieldLink RX1 28 "PlateBeats$State" "longLimit" "I", Cond.instanceMethod yX0_init, Cond.code yX0_init cX0_init 1 none, Cond.methodLink RX0 3 objectInit, Cond.fieldLink RX0 9 "PlateBeats$Group" "norms" "[I", Cond.fieldLink RX0 15 "PlateBeats$Group" "areas" "J", Cond.fieldLink RX0 19 "PlateBeats$Group" "leastFine" "J", Cond.fieldLink RX0 22 "PlateBeats$Group" "greatestLong" "J"]
def wsX2_init : List Cond := .code yX2_init cX2_init 2 none :: ((wsX2_init_r1 ++ wsX2_init_r2) ++ wsX10 ++ wsX20 ++ wsX00)
def wsX2_isScreen : List Cond := .code yX2_isScreen cX2_isScreen 2 (some .boolean) :: ([])
def wsX2_dropOldest : List Cond := .code yX2_dropOldest cX2_dropOldest 3 none :: ([.fieldLink RX2 19 "PlateBeats" "history" "[LPlateBeats$State;", .fieldLink RX2 202 "PlateBeats" "historyCount" "I"] ++ wsX20)
def wsX2_copy : List Cond := .code yX2_copy cX2_copy 3 none :: ([] ++ wsX10)
def wsX2_record : List Cond := .code yX2_record cX2_record 1 none :: ([.fieldLink RX2 202 "PlateBeats" "historyCount" "I", .fieldLink RX2 10 "PlateBeats" "present" "LPlateBeats$State;", .fieldLink RX2 19 "PlateBeats" "history" "[LPlateBeats$State;", .methodLink RX2 205 yX2_dropOldest, .instanceMethod yX2_dropOldest, .selects RX2 yX2_dropOldest yX2_dropOldest, .initialized RX2, .code yX2_dropOldest cX2_dropOldest 3 none, .methodLink RX2 190 yX2_copy, .static yX2_copy, .code yX2_copy cX2_copy 3 none] ++ wsX20 ++ wsX10)
def wsX2_addPlate_r1 : List Cond := [Cond.fieldLink RX2 10 "PlateBeats" "present" "LPlateBeats$State;", Cond.methodLink RX2 37 yX2_isScreen, Cond.static yX2_isScreen, Cond.initialized RX2, Cond.code yX2_isScreen cX2_isScreen 2 (some .boolean), Cond.methodLink RX2 45 yX2_record, Cond.instanceMethod yX2_record, Cond.selects RX2 yX2_record yX2_record, Cond.code yX2_record cX2_record 1 none, Cond.fieldLink RX2 202 "PlateBeats" "historyCount" "I", Cond.fieldLink RX2 19 "PlateBeats" "history" "[LPlateBeats$State;", Cond.methodLink RX2 205 yX2_dropOldest, Cond.instanceMethod yX2_dropOldest, Cond.selects RX2 yX2_dropOldest yX2_dropOldest, Cond.code yX2_dropOldest cX2_dropOldest 3 none, Cond.methodLink RX2 190 yX2_copy, Cond.static yX2_copy, Cond.code yX2_copy cX2_copy 3 none, Cond.instanceMethod yX1_append, Cond.initialized RX1, Cond.selects RX1 yX1_append yX1_append, Cond.code yX1_append cX1_append 3 none, Cond.fieldLink RX1 18 "PlateBeats$State" "count" "I", Cond.methodLink RX1 35 yX1_put]
def wsX2_addPlate_r2 : List Cond := [Cond.instanceMethod yX1_put, Cond.selects RX1 yX1_put yX1_put, Cond.code yX1_put cX1_put 4 none, Cond.fieldLink RX1 9 "PlateBeats$State" "p" "[I", Cond.fieldLink RX1 15 "PlateBeats$State" "q" "[I", Cond.methodLink RX1 31 yX1_has, Cond.instanceMethod yX1_has, Cond.selects RX1 yX1_has yX1_has, Cond.code yX1_has cX1_has 2 (some .boolean)]
def wsX2_addPlate : List Cond := .code yX2_addPlate cX2_addPlate 3 (some .int) :: ((wsX2_addPlate_r1 ++ wsX2_addPlate_r2) ++ wsX20 ++ wsX10)
def wsX2_setScreen_r1 : List Cond := [Cond.fieldLink RX2 10 "PlateBeats" "present" "LPlateBeats$State;", Cond.instanceMethod yX1_has, Cond.initialized RX1, Cond.selects RX1 yX1_has yX1_has, Cond.code yX1_has cX1_has 2 (some .boolean), Cond.fieldLink RX1 18 "PlateBeats$State" "count" "I", Cond.methodLink RX2 37 yX2_isScreen, Cond.static yX2_isScreen, Cond.initialized RX2, Cond.code yX2_isScreen cX2_isScreen 2 (some .boolean), Cond.methodLink RX2 45 yX2_record, Cond.instanceMethod yX2_record, Cond.selects RX2 yX2_record yX2_record, Cond.code yX2_record cX2_record 1 none, Cond.fieldLink RX2 202 "PlateBeats" "historyCount" "I", Cond.fieldLink RX2 19 "PlateBeats" "history" "[LPlateBeats$State;", Cond.methodLink RX2 205 yX2_dropOldest, Cond.instanceMethod yX2_dropOldest, Cond.selects RX2 yX2_dropOldest yX2_dropOldest, Cond.code yX2_dropOldest cX2_dropOldest 3 none, Cond.methodLink RX2 190 yX2_copy, Cond.static yX2_copy, Cond.code yX2_copy cX2_copy 3 none, Cond.instanceMethod yX1_areaOf]
def wsX2_setScreen_r2 : List Cond := [Cond.selects RX1 yX1_areaOf yX1_areaOf, Cond.code yX1_areaOf cX1_areaOf 2 (some .int), Cond.fieldLink RX1 9 "PlateBeats$State" "p" "[I", Cond.fieldLink RX1 15 "PlateBeats$State" "q" "[I", Cond.methodLink RX1 31 yX1_has, Cond.instanceMethod yX1_put, Cond.selects RX1 yX1_put yX1_put, Cond.code yX1_put cX1_put 4 none]
def wsX2_setScreen : List Cond := .code yX2_setScreen cX2_setScreen 5 (some .int) :: ((wsX2_setScreen_r1 ++ wsX2_setScreen_r2) ++ wsX20 ++ wsX10)
def wsX2_removePlate_r1 : List Cond := [Cond.fieldLink RX2 10 "PlateBeats" "present" "LPlateBeats$State;", Cond.instanceMethod yX1_has, Cond.initialized RX1, Cond.selects RX1 yX1_has yX1_has, Cond.code yX1_has cX1_has 2 (some .boolean), Cond.fieldLink RX1 18 "PlateBeats$State" "count" "I", Cond.methodLink RX2 45 yX2_record, Cond.instanceMethod yX2_record, Cond.selects RX2 yX2_record yX2_record, Cond.initialized RX2, Cond.code yX2_record cX2_record 1 none, Cond.fieldLink RX2 202 "PlateBeats" "historyCount" "I", Cond.fieldLink RX2 19 "PlateBeats" "history" "[LPlateBeats$State;", Cond.methodLink RX2 205 yX2_dropOldest, Cond.instanceMethod yX2_dropOldest, Cond.selects RX2 yX2_dropOldest yX2_dropOldest, Cond.code yX2_dropOldest cX2_dropOldest 3 none, Cond.methodLink RX2 190 yX2_copy, Cond.static yX2_copy, Cond.code yX2_copy cX2_copy 3 none, Cond.instanceMethod yX1_drop, Cond.selects RX1 yX1_drop yX1_drop, Cond.code yX1_drop cX1_drop 3 none, Cond.methodLink RX1 31 yX1_has]
def wsX2_removePlate_r2 : List Cond := [Cond.methodLink RX1 39 yX1_pOf, Cond.instanceMethod yX1_pOf, Cond.selects RX1 yX1_pOf yX1_pOf, Cond.code yX1_pOf cX1_pOf 2 (some .int), Cond.fieldLink RX1 9 "PlateBeats$State" "p" "[I", Cond.methodLink RX1 43 yX1_qOf, Cond.instanceMethod yX1_qOf, Cond.selects RX1 yX1_qOf yX1_qOf, Cond.code yX1_qOf cX1_qOf 2 (some .int), Cond.fieldLink RX1 15 "PlateBeats$State" "q" "[I", Cond.methodLink RX1 35 yX1_put, Cond.instanceMethod yX1_put, Cond.selects RX1 yX1_put yX1_put, Cond.code yX1_put cX1_put 4 none]
def wsX2_removePlate : List Cond := .code yX2_removePlate cX2_removePlate 2 (some .int) :: ((wsX2_removePlate_r1 ++ wsX2_removePlate_r2) ++ wsX20 ++ wsX10)
def wsX2_plateCount : List Cond := .code yX2_plateCount cX2_plateCount 1 (some .int) :: ([.fieldLink RX2 10 "PlateBeats" "present" "LPlateBeats$State;"] ++ wsX20 ++ wsX10)
def wsX2_cellP : List Cond := .code yX2_cellP cX2_cellP 2 (some .int) :: ([.fieldLink RX2 10 "PlateBeats" "present" "LPlateBeats$State;", .instanceMethod yX1_has, .initialized RX1, .selects RX1 yX1_has yX1_has, .code yX1_has cX1_has 2 (some .boolean), .fieldLink RX1 18 "PlateBeats$State" "count" "I", .instanceMethod yX1_pOf, .selects RX1 yX1_pOf yX1_pOf, .code yX1_pOf cX1_pOf 2 (some .int), .fieldLink RX1 9 "PlateBeats$State" "p" "[I", .methodLink RX1 31 yX1_has] ++ wsX20 ++ wsX10)
def wsX2_cellQ : List Cond := .code yX2_cellQ cX2_cellQ 2 (some .int) :: ([.fieldLink RX2 10 "PlateBeats" "present" "LPlateBeats$State;", .instanceMethod yX1_has, .initialized RX1, .selects RX1 yX1_has yX1_has, .code yX1_has cX1_has 2 (some .boolean), .fieldLink RX1 18 "PlateBeats$State" "count" "I", .instanceMethod yX1_qOf, .selects RX1 yX1_qOf yX1_qOf, .code yX1_qOf cX1_qOf 2 (some .int), .fieldLink RX1 15 "PlateBeats$State" "q" "[I", .methodLink RX1 31 yX1_has] ++ wsX20 ++ wsX10)
def wsX2_cellArea : List Cond := .code yX2_cellArea cX2_cellArea 2 (some .int) :: ([.fieldLink RX2 10 "PlateBeats" "present" "LPlateBeats$State;", .instanceMethod yX1_has, .initialized RX1, .selects RX1 yX1_has yX1_has, .code yX1_has cX1_has 2 (some .boolean), .fieldLink RX1 18 "PlateBeats$State" "count" "I", .instanceMethod yX1_areaOf, .selects RX1 yX1_areaOf yX1_areaOf, .code yX1_areaOf cX1_areaOf 2 (some .int), .fieldLink RX1 9 "PlateBeats$State" "p" "[I", .fieldLink RX1 15 "PlateBeats$State" "q" "[I", .methodLink RX1 31 yX1_has] ++ wsX20 ++ wsX10)
def wsX2_tileOf_r1 : List Cond := [Cond.fieldLink RX2 10 "PlateBeats" "present" "LPlateBeats$State;", Cond.instanceMethod yX1_areaOf, Cond.initialized RX1, Cond.selects RX1 yX1_areaOf yX1_areaOf, Cond.code yX1_areaOf cX1_areaOf 2 (some .int), Cond.fieldLink RX1 9 "PlateBeats$State" "p" "[I", Cond.fieldLink RX1 15 "PlateBeats$State" "q" "[I", Cond.methodLink RX1 31 yX1_has, Cond.instanceMethod yX1_has, Cond.selects RX1 yX1_has yX1_has, Cond.code yX1_has cX1_has 2 (some .boolean), Cond.fieldLink RX1 18 "PlateBeats$State" "count" "I", Cond.instanceMethod yX1_pOf, Cond.selects RX1 yX1_pOf yX1_pOf, Cond.code yX1_pOf cX1_pOf 2 (some .int), Cond.instanceMethod yX1_qOf, Cond.selects RX1 yX1_qOf yX1_qOf, Cond.code yX1_qOf cX1_qOf 2 (some .int), Cond.methodLink RX2 78 yX2_gcd, Cond.static yX2_gcd, Cond.initialized RX2, Cond.code yX2_gcd cX2_gcd 11 (some .long), Cond.methodLink RX2 82 yX2_divided, Cond.static yX2_divided]
def wsX2_tileOf_r2 : List Cond := [Cond.code yX2_divided cX2_divided 4 (some .long)]
def wsX2_tileOf : List Cond := .code yX2_tileOf cX2_tileOf 2 (some .long) :: ((wsX2_tileOf_r1 ++ wsX2_tileOf_r2) ++ wsX20 ++ wsX10)
def wsX2_tile_r1 : List Cond := [Cond.fieldLink RX2 10 "PlateBeats" "present" "LPlateBeats$State;", Cond.instanceMethod yX1_has, Cond.initialized RX1, Cond.selects RX1 yX1_has yX1_has, Cond.code yX1_has cX1_has 2 (some .boolean), Cond.fieldLink RX1 18 "PlateBeats$State" "count" "I", Cond.methodLink RX2 74 yX2_tileOf, Cond.instanceMethod yX2_tileOf, Cond.selects RX2 yX2_tileOf yX2_tileOf, Cond.initialized RX2, Cond.code yX2_tileOf cX2_tileOf 2 (some .long), Cond.instanceMethod yX1_areaOf, Cond.selects RX1 yX1_areaOf yX1_areaOf, Cond.code yX1_areaOf cX1_areaOf 2 (some .int), Cond.fieldLink RX1 9 "PlateBeats$State" "p" "[I", Cond.fieldLink RX1 15 "PlateBeats$State" "q" "[I", Cond.methodLink RX1 31 yX1_has, Cond.instanceMethod yX1_pOf, Cond.selects RX1 yX1_pOf yX1_pOf, Cond.code yX1_pOf cX1_pOf 2 (some .int), Cond.instanceMethod yX1_qOf, Cond.selects RX1 yX1_qOf yX1_qOf, Cond.code yX1_qOf cX1_qOf 2 (some .int), Cond.methodLink RX2 78 yX2_gcd]
def wsX2_tile_r2 : List Cond := [Cond.static yX2_gcd, Cond.code yX2_gcd cX2_gcd 11 (some .long), Cond.methodLink RX2 82 yX2_divided, Cond.static yX2_divided, Cond.code yX2_divided cX2_divided 4 (some .long)]
def wsX2_tile : List Cond := .code yX2_tile cX2_tile 2 (some .int) :: ((wsX2_tile_r1 ++ wsX2_tile_r2) ++ wsX20 ++ wsX10)
def wsX2_commonTile_r1 : List Cond := [Cond.fieldLink RX2 10 "PlateBeats" "present" "LPlateBeats$State;", Cond.methodLink RX2 74 yX2_tileOf, Cond.instanceMethod yX2_tileOf, Cond.selects RX2 yX2_tileOf yX2_tileOf, Cond.initialized RX2, Cond.code yX2_tileOf cX2_tileOf 2 (some .long), Cond.instanceMethod yX1_areaOf, Cond.initialized RX1, Cond.selects RX1 yX1_areaOf yX1_areaOf, Cond.code yX1_areaOf cX1_areaOf 2 (some .int), Cond.fieldLink RX1 9 "PlateBeats$State" "p" "[I", Cond.fieldLink RX1 15 "PlateBeats$State" "q" "[I", Cond.methodLink RX1 31 yX1_has, Cond.instanceMethod yX1_has, Cond.selects RX1 yX1_has yX1_has, Cond.code yX1_has cX1_has 2 (some .boolean), Cond.fieldLink RX1 18 "PlateBeats$State" "count" "I", Cond.instanceMethod yX1_pOf, Cond.selects RX1 yX1_pOf yX1_pOf, Cond.code yX1_pOf cX1_pOf 2 (some .int), Cond.instanceMethod yX1_qOf, Cond.selects RX1 yX1_qOf yX1_qOf, Cond.code yX1_qOf cX1_qOf 2 (some .int), Cond.methodLink RX2 78 yX2_gcd]
def wsX2_commonTile_r2 : List Cond := [Cond.static yX2_gcd, Cond.code yX2_gcd cX2_gcd 11 (some .long), Cond.methodLink RX2 82 yX2_divided, Cond.static yX2_divided, Cond.code yX2_divided cX2_divided 4 (some .long)]
def wsX2_commonTile : List Cond := .code yX2_commonTile cX2_commonTile 6 (some .long) :: ((wsX2_commonTile_r1 ++ wsX2_commonTile_r2) ++ wsX20 ++ wsX10)
def wsX2_platesBefore : List Cond := .code yX2_platesBefore cX2_platesBefore 6 (some .int) :: ([.fieldLink RX2 10 "PlateBeats" "present" "LPlateBeats$State;", .instanceMethod yX1_qOf, .initialized RX1, .selects RX1 yX1_qOf yX1_qOf, .code yX1_qOf cX1_qOf 2 (some .int), .fieldLink RX1 15 "PlateBeats$State" "q" "[I", .methodLink RX1 31 yX1_has, .instanceMethod yX1_has, .selects RX1 yX1_has yX1_has, .code yX1_has cX1_has 2 (some .boolean), .fieldLink RX1 18 "PlateBeats$State" "count" "I", .instanceMethod yX1_pOf, .selects RX1 yX1_pOf yX1_pOf, .code yX1_pOf cX1_pOf 2 (some .int), .fieldLink RX1 9 "PlateBeats$State" "p" "[I"] ++ wsX20 ++ wsX10)
def wsX2_byAngle : List Cond := .code yX2_byAngle cX2_byAngle 3 (some .int) :: ([.fieldLink RX2 10 "PlateBeats" "present" "LPlateBeats$State;", .methodLink RX2 85 yX2_platesBefore, .instanceMethod yX2_platesBefore, .selects RX2 yX2_platesBefore yX2_platesBefore, .initialized RX2, .code yX2_platesBefore cX2_platesBefore 6 (some .int), .instanceMethod yX1_qOf, .initialized RX1, .selects RX1 yX1_qOf yX1_qOf, .code yX1_qOf cX1_qOf 2 (some .int), .fieldLink RX1 15 "PlateBeats$State" "q" "[I", .methodLink RX1 31 yX1_has, .instanceMethod yX1_has, .selects RX1 yX1_has yX1_has, .code yX1_has cX1_has 2 (some .boolean), .fieldLink RX1 18 "PlateBeats$State" "count" "I", .instanceMethod yX1_pOf, .selects RX1 yX1_pOf yX1_pOf, .code yX1_pOf cX1_pOf 2 (some .int), .fieldLink RX1 9 "PlateBeats$State" "p" "[I"] ++ wsX20 ++ wsX10)
def wsX2_setOrder : List Cond := .code yX2_setOrder cX2_setOrder 3 (some .int) :: ([.fieldLink RX2 10 "PlateBeats" "present" "LPlateBeats$State;", .methodLink RX2 45 yX2_record, .instanceMethod yX2_record, .selects RX2 yX2_record yX2_record, .initialized RX2, .code yX2_record cX2_record 1 none, .fieldLink RX2 202 "PlateBeats" "historyCount" "I", .fieldLink RX2 19 "PlateBeats" "history" "[LPlateBeats$State;", .methodLink RX2 205 yX2_dropOldest, .instanceMethod yX2_dropOldest, .selects RX2 yX2_dropOldest yX2_dropOldest, .code yX2_dropOldest cX2_dropOldest 3 none, .methodLink RX2 190 yX2_copy, .static yX2_copy, .code yX2_copy cX2_copy 3 none] ++ wsX20 ++ wsX10)
def wsX2_setLimits : List Cond := .code yX2_setLimits cX2_setLimits 4 (some .int) :: ([.fieldLink RX2 10 "PlateBeats" "present" "LPlateBeats$State;", .methodLink RX2 45 yX2_record, .instanceMethod yX2_record, .selects RX2 yX2_record yX2_record, .initialized RX2, .code yX2_record cX2_record 1 none, .fieldLink RX2 202 "PlateBeats" "historyCount" "I", .fieldLink RX2 19 "PlateBeats" "history" "[LPlateBeats$State;", .methodLink RX2 205 yX2_dropOldest, .instanceMethod yX2_dropOldest, .selects RX2 yX2_dropOldest yX2_dropOldest, .code yX2_dropOldest cX2_dropOldest 3 none, .methodLink RX2 190 yX2_copy, .static yX2_copy, .code yX2_copy cX2_copy 3 none] ++ wsX20 ++ wsX10)
def wsX2_longLimit : List Cond := .code yX2_longLimit cX2_longLimit 1 (some .int) :: ([.fieldLink RX2 10 "PlateBeats" "present" "LPlateBeats$State;"] ++ wsX20 ++ wsX10)
def wsX2_isCombination : List Cond := .code yX2_isCombination cX2_isCombination 7 (some .boolean) :: ([.fieldLink RX2 10 "PlateBeats" "present" "LPlateBeats$State;", .instanceMethod yX1_hasPair, .initialized RX1, .selects RX1 yX1_hasPair yX1_hasPair, .code yX1_hasPair cX1_hasPair 3 (some .boolean), .methodLink RX1 31 yX1_has, .instanceMethod yX1_has, .selects RX1 yX1_has yX1_has, .code yX1_has cX1_has 2 (some .boolean), .fieldLink RX1 18 "PlateBeats$State" "count" "I", .instanceMethod yX1_isFactorPair, .selects RX1 yX1_isFactorPair yX1_isFactorPair, .code yX1_isFactorPair cX1_isFactorPair 3 (some .boolean), .fieldLink RX1 22 "PlateBeats$State" "order" "I"] ++ wsX20 ++ wsX10)
def wsX2_squareNumerator_r1 : List Cond := [Cond.constantLong RX2 101 (-1), Cond.fieldLink RX2 33 "PlateBeats" "group" "LPlateBeats$Group;", Cond.fieldLink RX2 10 "PlateBeats" "present" "LPlateBeats$State;", Cond.methodLink RX2 97 yX2_isCombination, Cond.instanceMethod yX2_isCombination, Cond.selects RX2 yX2_isCombination yX2_isCombination, Cond.initialized RX2, Cond.code yX2_isCombination cX2_isCombination 7 (some .boolean), Cond.instanceMethod yX1_hasPair, Cond.initialized RX1, Cond.selects RX1 yX1_hasPair yX1_hasPair, Cond.code yX1_hasPair cX1_hasPair 3 (some .boolean), Cond.methodLink RX1 31 yX1_has, Cond.instanceMethod yX1_has, Cond.selects RX1 yX1_has yX1_has, Cond.code yX1_has cX1_has 2 (some .boolean), Cond.fieldLink RX1 18 "PlateBeats$State" "count" "I", Cond.instanceMethod yX1_isFactorPair, Cond.selects RX1 yX1_isFactorPair yX1_isFactorPair, Cond.code yX1_isFactorPair cX1_isFactorPair 3 (some .boolean), Cond.fieldLink RX1 22 "PlateBeats$State" "order" "I", Cond.instanceMethod yX0_startPair, Cond.initialized RX0, Cond.selects RX0 yX0_startPair yX0_startPair]
def wsX2_squareNumerator_r2 : List Cond := [Cond.code yX0_startPair cX0_startPair 4 none, Cond.instanceMethod yX1_areaOf, Cond.selects RX1 yX1_areaOf yX1_areaOf, Cond.code yX1_areaOf cX1_areaOf 2 (some .int), Cond.fieldLink RX1 9 "PlateBeats$State" "p" "[I", Cond.fieldLink RX1 15 "PlateBeats$State" "q" "[I", Cond.methodLink RX0 31 yX0_start, Cond.instanceMethod yX0_start, Cond.selects RX0 yX0_start yX0_start, Cond.code yX0_start cX0_start 8 none, Cond.fieldLink RX0 35 "PlateBeats$Group" "size" "I", Cond.fieldLink RX0 15 "PlateBeats$Group" "areas" "J", Cond.fieldLink RX0 19 "PlateBeats$Group" "leastFine" "J", Cond.fieldLink RX0 22 "PlateBeats$Group" "greatestLong" "J", Cond.static yX2_divided, Cond.code yX2_divided cX2_divided 4 (some .long), Cond.instanceMethod yX1_pairNorm, Cond.selects RX1 yX1_pairNorm yX1_pairNorm, Cond.code yX1_pairNorm cX1_pairNorm 9 (some .int), Cond.methodLink RX1 39 yX1_pOf, Cond.instanceMethod yX1_pOf, Cond.selects RX1 yX1_pOf yX1_pOf, Cond.code yX1_pOf cX1_pOf 2 (some .int), Cond.methodLink RX1 43 yX1_qOf]
def wsX2_squareNumerator_r3 : List Cond := [Cond.instanceMethod yX1_qOf, Cond.selects RX1 yX1_qOf yX1_qOf, Cond.code yX1_qOf cX1_qOf 2 (some .int), Cond.static yX2_realPart, Cond.code yX2_realPart cX2_realPart 4 (some .int), Cond.static yX2_imaginaryPart, Cond.code yX2_imaginaryPart cX2_imaginaryPart 4 (some .int), Cond.instanceMethod yX0_numerator, Cond.selects RX0 yX0_numerator yX0_numerator, Cond.code yX0_numerator cX0_numerator 2 (some .long), Cond.static yX2_gcd, Cond.code yX2_gcd cX2_gcd 11 (some .long)]
def wsX2_squareNumerator : List Cond := .code yX2_squareNumerator cX2_squareNumerator 7 (some .long) :: ((wsX2_squareNumerator_r1 ++ (wsX2_squareNumerator_r2 ++ wsX2_squareNumerator_r3)) ++ wsX20 ++ wsX10 ++ wsX00)
def wsX2_squareDenominator_r1 : List Cond := [Cond.constantLong RX2 101 (-1), Cond.fieldLink RX2 33 "PlateBeats" "group" "LPlateBeats$Group;", Cond.fieldLink RX2 10 "PlateBeats" "present" "LPlateBeats$State;", Cond.methodLink RX2 97 yX2_isCombination, Cond.instanceMethod yX2_isCombination, Cond.selects RX2 yX2_isCombination yX2_isCombination, Cond.initialized RX2, Cond.code yX2_isCombination cX2_isCombination 7 (some .boolean), Cond.instanceMethod yX1_hasPair, Cond.initialized RX1, Cond.selects RX1 yX1_hasPair yX1_hasPair, Cond.code yX1_hasPair cX1_hasPair 3 (some .boolean), Cond.methodLink RX1 31 yX1_has, Cond.instanceMethod yX1_has, Cond.selects RX1 yX1_has yX1_has, Cond.code yX1_has cX1_has 2 (some .boolean), Cond.fieldLink RX1 18 "PlateBeats$State" "count" "I", Cond.instanceMethod yX1_isFactorPair, Cond.selects RX1 yX1_isFactorPair yX1_isFactorPair, Cond.code yX1_isFactorPair cX1_isFactorPair 3 (some .boolean), Cond.fieldLink RX1 22 "PlateBeats$State" "order" "I", Cond.instanceMethod yX0_startPair, Cond.initialized RX0, Cond.selects RX0 yX0_startPair yX0_startPair]
def wsX2_squareDenominator_r2 : List Cond := [Cond.code yX0_startPair cX0_startPair 4 none, Cond.instanceMethod yX1_areaOf, Cond.selects RX1 yX1_areaOf yX1_areaOf, Cond.code yX1_areaOf cX1_areaOf 2 (some .int), Cond.fieldLink RX1 9 "PlateBeats$State" "p" "[I", Cond.fieldLink RX1 15 "PlateBeats$State" "q" "[I", Cond.methodLink RX0 31 yX0_start, Cond.instanceMethod yX0_start, Cond.selects RX0 yX0_start yX0_start, Cond.code yX0_start cX0_start 8 none, Cond.fieldLink RX0 35 "PlateBeats$Group" "size" "I", Cond.fieldLink RX0 15 "PlateBeats$Group" "areas" "J", Cond.fieldLink RX0 19 "PlateBeats$Group" "leastFine" "J", Cond.fieldLink RX0 22 "PlateBeats$Group" "greatestLong" "J", Cond.static yX2_divided, Cond.code yX2_divided cX2_divided 4 (some .long), Cond.instanceMethod yX1_pairNorm, Cond.selects RX1 yX1_pairNorm yX1_pairNorm, Cond.code yX1_pairNorm cX1_pairNorm 9 (some .int), Cond.methodLink RX1 39 yX1_pOf, Cond.instanceMethod yX1_pOf, Cond.selects RX1 yX1_pOf yX1_pOf, Cond.code yX1_pOf cX1_pOf 2 (some .int), Cond.methodLink RX1 43 yX1_qOf]
def wsX2_squareDenominator_r3 : List Cond := [Cond.instanceMethod yX1_qOf, Cond.selects RX1 yX1_qOf yX1_qOf, Cond.code yX1_qOf cX1_qOf 2 (some .int), Cond.static yX2_realPart, Cond.code yX2_realPart cX2_realPart 4 (some .int), Cond.static yX2_imaginaryPart, Cond.code yX2_imaginaryPart cX2_imaginaryPart 4 (some .int), Cond.instanceMethod yX0_denominator, Cond.selects RX0 yX0_denominator yX0_denominator, Cond.code yX0_denominator cX0_denominator 2 (some .long), Cond.static yX2_gcd, Cond.code yX2_gcd cX2_gcd 11 (some .long)]
def wsX2_squareDenominator : List Cond := .code yX2_squareDenominator cX2_squareDenominator 7 (some .long) :: ((wsX2_squareDenominator_r1 ++ (wsX2_squareDenominator_r2 ++ wsX2_squareDenominator_r3)) ++ wsX20 ++ wsX10 ++ wsX00)
def wsX2_kind_r1 : List Cond := [Cond.fieldLink RX2 33 "PlateBeats" "group" "LPlateBeats$Group;", Cond.fieldLink RX2 10 "PlateBeats" "present" "LPlateBeats$State;", Cond.methodLink RX2 97 yX2_isCombination, Cond.instanceMethod yX2_isCombination, Cond.selects RX2 yX2_isCombination yX2_isCombination, Cond.initialized RX2, Cond.code yX2_isCombination cX2_isCombination 7 (some .boolean), Cond.instanceMethod yX1_hasPair, Cond.initialized RX1, Cond.selects RX1 yX1_hasPair yX1_hasPair, Cond.code yX1_hasPair cX1_hasPair 3 (some .boolean), Cond.methodLink RX1 31 yX1_has, Cond.instanceMethod yX1_has, Cond.selects RX1 yX1_has yX1_has, Cond.code yX1_has cX1_has 2 (some .boolean), Cond.fieldLink RX1 18 "PlateBeats$State" "count" "I", Cond.instanceMethod yX1_isFactorPair, Cond.selects RX1 yX1_isFactorPair yX1_isFactorPair, Cond.code yX1_isFactorPair cX1_isFactorPair 3 (some .boolean), Cond.fieldLink RX1 22 "PlateBeats$State" "order" "I", Cond.instanceMethod yX0_startPair, Cond.initialized RX0, Cond.selects RX0 yX0_startPair yX0_startPair, Cond.code yX0_startPair cX0_startPair 4 none]
def wsX2_kind_r2 : List Cond := [Cond.instanceMethod yX1_areaOf, Cond.selects RX1 yX1_areaOf yX1_areaOf, Cond.code yX1_areaOf cX1_areaOf 2 (some .int), Cond.fieldLink RX1 9 "PlateBeats$State" "p" "[I", Cond.fieldLink RX1 15 "PlateBeats$State" "q" "[I", Cond.methodLink RX0 31 yX0_start, Cond.instanceMethod yX0_start, Cond.selects RX0 yX0_start yX0_start, Cond.code yX0_start cX0_start 8 none, Cond.fieldLink RX0 35 "PlateBeats$Group" "size" "I", Cond.fieldLink RX0 15 "PlateBeats$Group" "areas" "J", Cond.fieldLink RX0 19 "PlateBeats$Group" "leastFine" "J", Cond.fieldLink RX0 22 "PlateBeats$Group" "greatestLong" "J", Cond.static yX2_divided, Cond.code yX2_divided cX2_divided 4 (some .long), Cond.instanceMethod yX1_pairNorm, Cond.selects RX1 yX1_pairNorm yX1_pairNorm, Cond.code yX1_pairNorm cX1_pairNorm 9 (some .int), Cond.methodLink RX1 39 yX1_pOf, Cond.instanceMethod yX1_pOf, Cond.selects RX1 yX1_pOf yX1_pOf, Cond.code yX1_pOf cX1_pOf 2 (some .int), Cond.methodLink RX1 43 yX1_qOf, Cond.instanceMethod yX1_qOf]
def wsX2_kind_r3 : List Cond := [Cond.selects RX1 yX1_qOf yX1_qOf, Cond.code yX1_qOf cX1_qOf 2 (some .int), Cond.static yX2_realPart, Cond.code yX2_realPart cX2_realPart 4 (some .int), Cond.static yX2_imaginaryPart, Cond.code yX2_imaginaryPart cX2_imaginaryPart 4 (some .int), Cond.instanceMethod yX0_kindOf, Cond.selects RX0 yX0_kindOf yX0_kindOf, Cond.code yX0_kindOf cX0_kindOf 2 (some .int)]
def wsX2_kind : List Cond := .code yX2_kind cX2_kind 7 (some .int) :: ((wsX2_kind_r1 ++ (wsX2_kind_r2 ++ wsX2_kind_r3)) ++ wsX20 ++ wsX10 ++ wsX00)
def wsX2_beatCount_r1 : List Cond := [Cond.fieldLink RX2 10 "PlateBeats" "present" "LPlateBeats$State;", Cond.fieldLink RX2 33 "PlateBeats" "group" "LPlateBeats$Group;", Cond.instanceMethod yX1_hasPair, Cond.initialized RX1, Cond.selects RX1 yX1_hasPair yX1_hasPair, Cond.code yX1_hasPair cX1_hasPair 3 (some .boolean), Cond.methodLink RX1 31 yX1_has, Cond.instanceMethod yX1_has, Cond.selects RX1 yX1_has yX1_has, Cond.code yX1_has cX1_has 2 (some .boolean), Cond.fieldLink RX1 18 "PlateBeats$State" "count" "I", Cond.instanceMethod yX0_fillPair, Cond.initialized RX0, Cond.selects RX0 yX0_fillPair yX0_fillPair, Cond.code yX0_fillPair cX0_fillPair 6 none, Cond.methodLink RX0 49 yX0_startPair, Cond.instanceMethod yX0_startPair, Cond.selects RX0 yX0_startPair yX0_startPair, Cond.code yX0_startPair cX0_startPair 4 none, Cond.instanceMethod yX1_areaOf, Cond.selects RX1 yX1_areaOf yX1_areaOf, Cond.code yX1_areaOf cX1_areaOf 2 (some .int), Cond.fieldLink RX1 9 "PlateBeats$State" "p" "[I", Cond.fieldLink RX1 15 "PlateBeats$State" "q" "[I"]
def wsX2_beatCount_r2 : List Cond := [Cond.methodLink RX0 31 yX0_start, Cond.instanceMethod yX0_start, Cond.selects RX0 yX0_start yX0_start, Cond.code yX0_start cX0_start 8 none, Cond.fieldLink RX0 35 "PlateBeats$Group" "size" "I", Cond.fieldLink RX0 15 "PlateBeats$Group" "areas" "J", Cond.fieldLink RX0 19 "PlateBeats$Group" "leastFine" "J", Cond.fieldLink RX0 22 "PlateBeats$Group" "greatestLong" "J", Cond.static yX2_divided, Cond.initialized RX2, Cond.code yX2_divided cX2_divided 4 (some .long), Cond.methodLink RX0 56 yX0_addAllFor, Cond.instanceMethod yX0_addAllFor, Cond.selects RX0 yX0_addAllFor yX0_addAllFor, Cond.code yX0_addAllFor cX0_addAllFor 14 none, Cond.instanceMethod yX1_pOf, Cond.selects RX1 yX1_pOf yX1_pOf, Cond.code yX1_pOf cX1_pOf 2 (some .int), Cond.instanceMethod yX1_qOf, Cond.selects RX1 yX1_qOf yX1_qOf, Cond.code yX1_qOf cX1_qOf 2 (some .int), Cond.static yX2_realPart, Cond.code yX2_realPart cX2_realPart 4 (some .int), Cond.static yX2_imaginaryPart]
def wsX2_beatCount_r3 : List Cond := [Cond.code yX2_imaginaryPart cX2_imaginaryPart 4 (some .int), Cond.methodLink RX0 73 yX0_add, Cond.instanceMethod yX0_add, Cond.selects RX0 yX0_add yX0_add, Cond.code yX0_add cX0_add 2 none, Cond.fieldLink RX0 9 "PlateBeats$Group" "norms" "[I", Cond.instanceMethod yX0_sort, Cond.selects RX0 yX0_sort yX0_sort, Cond.code yX0_sort cX0_sort 4 none, Cond.instanceMethod yX0_differentNorms, Cond.selects RX0 yX0_differentNorms yX0_differentNorms, Cond.code yX0_differentNorms cX0_differentNorms 3 (some .int)]
def wsX2_beatCount : List Cond := .code yX2_beatCount cX2_beatCount 3 (some .int) :: ((wsX2_beatCount_r1 ++ (wsX2_beatCount_r2 ++ wsX2_beatCount_r3)) ++ wsX20 ++ wsX10 ++ wsX00)
def wsX2_normOfRank_r1 : List Cond := [Cond.fieldLink RX2 10 "PlateBeats" "present" "LPlateBeats$State;", Cond.fieldLink RX2 33 "PlateBeats" "group" "LPlateBeats$Group;", Cond.instanceMethod yX1_hasPair, Cond.initialized RX1, Cond.selects RX1 yX1_hasPair yX1_hasPair, Cond.code yX1_hasPair cX1_hasPair 3 (some .boolean), Cond.methodLink RX1 31 yX1_has, Cond.instanceMethod yX1_has, Cond.selects RX1 yX1_has yX1_has, Cond.code yX1_has cX1_has 2 (some .boolean), Cond.fieldLink RX1 18 "PlateBeats$State" "count" "I", Cond.instanceMethod yX0_fillPair, Cond.initialized RX0, Cond.selects RX0 yX0_fillPair yX0_fillPair, Cond.code yX0_fillPair cX0_fillPair 6 none, Cond.methodLink RX0 49 yX0_startPair, Cond.instanceMethod yX0_startPair, Cond.selects RX0 yX0_startPair yX0_startPair, Cond.code yX0_startPair cX0_startPair 4 none, Cond.instanceMethod yX1_areaOf, Cond.selects RX1 yX1_areaOf yX1_areaOf, Cond.code yX1_areaOf cX1_areaOf 2 (some .int), Cond.fieldLink RX1 9 "PlateBeats$State" "p" "[I", Cond.fieldLink RX1 15 "PlateBeats$State" "q" "[I"]
def wsX2_normOfRank_r2 : List Cond := [Cond.methodLink RX0 31 yX0_start, Cond.instanceMethod yX0_start, Cond.selects RX0 yX0_start yX0_start, Cond.code yX0_start cX0_start 8 none, Cond.fieldLink RX0 35 "PlateBeats$Group" "size" "I", Cond.fieldLink RX0 15 "PlateBeats$Group" "areas" "J", Cond.fieldLink RX0 19 "PlateBeats$Group" "leastFine" "J", Cond.fieldLink RX0 22 "PlateBeats$Group" "greatestLong" "J", Cond.static yX2_divided, Cond.initialized RX2, Cond.code yX2_divided cX2_divided 4 (some .long), Cond.methodLink RX0 56 yX0_addAllFor, Cond.instanceMethod yX0_addAllFor, Cond.selects RX0 yX0_addAllFor yX0_addAllFor, Cond.code yX0_addAllFor cX0_addAllFor 14 none, Cond.instanceMethod yX1_pOf, Cond.selects RX1 yX1_pOf yX1_pOf, Cond.code yX1_pOf cX1_pOf 2 (some .int), Cond.instanceMethod yX1_qOf, Cond.selects RX1 yX1_qOf yX1_qOf, Cond.code yX1_qOf cX1_qOf 2 (some .int), Cond.static yX2_realPart, Cond.code yX2_realPart cX2_realPart 4 (some .int), Cond.static yX2_imaginaryPart]
def wsX2_normOfRank_r3 : List Cond := [Cond.code yX2_imaginaryPart cX2_imaginaryPart 4 (some .int), Cond.methodLink RX0 73 yX0_add, Cond.instanceMethod yX0_add, Cond.selects RX0 yX0_add yX0_add, Cond.code yX0_add cX0_add 2 none, Cond.fieldLink RX0 9 "PlateBeats$Group" "norms" "[I", Cond.instanceMethod yX0_sort, Cond.selects RX0 yX0_sort yX0_sort, Cond.code yX0_sort cX0_sort 4 none, Cond.instanceMethod yX0_normAt, Cond.selects RX0 yX0_normAt yX0_normAt, Cond.code yX0_normAt cX0_normAt 4 (some .int)]
def wsX2_normOfRank : List Cond := .code yX2_normOfRank cX2_normOfRank 4 (some .int) :: ((wsX2_normOfRank_r1 ++ (wsX2_normOfRank_r2 ++ wsX2_normOfRank_r3)) ++ wsX20 ++ wsX10 ++ wsX00)
def wsX2_beatNumerator_r1 : List Cond := [Cond.fieldLink RX2 33 "PlateBeats" "group" "LPlateBeats$Group;", Cond.methodLink RX2 133 yX2_normOfRank, Cond.instanceMethod yX2_normOfRank, Cond.selects RX2 yX2_normOfRank yX2_normOfRank, Cond.initialized RX2, Cond.code yX2_normOfRank cX2_normOfRank 4 (some .int), Cond.fieldLink RX2 10 "PlateBeats" "present" "LPlateBeats$State;", Cond.instanceMethod yX1_hasPair, Cond.initialized RX1, Cond.selects RX1 yX1_hasPair yX1_hasPair, Cond.code yX1_hasPair cX1_hasPair 3 (some .boolean), Cond.methodLink RX1 31 yX1_has, Cond.instanceMethod yX1_has, Cond.selects RX1 yX1_has yX1_has, Cond.code yX1_has cX1_has 2 (some .boolean), Cond.fieldLink RX1 18 "PlateBeats$State" "count" "I", Cond.instanceMethod yX0_fillPair, Cond.initialized RX0, Cond.selects RX0 yX0_fillPair yX0_fillPair, Cond.code yX0_fillPair cX0_fillPair 6 none, Cond.methodLink RX0 49 yX0_startPair, Cond.instanceMethod yX0_startPair, Cond.selects RX0 yX0_startPair yX0_startPair, Cond.code yX0_startPair cX0_startPair 4 none]
def wsX2_beatNumerator_r2 : List Cond := [Cond.instanceMethod yX1_areaOf, Cond.selects RX1 yX1_areaOf yX1_areaOf, Cond.code yX1_areaOf cX1_areaOf 2 (some .int), Cond.fieldLink RX1 9 "PlateBeats$State" "p" "[I", Cond.fieldLink RX1 15 "PlateBeats$State" "q" "[I", Cond.methodLink RX0 31 yX0_start, Cond.instanceMethod yX0_start, Cond.selects RX0 yX0_start yX0_start, Cond.code yX0_start cX0_start 8 none, Cond.fieldLink RX0 35 "PlateBeats$Group" "size" "I", Cond.fieldLink RX0 15 "PlateBeats$Group" "areas" "J", Cond.fieldLink RX0 19 "PlateBeats$Group" "leastFine" "J", Cond.fieldLink RX0 22 "PlateBeats$Group" "greatestLong" "J", Cond.static yX2_divided, Cond.code yX2_divided cX2_divided 4 (some .long), Cond.methodLink RX0 56 yX0_addAllFor, Cond.instanceMethod yX0_addAllFor, Cond.selects RX0 yX0_addAllFor yX0_addAllFor, Cond.code yX0_addAllFor cX0_addAllFor 14 none, Cond.instanceMethod yX1_pOf, Cond.selects RX1 yX1_pOf yX1_pOf, Cond.code yX1_pOf cX1_pOf 2 (some .int), Cond.instanceMethod yX1_qOf, Cond.selects RX1 yX1_qOf yX1_qOf]
def wsX2_beatNumerator_r3 : List Cond := [Cond.code yX1_qOf cX1_qOf 2 (some .int), Cond.static yX2_realPart, Cond.code yX2_realPart cX2_realPart 4 (some .int), Cond.static yX2_imaginaryPart, Cond.code yX2_imaginaryPart cX2_imaginaryPart 4 (some .int), Cond.methodLink RX0 73 yX0_add, Cond.instanceMethod yX0_add, Cond.selects RX0 yX0_add yX0_add, Cond.code yX0_add cX0_add 2 none, Cond.fieldLink RX0 9 "PlateBeats$Group" "norms" "[I", Cond.instanceMethod yX0_sort, Cond.selects RX0 yX0_sort yX0_sort, Cond.code yX0_sort cX0_sort 4 none, Cond.instanceMethod yX0_normAt, Cond.selects RX0 yX0_normAt yX0_normAt, Cond.code yX0_normAt cX0_normAt 4 (some .int), Cond.instanceMethod yX0_numerator, Cond.selects RX0 yX0_numerator yX0_numerator, Cond.code yX0_numerator cX0_numerator 2 (some .long), Cond.static yX2_gcd, Cond.code yX2_gcd cX2_gcd 11 (some .long)]
def wsX2_beatNumerator : List Cond := .code yX2_beatNumerator cX2_beatNumerator 5 (some .long) :: ((wsX2_beatNumerator_r1 ++ (wsX2_beatNumerator_r2 ++ wsX2_beatNumerator_r3)) ++ wsX20 ++ wsX10 ++ wsX00)
def wsX2_beatDenominator_r1 : List Cond := [Cond.fieldLink RX2 33 "PlateBeats" "group" "LPlateBeats$Group;", Cond.methodLink RX2 133 yX2_normOfRank, Cond.instanceMethod yX2_normOfRank, Cond.selects RX2 yX2_normOfRank yX2_normOfRank, Cond.initialized RX2, Cond.code yX2_normOfRank cX2_normOfRank 4 (some .int), Cond.fieldLink RX2 10 "PlateBeats" "present" "LPlateBeats$State;", Cond.instanceMethod yX1_hasPair, Cond.initialized RX1, Cond.selects RX1 yX1_hasPair yX1_hasPair, Cond.code yX1_hasPair cX1_hasPair 3 (some .boolean), Cond.methodLink RX1 31 yX1_has, Cond.instanceMethod yX1_has, Cond.selects RX1 yX1_has yX1_has, Cond.code yX1_has cX1_has 2 (some .boolean), Cond.fieldLink RX1 18 "PlateBeats$State" "count" "I", Cond.instanceMethod yX0_fillPair, Cond.initialized RX0, Cond.selects RX0 yX0_fillPair yX0_fillPair, Cond.code yX0_fillPair cX0_fillPair 6 none, Cond.methodLink RX0 49 yX0_startPair, Cond.instanceMethod yX0_startPair, Cond.selects RX0 yX0_startPair yX0_startPair, Cond.code yX0_startPair cX0_startPair 4 none]
def wsX2_beatDenominator_r2 : List Cond := [Cond.instanceMethod yX1_areaOf, Cond.selects RX1 yX1_areaOf yX1_areaOf, Cond.code yX1_areaOf cX1_areaOf 2 (some .int), Cond.fieldLink RX1 9 "PlateBeats$State" "p" "[I", Cond.fieldLink RX1 15 "PlateBeats$State" "q" "[I", Cond.methodLink RX0 31 yX0_start, Cond.instanceMethod yX0_start, Cond.selects RX0 yX0_start yX0_start, Cond.code yX0_start cX0_start 8 none, Cond.fieldLink RX0 35 "PlateBeats$Group" "size" "I", Cond.fieldLink RX0 15 "PlateBeats$Group" "areas" "J", Cond.fieldLink RX0 19 "PlateBeats$Group" "leastFine" "J", Cond.fieldLink RX0 22 "PlateBeats$Group" "greatestLong" "J", Cond.static yX2_divided, Cond.code yX2_divided cX2_divided 4 (some .long), Cond.methodLink RX0 56 yX0_addAllFor, Cond.instanceMethod yX0_addAllFor, Cond.selects RX0 yX0_addAllFor yX0_addAllFor, Cond.code yX0_addAllFor cX0_addAllFor 14 none, Cond.instanceMethod yX1_pOf, Cond.selects RX1 yX1_pOf yX1_pOf, Cond.code yX1_pOf cX1_pOf 2 (some .int), Cond.instanceMethod yX1_qOf, Cond.selects RX1 yX1_qOf yX1_qOf]
def wsX2_beatDenominator_r3 : List Cond := [Cond.code yX1_qOf cX1_qOf 2 (some .int), Cond.static yX2_realPart, Cond.code yX2_realPart cX2_realPart 4 (some .int), Cond.static yX2_imaginaryPart, Cond.code yX2_imaginaryPart cX2_imaginaryPart 4 (some .int), Cond.methodLink RX0 73 yX0_add, Cond.instanceMethod yX0_add, Cond.selects RX0 yX0_add yX0_add, Cond.code yX0_add cX0_add 2 none, Cond.fieldLink RX0 9 "PlateBeats$Group" "norms" "[I", Cond.instanceMethod yX0_sort, Cond.selects RX0 yX0_sort yX0_sort, Cond.code yX0_sort cX0_sort 4 none, Cond.instanceMethod yX0_normAt, Cond.selects RX0 yX0_normAt yX0_normAt, Cond.code yX0_normAt cX0_normAt 4 (some .int), Cond.instanceMethod yX0_denominator, Cond.selects RX0 yX0_denominator yX0_denominator, Cond.code yX0_denominator cX0_denominator 2 (some .long), Cond.static yX2_gcd, Cond.code yX2_gcd cX2_gcd 11 (some .long)]
def wsX2_beatDenominator : List Cond := .code yX2_beatDenominator cX2_beatDenominator 5 (some .long) :: ((wsX2_beatDenominator_r1 ++ (wsX2_beatDenominator_r2 ++ wsX2_beatDenominator_r3)) ++ wsX20 ++ wsX10 ++ wsX00)
def wsX2_beatFrequency_r1 : List Cond := [Cond.fieldLink RX2 33 "PlateBeats" "group" "LPlateBeats$Group;", Cond.methodLink RX2 133 yX2_normOfRank, Cond.instanceMethod yX2_normOfRank, Cond.selects RX2 yX2_normOfRank yX2_normOfRank, Cond.initialized RX2, Cond.code yX2_normOfRank cX2_normOfRank 4 (some .int), Cond.fieldLink RX2 10 "PlateBeats" "present" "LPlateBeats$State;", Cond.instanceMethod yX1_hasPair, Cond.initialized RX1, Cond.selects RX1 yX1_hasPair yX1_hasPair, Cond.code yX1_hasPair cX1_hasPair 3 (some .boolean), Cond.methodLink RX1 31 yX1_has, Cond.instanceMethod yX1_has, Cond.selects RX1 yX1_has yX1_has, Cond.code yX1_has cX1_has 2 (some .boolean), Cond.fieldLink RX1 18 "PlateBeats$State" "count" "I", Cond.instanceMethod yX0_fillPair, Cond.initialized RX0, Cond.selects RX0 yX0_fillPair yX0_fillPair, Cond.code yX0_fillPair cX0_fillPair 6 none, Cond.methodLink RX0 49 yX0_startPair, Cond.instanceMethod yX0_startPair, Cond.selects RX0 yX0_startPair yX0_startPair, Cond.code yX0_startPair cX0_startPair 4 none]
def wsX2_beatFrequency_r2 : List Cond := [Cond.instanceMethod yX1_areaOf, Cond.selects RX1 yX1_areaOf yX1_areaOf, Cond.code yX1_areaOf cX1_areaOf 2 (some .int), Cond.fieldLink RX1 9 "PlateBeats$State" "p" "[I", Cond.fieldLink RX1 15 "PlateBeats$State" "q" "[I", Cond.methodLink RX0 31 yX0_start, Cond.instanceMethod yX0_start, Cond.selects RX0 yX0_start yX0_start, Cond.code yX0_start cX0_start 8 none, Cond.fieldLink RX0 35 "PlateBeats$Group" "size" "I", Cond.fieldLink RX0 15 "PlateBeats$Group" "areas" "J", Cond.fieldLink RX0 19 "PlateBeats$Group" "leastFine" "J", Cond.fieldLink RX0 22 "PlateBeats$Group" "greatestLong" "J", Cond.static yX2_divided, Cond.code yX2_divided cX2_divided 4 (some .long), Cond.methodLink RX0 56 yX0_addAllFor, Cond.instanceMethod yX0_addAllFor, Cond.selects RX0 yX0_addAllFor yX0_addAllFor, Cond.code yX0_addAllFor cX0_addAllFor 14 none, Cond.instanceMethod yX1_pOf, Cond.selects RX1 yX1_pOf yX1_pOf, Cond.code yX1_pOf cX1_pOf 2 (some .int), Cond.instanceMethod yX1_qOf, Cond.selects RX1 yX1_qOf yX1_qOf]
def wsX2_beatFrequency_r3 : List Cond := [Cond.code yX1_qOf cX1_qOf 2 (some .int), Cond.static yX2_realPart, Cond.code yX2_realPart cX2_realPart 4 (some .int), Cond.static yX2_imaginaryPart, Cond.code yX2_imaginaryPart cX2_imaginaryPart 4 (some .int), Cond.methodLink RX0 73 yX0_add, Cond.instanceMethod yX0_add, Cond.selects RX0 yX0_add yX0_add, Cond.code yX0_add cX0_add 2 none, Cond.fieldLink RX0 9 "PlateBeats$Group" "norms" "[I", Cond.instanceMethod yX0_sort, Cond.selects RX0 yX0_sort yX0_sort, Cond.code yX0_sort cX0_sort 4 none, Cond.instanceMethod yX0_normAt, Cond.selects RX0 yX0_normAt yX0_normAt, Cond.code yX0_normAt cX0_normAt 4 (some .int), Cond.instanceMethod yX0_combinationsWith, Cond.selects RX0 yX0_combinationsWith yX0_combinationsWith, Cond.code yX0_combinationsWith cX0_combinationsWith 4 (some .int)]
def wsX2_beatFrequency : List Cond := .code yX2_beatFrequency cX2_beatFrequency 5 (some .int) :: ((wsX2_beatFrequency_r1 ++ (wsX2_beatFrequency_r2 ++ wsX2_beatFrequency_r3)) ++ wsX20 ++ wsX10 ++ wsX00)
def wsX2_beatPeriod_r1 : List Cond := [Cond.fieldLink RX2 33 "PlateBeats" "group" "LPlateBeats$Group;", Cond.methodLink RX2 133 yX2_normOfRank, Cond.instanceMethod yX2_normOfRank, Cond.selects RX2 yX2_normOfRank yX2_normOfRank, Cond.initialized RX2, Cond.code yX2_normOfRank cX2_normOfRank 4 (some .int), Cond.fieldLink RX2 10 "PlateBeats" "present" "LPlateBeats$State;", Cond.instanceMethod yX1_hasPair, Cond.initialized RX1, Cond.selects RX1 yX1_hasPair yX1_hasPair, Cond.code yX1_hasPair cX1_hasPair 3 (some .boolean), Cond.methodLink RX1 31 yX1_has, Cond.instanceMethod yX1_has, Cond.selects RX1 yX1_has yX1_has, Cond.code yX1_has cX1_has 2 (some .boolean), Cond.fieldLink RX1 18 "PlateBeats$State" "count" "I", Cond.instanceMethod yX0_fillPair, Cond.initialized RX0, Cond.selects RX0 yX0_fillPair yX0_fillPair, Cond.code yX0_fillPair cX0_fillPair 6 none, Cond.methodLink RX0 49 yX0_startPair, Cond.instanceMethod yX0_startPair, Cond.selects RX0 yX0_startPair yX0_startPair, Cond.code yX0_startPair cX0_startPair 4 none]
def wsX2_beatPeriod_r2 : List Cond := [Cond.instanceMethod yX1_areaOf, Cond.selects RX1 yX1_areaOf yX1_areaOf, Cond.code yX1_areaOf cX1_areaOf 2 (some .int), Cond.fieldLink RX1 9 "PlateBeats$State" "p" "[I", Cond.fieldLink RX1 15 "PlateBeats$State" "q" "[I", Cond.methodLink RX0 31 yX0_start, Cond.instanceMethod yX0_start, Cond.selects RX0 yX0_start yX0_start, Cond.code yX0_start cX0_start 8 none, Cond.fieldLink RX0 35 "PlateBeats$Group" "size" "I", Cond.fieldLink RX0 15 "PlateBeats$Group" "areas" "J", Cond.fieldLink RX0 19 "PlateBeats$Group" "leastFine" "J", Cond.fieldLink RX0 22 "PlateBeats$Group" "greatestLong" "J", Cond.static yX2_divided, Cond.code yX2_divided cX2_divided 4 (some .long), Cond.methodLink RX0 56 yX0_addAllFor, Cond.instanceMethod yX0_addAllFor, Cond.selects RX0 yX0_addAllFor yX0_addAllFor, Cond.code yX0_addAllFor cX0_addAllFor 14 none, Cond.instanceMethod yX1_pOf, Cond.selects RX1 yX1_pOf yX1_pOf, Cond.code yX1_pOf cX1_pOf 2 (some .int), Cond.instanceMethod yX1_qOf, Cond.selects RX1 yX1_qOf yX1_qOf]
def wsX2_beatPeriod_r3 : List Cond := [Cond.code yX1_qOf cX1_qOf 2 (some .int), Cond.static yX2_realPart, Cond.code yX2_realPart cX2_realPart 4 (some .int), Cond.static yX2_imaginaryPart, Cond.code yX2_imaginaryPart cX2_imaginaryPart 4 (some .int), Cond.methodLink RX0 73 yX0_add, Cond.instanceMethod yX0_add, Cond.selects RX0 yX0_add yX0_add, Cond.code yX0_add cX0_add 2 none, Cond.fieldLink RX0 9 "PlateBeats$Group" "norms" "[I", Cond.instanceMethod yX0_sort, Cond.selects RX0 yX0_sort yX0_sort, Cond.code yX0_sort cX0_sort 4 none, Cond.instanceMethod yX0_normAt, Cond.selects RX0 yX0_normAt yX0_normAt, Cond.code yX0_normAt cX0_normAt 4 (some .int), Cond.instanceMethod yX0_period, Cond.selects RX0 yX0_period yX0_period, Cond.code yX0_period cX0_period 2 (some .int), Cond.static yX2_root, Cond.code yX2_root cX2_root 6 (some .int)]
def wsX2_beatPeriod : List Cond := .code yX2_beatPeriod cX2_beatPeriod 5 (some .int) :: ((wsX2_beatPeriod_r1 ++ (wsX2_beatPeriod_r2 ++ wsX2_beatPeriod_r3)) ++ wsX20 ++ wsX10 ++ wsX00)
def wsX2_locked_r1 : List Cond := [Cond.fieldLink RX2 10 "PlateBeats" "present" "LPlateBeats$State;", Cond.fieldLink RX2 33 "PlateBeats" "group" "LPlateBeats$Group;", Cond.instanceMethod yX1_hasPair, Cond.initialized RX1, Cond.selects RX1 yX1_hasPair yX1_hasPair, Cond.code yX1_hasPair cX1_hasPair 3 (some .boolean), Cond.methodLink RX1 31 yX1_has, Cond.instanceMethod yX1_has, Cond.selects RX1 yX1_has yX1_has, Cond.code yX1_has cX1_has 2 (some .boolean), Cond.fieldLink RX1 18 "PlateBeats$State" "count" "I", Cond.instanceMethod yX0_fillPair, Cond.initialized RX0, Cond.selects RX0 yX0_fillPair yX0_fillPair, Cond.code yX0_fillPair cX0_fillPair 6 none, Cond.methodLink RX0 49 yX0_startPair, Cond.instanceMethod yX0_startPair, Cond.selects RX0 yX0_startPair yX0_startPair, Cond.code yX0_startPair cX0_startPair 4 none, Cond.instanceMethod yX1_areaOf, Cond.selects RX1 yX1_areaOf yX1_areaOf, Cond.code yX1_areaOf cX1_areaOf 2 (some .int), Cond.fieldLink RX1 9 "PlateBeats$State" "p" "[I", Cond.fieldLink RX1 15 "PlateBeats$State" "q" "[I"]
def wsX2_locked_r2 : List Cond := [Cond.methodLink RX0 31 yX0_start, Cond.instanceMethod yX0_start, Cond.selects RX0 yX0_start yX0_start, Cond.code yX0_start cX0_start 8 none, Cond.fieldLink RX0 35 "PlateBeats$Group" "size" "I", Cond.fieldLink RX0 15 "PlateBeats$Group" "areas" "J", Cond.fieldLink RX0 19 "PlateBeats$Group" "leastFine" "J", Cond.fieldLink RX0 22 "PlateBeats$Group" "greatestLong" "J", Cond.static yX2_divided, Cond.initialized RX2, Cond.code yX2_divided cX2_divided 4 (some .long), Cond.methodLink RX0 56 yX0_addAllFor, Cond.instanceMethod yX0_addAllFor, Cond.selects RX0 yX0_addAllFor yX0_addAllFor, Cond.code yX0_addAllFor cX0_addAllFor 14 none, Cond.instanceMethod yX1_pOf, Cond.selects RX1 yX1_pOf yX1_pOf, Cond.code yX1_pOf cX1_pOf 2 (some .int), Cond.instanceMethod yX1_qOf, Cond.selects RX1 yX1_qOf yX1_qOf, Cond.code yX1_qOf cX1_qOf 2 (some .int), Cond.static yX2_realPart, Cond.code yX2_realPart cX2_realPart 4 (some .int), Cond.static yX2_imaginaryPart]
def wsX2_locked_r3 : List Cond := [Cond.code yX2_imaginaryPart cX2_imaginaryPart 4 (some .int), Cond.methodLink RX0 73 yX0_add, Cond.instanceMethod yX0_add, Cond.selects RX0 yX0_add yX0_add, Cond.code yX0_add cX0_add 2 none, Cond.fieldLink RX0 9 "PlateBeats$Group" "norms" "[I", Cond.instanceMethod yX0_combinationsWith, Cond.selects RX0 yX0_combinationsWith yX0_combinationsWith, Cond.code yX0_combinationsWith cX0_combinationsWith 4 (some .int)]
def wsX2_locked : List Cond := .code yX2_locked cX2_locked 3 (some .int) :: ((wsX2_locked_r1 ++ (wsX2_locked_r2 ++ wsX2_locked_r3)) ++ wsX20 ++ wsX10 ++ wsX00)
def wsX2_pairBands_r1 : List Cond := [Cond.fieldLink RX2 33 "PlateBeats" "group" "LPlateBeats$Group;", Cond.fieldLink RX2 10 "PlateBeats" "present" "LPlateBeats$State;", Cond.instanceMethod yX0_fillPair, Cond.initialized RX0, Cond.selects RX0 yX0_fillPair yX0_fillPair, Cond.code yX0_fillPair cX0_fillPair 6 none, Cond.methodLink RX0 49 yX0_startPair, Cond.instanceMethod yX0_startPair, Cond.selects RX0 yX0_startPair yX0_startPair, Cond.code yX0_startPair cX0_startPair 4 none, Cond.instanceMethod yX1_areaOf, Cond.initialized RX1, Cond.selects RX1 yX1_areaOf yX1_areaOf, Cond.code yX1_areaOf cX1_areaOf 2 (some .int), Cond.fieldLink RX1 9 "PlateBeats$State" "p" "[I", Cond.fieldLink RX1 15 "PlateBeats$State" "q" "[I", Cond.methodLink RX1 31 yX1_has, Cond.instanceMethod yX1_has, Cond.selects RX1 yX1_has yX1_has, Cond.code yX1_has cX1_has 2 (some .boolean), Cond.fieldLink RX1 18 "PlateBeats$State" "count" "I", Cond.methodLink RX0 31 yX0_start, Cond.instanceMethod yX0_start, Cond.selects RX0 yX0_start yX0_start]
def wsX2_pairBands_r2 : List Cond := [Cond.code yX0_start cX0_start 8 none, Cond.fieldLink RX0 35 "PlateBeats$Group" "size" "I", Cond.fieldLink RX0 15 "PlateBeats$Group" "areas" "J", Cond.fieldLink RX0 19 "PlateBeats$Group" "leastFine" "J", Cond.fieldLink RX0 22 "PlateBeats$Group" "greatestLong" "J", Cond.static yX2_divided, Cond.initialized RX2, Cond.code yX2_divided cX2_divided 4 (some .long), Cond.methodLink RX0 56 yX0_addAllFor, Cond.instanceMethod yX0_addAllFor, Cond.selects RX0 yX0_addAllFor yX0_addAllFor, Cond.code yX0_addAllFor cX0_addAllFor 14 none, Cond.instanceMethod yX1_pOf, Cond.selects RX1 yX1_pOf yX1_pOf, Cond.code yX1_pOf cX1_pOf 2 (some .int), Cond.instanceMethod yX1_qOf, Cond.selects RX1 yX1_qOf yX1_qOf, Cond.code yX1_qOf cX1_qOf 2 (some .int), Cond.static yX2_realPart, Cond.code yX2_realPart cX2_realPart 4 (some .int), Cond.static yX2_imaginaryPart, Cond.code yX2_imaginaryPart cX2_imaginaryPart 4 (some .int), Cond.methodLink RX0 73 yX0_add, Cond.instanceMethod yX0_add]
def wsX2_pairBands_r3 : List Cond := [Cond.selects RX0 yX0_add yX0_add, Cond.code yX0_add cX0_add 2 none, Cond.fieldLink RX0 9 "PlateBeats$Group" "norms" "[I", Cond.instanceMethod yX0_bandCount, Cond.selects RX0 yX0_bandCount yX0_bandCount, Cond.code yX0_bandCount cX0_bandCount 3 (some .int), Cond.methodLink RX0 95 yX0_kindOf, Cond.instanceMethod yX0_kindOf, Cond.selects RX0 yX0_kindOf yX0_kindOf, Cond.code yX0_kindOf cX0_kindOf 2 (some .int)]
def wsX2_pairBands : List Cond := .code yX2_pairBands cX2_pairBands 3 (some .int) :: ((wsX2_pairBands_r1 ++ (wsX2_pairBands_r2 ++ wsX2_pairBands_r3)) ++ wsX20 ++ wsX10 ++ wsX00)
def wsX2_bands_r1 : List Cond := [Cond.fieldLink RX2 10 "PlateBeats" "present" "LPlateBeats$State;", Cond.instanceMethod yX1_hasPair, Cond.initialized RX1, Cond.selects RX1 yX1_hasPair yX1_hasPair, Cond.code yX1_hasPair cX1_hasPair 3 (some .boolean), Cond.methodLink RX1 31 yX1_has, Cond.instanceMethod yX1_has, Cond.selects RX1 yX1_has yX1_has, Cond.code yX1_has cX1_has 2 (some .boolean), Cond.fieldLink RX1 18 "PlateBeats$State" "count" "I", Cond.methodLink RX2 143 yX2_pairBands, Cond.instanceMethod yX2_pairBands, Cond.selects RX2 yX2_pairBands yX2_pairBands, Cond.initialized RX2, Cond.code yX2_pairBands cX2_pairBands 3 (some .int), Cond.fieldLink RX2 33 "PlateBeats" "group" "LPlateBeats$Group;", Cond.instanceMethod yX0_fillPair, Cond.initialized RX0, Cond.selects RX0 yX0_fillPair yX0_fillPair, Cond.code yX0_fillPair cX0_fillPair 6 none, Cond.methodLink RX0 49 yX0_startPair, Cond.instanceMethod yX0_startPair, Cond.selects RX0 yX0_startPair yX0_startPair, Cond.code yX0_startPair cX0_startPair 4 none]
def wsX2_bands_r2 : List Cond := [Cond.instanceMethod yX1_areaOf, Cond.selects RX1 yX1_areaOf yX1_areaOf, Cond.code yX1_areaOf cX1_areaOf 2 (some .int), Cond.fieldLink RX1 9 "PlateBeats$State" "p" "[I", Cond.fieldLink RX1 15 "PlateBeats$State" "q" "[I", Cond.methodLink RX0 31 yX0_start, Cond.instanceMethod yX0_start, Cond.selects RX0 yX0_start yX0_start, Cond.code yX0_start cX0_start 8 none, Cond.fieldLink RX0 35 "PlateBeats$Group" "size" "I", Cond.fieldLink RX0 15 "PlateBeats$Group" "areas" "J", Cond.fieldLink RX0 19 "PlateBeats$Group" "leastFine" "J", Cond.fieldLink RX0 22 "PlateBeats$Group" "greatestLong" "J", Cond.static yX2_divided, Cond.code yX2_divided cX2_divided 4 (some .long), Cond.methodLink RX0 56 yX0_addAllFor, Cond.instanceMethod yX0_addAllFor, Cond.selects RX0 yX0_addAllFor yX0_addAllFor, Cond.code yX0_addAllFor cX0_addAllFor 14 none, Cond.instanceMethod yX1_pOf, Cond.selects RX1 yX1_pOf yX1_pOf, Cond.code yX1_pOf cX1_pOf 2 (some .int), Cond.instanceMethod yX1_qOf, Cond.selects RX1 yX1_qOf yX1_qOf]
def wsX2_bands_r3 : List Cond := [Cond.code yX1_qOf cX1_qOf 2 (some .int), Cond.static yX2_realPart, Cond.code yX2_realPart cX2_realPart 4 (some .int), Cond.static yX2_imaginaryPart, Cond.code yX2_imaginaryPart cX2_imaginaryPart 4 (some .int), Cond.methodLink RX0 73 yX0_add, Cond.instanceMethod yX0_add, Cond.selects RX0 yX0_add yX0_add, Cond.code yX0_add cX0_add 2 none, Cond.fieldLink RX0 9 "PlateBeats$Group" "norms" "[I", Cond.instanceMethod yX0_bandCount, Cond.selects RX0 yX0_bandCount yX0_bandCount, Cond.code yX0_bandCount cX0_bandCount 3 (some .int), Cond.methodLink RX0 95 yX0_kindOf, Cond.instanceMethod yX0_kindOf, Cond.selects RX0 yX0_kindOf yX0_kindOf, Cond.code yX0_kindOf cX0_kindOf 2 (some .int)]
def wsX2_bands : List Cond := .code yX2_bands cX2_bands 3 (some .int) :: ((wsX2_bands_r1 ++ (wsX2_bands_r2 ++ wsX2_bands_r3)) ++ wsX20 ++ wsX10 ++ wsX00)
def wsX2_tripleBands_r1 : List Cond := [Cond.fieldLink RX2 10 "PlateBeats" "present" "LPlateBeats$State;", Cond.fieldLink RX2 33 "PlateBeats" "group" "LPlateBeats$Group;", Cond.instanceMethod yX1_hasPair, Cond.initialized RX1, Cond.selects RX1 yX1_hasPair yX1_hasPair, Cond.code yX1_hasPair cX1_hasPair 3 (some .boolean), Cond.methodLink RX1 31 yX1_has, Cond.instanceMethod yX1_has, Cond.selects RX1 yX1_has yX1_has, Cond.code yX1_has cX1_has 2 (some .boolean), Cond.fieldLink RX1 18 "PlateBeats$State" "count" "I", Cond.instanceMethod yX0_fillTriple, Cond.initialized RX0, Cond.selects RX0 yX0_fillTriple yX0_fillTriple, Cond.code yX0_fillTriple cX0_fillTriple 16 none, Cond.instanceMethod yX1_areaOf, Cond.selects RX1 yX1_areaOf yX1_areaOf, Cond.code yX1_areaOf cX1_areaOf 2 (some .int), Cond.fieldLink RX1 9 "PlateBeats$State" "p" "[I", Cond.fieldLink RX1 15 "PlateBeats$State" "q" "[I", Cond.methodLink RX0 31 yX0_start, Cond.instanceMethod yX0_start, Cond.selects RX0 yX0_start yX0_start, Cond.code yX0_start cX0_start 8 none]
def wsX2_tripleBands_r2 : List Cond := [Cond.fieldLink RX0 35 "PlateBeats$Group" "size" "I", Cond.fieldLink RX0 15 "PlateBeats$Group" "areas" "J", Cond.fieldLink RX0 19 "PlateBeats$Group" "leastFine" "J", Cond.fieldLink RX0 22 "PlateBeats$Group" "greatestLong" "J", Cond.static yX2_divided, Cond.initialized RX2, Cond.code yX2_divided cX2_divided 4 (some .long), Cond.methodLink RX0 77 yX0_productReal, Cond.static yX0_productReal, Cond.code yX0_productReal cX0_productReal 3 (some .int), Cond.instanceMethod yX1_pOf, Cond.selects RX1 yX1_pOf yX1_pOf, Cond.code yX1_pOf cX1_pOf 2 (some .int), Cond.instanceMethod yX1_qOf, Cond.selects RX1 yX1_qOf yX1_qOf, Cond.code yX1_qOf cX1_qOf 2 (some .int), Cond.methodLink RX0 81 yX0_productImaginary, Cond.static yX0_productImaginary, Cond.code yX0_productImaginary cX0_productImaginary 3 (some .int), Cond.methodLink RX0 73 yX0_add, Cond.instanceMethod yX0_add, Cond.selects RX0 yX0_add yX0_add, Cond.code yX0_add cX0_add 2 none, Cond.fieldLink RX0 9 "PlateBeats$Group" "norms" "[I"]
def wsX2_tripleBands_r3 : List Cond := [Cond.instanceMethod yX0_bandCount, Cond.selects RX0 yX0_bandCount yX0_bandCount, Cond.code yX0_bandCount cX0_bandCount 3 (some .int), Cond.methodLink RX0 95 yX0_kindOf, Cond.instanceMethod yX0_kindOf, Cond.selects RX0 yX0_kindOf yX0_kindOf, Cond.code yX0_kindOf cX0_kindOf 2 (some .int)]
def wsX2_tripleBands : List Cond := .code yX2_tripleBands cX2_tripleBands 4 (some .int) :: ((wsX2_tripleBands_r1 ++ (wsX2_tripleBands_r2 ++ wsX2_tripleBands_r3)) ++ wsX20 ++ wsX10 ++ wsX00)
def wsX2_bandsOfGroups_r1 : List Cond := [Cond.fieldLink RX2 164 "PlateBeats" "GROUPS" "[I", Cond.fieldLink RX2 33 "PlateBeats" "group" "LPlateBeats$Group;", Cond.instanceMethod yX1_hasAll, Cond.initialized RX1, Cond.selects RX1 yX1_hasAll yX1_hasAll, Cond.code yX1_hasAll cX1_hasAll 2 (some .boolean), Cond.fieldLink RX1 18 "PlateBeats$State" "count" "I", Cond.instanceMethod yX0_fillPlates, Cond.initialized RX0, Cond.selects RX0 yX0_fillPlates yX0_fillPlates, Cond.code yX0_fillPlates cX0_fillPlates 6 none, Cond.methodLink RX0 84 yX0_firstPlate, Cond.static yX0_firstPlate, Cond.code yX0_firstPlate cX0_firstPlate 3 (some .int), Cond.methodLink RX0 88 yX0_fillTriple, Cond.instanceMethod yX0_fillTriple, Cond.selects RX0 yX0_fillTriple yX0_fillTriple, Cond.code yX0_fillTriple cX0_fillTriple 16 none, Cond.instanceMethod yX1_areaOf, Cond.selects RX1 yX1_areaOf yX1_areaOf, Cond.code yX1_areaOf cX1_areaOf 2 (some .int), Cond.fieldLink RX1 9 "PlateBeats$State" "p" "[I", Cond.fieldLink RX1 15 "PlateBeats$State" "q" "[I", Cond.methodLink RX1 31 yX1_has]
def wsX2_bandsOfGroups_r2 : List Cond := [Cond.instanceMethod yX1_has, Cond.selects RX1 yX1_has yX1_has, Cond.code yX1_has cX1_has 2 (some .boolean), Cond.methodLink RX0 31 yX0_start, Cond.instanceMethod yX0_start, Cond.selects RX0 yX0_start yX0_start, Cond.code yX0_start cX0_start 8 none, Cond.fieldLink RX0 35 "PlateBeats$Group" "size" "I", Cond.fieldLink RX0 15 "PlateBeats$Group" "areas" "J", Cond.fieldLink RX0 19 "PlateBeats$Group" "leastFine" "J", Cond.fieldLink RX0 22 "PlateBeats$Group" "greatestLong" "J", Cond.static yX2_divided, Cond.initialized RX2, Cond.code yX2_divided cX2_divided 4 (some .long), Cond.methodLink RX0 77 yX0_productReal, Cond.static yX0_productReal, Cond.code yX0_productReal cX0_productReal 3 (some .int), Cond.instanceMethod yX1_pOf, Cond.selects RX1 yX1_pOf yX1_pOf, Cond.code yX1_pOf cX1_pOf 2 (some .int), Cond.instanceMethod yX1_qOf, Cond.selects RX1 yX1_qOf yX1_qOf, Cond.code yX1_qOf cX1_qOf 2 (some .int), Cond.methodLink RX0 81 yX0_productImaginary]
def wsX2_bandsOfGroups_r3 : List Cond := [Cond.static yX0_productImaginary, Cond.code yX0_productImaginary cX0_productImaginary 3 (some .int), Cond.methodLink RX0 73 yX0_add, Cond.instanceMethod yX0_add, Cond.selects RX0 yX0_add yX0_add, Cond.code yX0_add cX0_add 2 none, Cond.fieldLink RX0 9 "PlateBeats$Group" "norms" "[I", Cond.methodLink RX0 92 yX0_fillPair, Cond.instanceMethod yX0_fillPair, Cond.selects RX0 yX0_fillPair yX0_fillPair, Cond.code yX0_fillPair cX0_fillPair 6 none, Cond.methodLink RX0 49 yX0_startPair, Cond.instanceMethod yX0_startPair, Cond.selects RX0 yX0_startPair yX0_startPair, Cond.code yX0_startPair cX0_startPair 4 none, Cond.methodLink RX0 56 yX0_addAllFor, Cond.instanceMethod yX0_addAllFor, Cond.selects RX0 yX0_addAllFor yX0_addAllFor, Cond.code yX0_addAllFor cX0_addAllFor 14 none, Cond.static yX2_realPart, Cond.code yX2_realPart cX2_realPart 4 (some .int), Cond.static yX2_imaginaryPart, Cond.code yX2_imaginaryPart cX2_imaginaryPart 4 (some .int), Cond.instanceMethod yX0_bandCount]
def wsX2_bandsOfGroups_r4 : List Cond := [Cond.selects RX0 yX0_bandCount yX0_bandCount, Cond.code yX0_bandCount cX0_bandCount 3 (some .int), Cond.methodLink RX0 95 yX0_kindOf, Cond.instanceMethod yX0_kindOf, Cond.selects RX0 yX0_kindOf yX0_kindOf, Cond.code yX0_kindOf cX0_kindOf 2 (some .int)]
def wsX2_bandsOfGroups : List Cond := .code yX2_bandsOfGroups cX2_bandsOfGroups 6 (some .int) :: ((wsX2_bandsOfGroups_r1 ++ (wsX2_bandsOfGroups_r2 ++ (wsX2_bandsOfGroups_r3 ++ wsX2_bandsOfGroups_r4))) ++ wsX20 ++ wsX10 ++ wsX00)
def wsX2_allBands_r1 : List Cond := [Cond.fieldLink RX2 10 "PlateBeats" "present" "LPlateBeats$State;", Cond.methodLink RX2 160 yX2_bandsOfGroups, Cond.instanceMethod yX2_bandsOfGroups, Cond.selects RX2 yX2_bandsOfGroups yX2_bandsOfGroups, Cond.initialized RX2, Cond.code yX2_bandsOfGroups cX2_bandsOfGroups 6 (some .int), Cond.fieldLink RX2 164 "PlateBeats" "GROUPS" "[I", Cond.fieldLink RX2 33 "PlateBeats" "group" "LPlateBeats$Group;", Cond.instanceMethod yX1_hasAll, Cond.initialized RX1, Cond.selects RX1 yX1_hasAll yX1_hasAll, Cond.code yX1_hasAll cX1_hasAll 2 (some .boolean), Cond.fieldLink RX1 18 "PlateBeats$State" "count" "I", Cond.instanceMethod yX0_fillPlates, Cond.initialized RX0, Cond.selects RX0 yX0_fillPlates yX0_fillPlates, Cond.code yX0_fillPlates cX0_fillPlates 6 none, Cond.methodLink RX0 84 yX0_firstPlate, Cond.static yX0_firstPlate, Cond.code yX0_firstPlate cX0_firstPlate 3 (some .int), Cond.methodLink RX0 88 yX0_fillTriple, Cond.instanceMethod yX0_fillTriple, Cond.selects RX0 yX0_fillTriple yX0_fillTriple, Cond.code yX0_fillTriple cX0_fillTriple 16 none]
def wsX2_allBands_r2 : List Cond := [Cond.instanceMethod yX1_areaOf, Cond.selects RX1 yX1_areaOf yX1_areaOf, Cond.code yX1_areaOf cX1_areaOf 2 (some .int), Cond.fieldLink RX1 9 "PlateBeats$State" "p" "[I", Cond.fieldLink RX1 15 "PlateBeats$State" "q" "[I", Cond.methodLink RX1 31 yX1_has, Cond.instanceMethod yX1_has, Cond.selects RX1 yX1_has yX1_has, Cond.code yX1_has cX1_has 2 (some .boolean), Cond.methodLink RX0 31 yX0_start, Cond.instanceMethod yX0_start, Cond.selects RX0 yX0_start yX0_start, Cond.code yX0_start cX0_start 8 none, Cond.fieldLink RX0 35 "PlateBeats$Group" "size" "I", Cond.fieldLink RX0 15 "PlateBeats$Group" "areas" "J", Cond.fieldLink RX0 19 "PlateBeats$Group" "leastFine" "J", Cond.fieldLink RX0 22 "PlateBeats$Group" "greatestLong" "J", Cond.static yX2_divided, Cond.code yX2_divided cX2_divided 4 (some .long), Cond.methodLink RX0 77 yX0_productReal, Cond.static yX0_productReal, Cond.code yX0_productReal cX0_productReal 3 (some .int), Cond.instanceMethod yX1_pOf, Cond.selects RX1 yX1_pOf yX1_pOf]
def wsX2_allBands_r3 : List Cond := [Cond.code yX1_pOf cX1_pOf 2 (some .int), Cond.instanceMethod yX1_qOf, Cond.selects RX1 yX1_qOf yX1_qOf, Cond.code yX1_qOf cX1_qOf 2 (some .int), Cond.methodLink RX0 81 yX0_productImaginary, Cond.static yX0_productImaginary, Cond.code yX0_productImaginary cX0_productImaginary 3 (some .int), Cond.methodLink RX0 73 yX0_add, Cond.instanceMethod yX0_add, Cond.selects RX0 yX0_add yX0_add, Cond.code yX0_add cX0_add 2 none, Cond.fieldLink RX0 9 "PlateBeats$Group" "norms" "[I", Cond.methodLink RX0 92 yX0_fillPair, Cond.instanceMethod yX0_fillPair, Cond.selects RX0 yX0_fillPair yX0_fillPair, Cond.code yX0_fillPair cX0_fillPair 6 none, Cond.methodLink RX0 49 yX0_startPair, Cond.instanceMethod yX0_startPair, Cond.selects RX0 yX0_startPair yX0_startPair, Cond.code yX0_startPair cX0_startPair 4 none, Cond.methodLink RX0 56 yX0_addAllFor, Cond.instanceMethod yX0_addAllFor, Cond.selects RX0 yX0_addAllFor yX0_addAllFor, Cond.code yX0_addAllFor cX0_addAllFor 14 none]
def wsX2_allBands_r4 : List Cond := [Cond.static yX2_realPart, Cond.code yX2_realPart cX2_realPart 4 (some .int), Cond.static yX2_imaginaryPart, Cond.code yX2_imaginaryPart cX2_imaginaryPart 4 (some .int), Cond.instanceMethod yX0_bandCount, Cond.selects RX0 yX0_bandCount yX0_bandCount, Cond.code yX0_bandCount cX0_bandCount 3 (some .int), Cond.methodLink RX0 95 yX0_kindOf, Cond.instanceMethod yX0_kindOf, Cond.selects RX0 yX0_kindOf yX0_kindOf, Cond.code yX0_kindOf cX0_kindOf 2 (some .int)]
def wsX2_allBands : List Cond := .code yX2_allBands cX2_allBands 1 (some .int) :: ((wsX2_allBands_r1 ++ (wsX2_allBands_r2 ++ (wsX2_allBands_r3 ++ wsX2_allBands_r4))) ++ wsX20 ++ wsX10 ++ wsX00)
def wsX2_worstPeriodOf_r1 : List Cond := [Cond.fieldLink RX2 10 "PlateBeats" "present" "LPlateBeats$State;", Cond.fieldLink RX2 33 "PlateBeats" "group" "LPlateBeats$Group;", Cond.instanceMethod yX1_hasAll, Cond.initialized RX1, Cond.selects RX1 yX1_hasAll yX1_hasAll, Cond.code yX1_hasAll cX1_hasAll 2 (some .boolean), Cond.fieldLink RX1 18 "PlateBeats$State" "count" "I", Cond.instanceMethod yX0_fillPlates, Cond.initialized RX0, Cond.selects RX0 yX0_fillPlates yX0_fillPlates, Cond.code yX0_fillPlates cX0_fillPlates 6 none, Cond.methodLink RX0 84 yX0_firstPlate, Cond.static yX0_firstPlate, Cond.code yX0_firstPlate cX0_firstPlate 3 (some .int), Cond.methodLink RX0 88 yX0_fillTriple, Cond.instanceMethod yX0_fillTriple, Cond.selects RX0 yX0_fillTriple yX0_fillTriple, Cond.code yX0_fillTriple cX0_fillTriple 16 none, Cond.instanceMethod yX1_areaOf, Cond.selects RX1 yX1_areaOf yX1_areaOf, Cond.code yX1_areaOf cX1_areaOf 2 (some .int), Cond.fieldLink RX1 9 "PlateBeats$State" "p" "[I", Cond.fieldLink RX1 15 "PlateBeats$State" "q" "[I", Cond.methodLink RX1 31 yX1_has]
def wsX2_worstPeriodOf_r2 : List Cond := [Cond.instanceMethod yX1_has, Cond.selects RX1 yX1_has yX1_has, Cond.code yX1_has cX1_has 2 (some .boolean), Cond.methodLink RX0 31 yX0_start, Cond.instanceMethod yX0_start, Cond.selects RX0 yX0_start yX0_start, Cond.code yX0_start cX0_start 8 none, Cond.fieldLink RX0 35 "PlateBeats$Group" "size" "I", Cond.fieldLink RX0 15 "PlateBeats$Group" "areas" "J", Cond.fieldLink RX0 19 "PlateBeats$Group" "leastFine" "J", Cond.fieldLink RX0 22 "PlateBeats$Group" "greatestLong" "J", Cond.static yX2_divided, Cond.initialized RX2, Cond.code yX2_divided cX2_divided 4 (some .long), Cond.methodLink RX0 77 yX0_productReal, Cond.static yX0_productReal, Cond.code yX0_productReal cX0_productReal 3 (some .int), Cond.instanceMethod yX1_pOf, Cond.selects RX1 yX1_pOf yX1_pOf, Cond.code yX1_pOf cX1_pOf 2 (some .int), Cond.instanceMethod yX1_qOf, Cond.selects RX1 yX1_qOf yX1_qOf, Cond.code yX1_qOf cX1_qOf 2 (some .int), Cond.methodLink RX0 81 yX0_productImaginary]
def wsX2_worstPeriodOf_r3 : List Cond := [Cond.static yX0_productImaginary, Cond.code yX0_productImaginary cX0_productImaginary 3 (some .int), Cond.methodLink RX0 73 yX0_add, Cond.instanceMethod yX0_add, Cond.selects RX0 yX0_add yX0_add, Cond.code yX0_add cX0_add 2 none, Cond.fieldLink RX0 9 "PlateBeats$Group" "norms" "[I", Cond.methodLink RX0 92 yX0_fillPair, Cond.instanceMethod yX0_fillPair, Cond.selects RX0 yX0_fillPair yX0_fillPair, Cond.code yX0_fillPair cX0_fillPair 6 none, Cond.methodLink RX0 49 yX0_startPair, Cond.instanceMethod yX0_startPair, Cond.selects RX0 yX0_startPair yX0_startPair, Cond.code yX0_startPair cX0_startPair 4 none, Cond.methodLink RX0 56 yX0_addAllFor, Cond.instanceMethod yX0_addAllFor, Cond.selects RX0 yX0_addAllFor yX0_addAllFor, Cond.code yX0_addAllFor cX0_addAllFor 14 none, Cond.static yX2_realPart, Cond.code yX2_realPart cX2_realPart 4 (some .int), Cond.static yX2_imaginaryPart, Cond.code yX2_imaginaryPart cX2_imaginaryPart 4 (some .int), Cond.instanceMethod yX0_worstPeriodFound]
def wsX2_worstPeriodOf_r4 : List Cond := [Cond.selects RX0 yX0_worstPeriodFound yX0_worstPeriodFound, Cond.code yX0_worstPeriodFound cX0_worstPeriodFound 3 (some .int), Cond.methodLink RX0 95 yX0_kindOf, Cond.instanceMethod yX0_kindOf, Cond.selects RX0 yX0_kindOf yX0_kindOf, Cond.code yX0_kindOf cX0_kindOf 2 (some .int), Cond.methodLink RX0 98 yX0_period, Cond.instanceMethod yX0_period, Cond.selects RX0 yX0_period yX0_period, Cond.code yX0_period cX0_period 2 (some .int), Cond.static yX2_root, Cond.code yX2_root cX2_root 6 (some .int)]
def wsX2_worstPeriodOf : List Cond := .code yX2_worstPeriodOf cX2_worstPeriodOf 2 (some .int) :: ((wsX2_worstPeriodOf_r1 ++ (wsX2_worstPeriodOf_r2 ++ (wsX2_worstPeriodOf_r3 ++ wsX2_worstPeriodOf_r4))) ++ wsX20 ++ wsX10 ++ wsX00)
def wsX2_worstPlates_r1 : List Cond := [Cond.fieldLink RX2 164 "PlateBeats" "GROUPS" "[I", Cond.methodLink RX2 168 yX2_worstPeriodOf, Cond.instanceMethod yX2_worstPeriodOf, Cond.selects RX2 yX2_worstPeriodOf yX2_worstPeriodOf, Cond.initialized RX2, Cond.code yX2_worstPeriodOf cX2_worstPeriodOf 2 (some .int), Cond.fieldLink RX2 10 "PlateBeats" "present" "LPlateBeats$State;", Cond.fieldLink RX2 33 "PlateBeats" "group" "LPlateBeats$Group;", Cond.instanceMethod yX1_hasAll, Cond.initialized RX1, Cond.selects RX1 yX1_hasAll yX1_hasAll, Cond.code yX1_hasAll cX1_hasAll 2 (some .boolean), Cond.fieldLink RX1 18 "PlateBeats$State" "count" "I", Cond.instanceMethod yX0_fillPlates, Cond.initialized RX0, Cond.selects RX0 yX0_fillPlates yX0_fillPlates, Cond.code yX0_fillPlates cX0_fillPlates 6 none, Cond.methodLink RX0 84 yX0_firstPlate, Cond.static yX0_firstPlate, Cond.code yX0_firstPlate cX0_firstPlate 3 (some .int), Cond.methodLink RX0 88 yX0_fillTriple, Cond.instanceMethod yX0_fillTriple, Cond.selects RX0 yX0_fillTriple yX0_fillTriple, Cond.code yX0_fillTriple cX0_fillTriple 16 none]
def wsX2_worstPlates_r2 : List Cond := [Cond.instanceMethod yX1_areaOf, Cond.selects RX1 yX1_areaOf yX1_areaOf, Cond.code yX1_areaOf cX1_areaOf 2 (some .int), Cond.fieldLink RX1 9 "PlateBeats$State" "p" "[I", Cond.fieldLink RX1 15 "PlateBeats$State" "q" "[I", Cond.methodLink RX1 31 yX1_has, Cond.instanceMethod yX1_has, Cond.selects RX1 yX1_has yX1_has, Cond.code yX1_has cX1_has 2 (some .boolean), Cond.methodLink RX0 31 yX0_start, Cond.instanceMethod yX0_start, Cond.selects RX0 yX0_start yX0_start, Cond.code yX0_start cX0_start 8 none, Cond.fieldLink RX0 35 "PlateBeats$Group" "size" "I", Cond.fieldLink RX0 15 "PlateBeats$Group" "areas" "J", Cond.fieldLink RX0 19 "PlateBeats$Group" "leastFine" "J", Cond.fieldLink RX0 22 "PlateBeats$Group" "greatestLong" "J", Cond.static yX2_divided, Cond.code yX2_divided cX2_divided 4 (some .long), Cond.methodLink RX0 77 yX0_productReal, Cond.static yX0_productReal, Cond.code yX0_productReal cX0_productReal 3 (some .int), Cond.instanceMethod yX1_pOf, Cond.selects RX1 yX1_pOf yX1_pOf]
def wsX2_worstPlates_r3 : List Cond := [Cond.code yX1_pOf cX1_pOf 2 (some .int), Cond.instanceMethod yX1_qOf, Cond.selects RX1 yX1_qOf yX1_qOf, Cond.code yX1_qOf cX1_qOf 2 (some .int), Cond.methodLink RX0 81 yX0_productImaginary, Cond.static yX0_productImaginary, Cond.code yX0_productImaginary cX0_productImaginary 3 (some .int), Cond.methodLink RX0 73 yX0_add, Cond.instanceMethod yX0_add, Cond.selects RX0 yX0_add yX0_add, Cond.code yX0_add cX0_add 2 none, Cond.fieldLink RX0 9 "PlateBeats$Group" "norms" "[I", Cond.methodLink RX0 92 yX0_fillPair, Cond.instanceMethod yX0_fillPair, Cond.selects RX0 yX0_fillPair yX0_fillPair, Cond.code yX0_fillPair cX0_fillPair 6 none, Cond.methodLink RX0 49 yX0_startPair, Cond.instanceMethod yX0_startPair, Cond.selects RX0 yX0_startPair yX0_startPair, Cond.code yX0_startPair cX0_startPair 4 none, Cond.methodLink RX0 56 yX0_addAllFor, Cond.instanceMethod yX0_addAllFor, Cond.selects RX0 yX0_addAllFor yX0_addAllFor, Cond.code yX0_addAllFor cX0_addAllFor 14 none]
def wsX2_worstPlates_r4 : List Cond := [Cond.static yX2_realPart, Cond.code yX2_realPart cX2_realPart 4 (some .int), Cond.static yX2_imaginaryPart, Cond.code yX2_imaginaryPart cX2_imaginaryPart 4 (some .int), Cond.instanceMethod yX0_worstPeriodFound, Cond.selects RX0 yX0_worstPeriodFound yX0_worstPeriodFound, Cond.code yX0_worstPeriodFound cX0_worstPeriodFound 3 (some .int), Cond.methodLink RX0 95 yX0_kindOf, Cond.instanceMethod yX0_kindOf, Cond.selects RX0 yX0_kindOf yX0_kindOf, Cond.code yX0_kindOf cX0_kindOf 2 (some .int), Cond.methodLink RX0 98 yX0_period, Cond.instanceMethod yX0_period, Cond.selects RX0 yX0_period yX0_period, Cond.code yX0_period cX0_period 2 (some .int), Cond.static yX2_root, Cond.code yX2_root cX2_root 6 (some .int)]
def wsX2_worstPlates : List Cond := .code yX2_worstPlates cX2_worstPlates 5 (some .int) :: ((wsX2_worstPlates_r1 ++ (wsX2_worstPlates_r2 ++ (wsX2_worstPlates_r3 ++ wsX2_worstPlates_r4))) ++ wsX20 ++ wsX10 ++ wsX00)
def wsX2_worstPeriod_r1 : List Cond := [Cond.methodLink RX2 171 yX2_worstPlates, Cond.instanceMethod yX2_worstPlates, Cond.selects RX2 yX2_worstPlates yX2_worstPlates, Cond.initialized RX2, Cond.code yX2_worstPlates cX2_worstPlates 5 (some .int), Cond.fieldLink RX2 164 "PlateBeats" "GROUPS" "[I", Cond.methodLink RX2 168 yX2_worstPeriodOf, Cond.instanceMethod yX2_worstPeriodOf, Cond.selects RX2 yX2_worstPeriodOf yX2_worstPeriodOf, Cond.code yX2_worstPeriodOf cX2_worstPeriodOf 2 (some .int), Cond.fieldLink RX2 10 "PlateBeats" "present" "LPlateBeats$State;", Cond.fieldLink RX2 33 "PlateBeats" "group" "LPlateBeats$Group;", Cond.instanceMethod yX1_hasAll, Cond.initialized RX1, Cond.selects RX1 yX1_hasAll yX1_hasAll, Cond.code yX1_hasAll cX1_hasAll 2 (some .boolean), Cond.fieldLink RX1 18 "PlateBeats$State" "count" "I", Cond.instanceMethod yX0_fillPlates, Cond.initialized RX0, Cond.selects RX0 yX0_fillPlates yX0_fillPlates, Cond.code yX0_fillPlates cX0_fillPlates 6 none, Cond.methodLink RX0 84 yX0_firstPlate, Cond.static yX0_firstPlate, Cond.code yX0_firstPlate cX0_firstPlate 3 (some .int)]
def wsX2_worstPeriod_r2 : List Cond := [Cond.methodLink RX0 88 yX0_fillTriple, Cond.instanceMethod yX0_fillTriple, Cond.selects RX0 yX0_fillTriple yX0_fillTriple, Cond.code yX0_fillTriple cX0_fillTriple 16 none, Cond.instanceMethod yX1_areaOf, Cond.selects RX1 yX1_areaOf yX1_areaOf, Cond.code yX1_areaOf cX1_areaOf 2 (some .int), Cond.fieldLink RX1 9 "PlateBeats$State" "p" "[I", Cond.fieldLink RX1 15 "PlateBeats$State" "q" "[I", Cond.methodLink RX1 31 yX1_has, Cond.instanceMethod yX1_has, Cond.selects RX1 yX1_has yX1_has, Cond.code yX1_has cX1_has 2 (some .boolean), Cond.methodLink RX0 31 yX0_start, Cond.instanceMethod yX0_start, Cond.selects RX0 yX0_start yX0_start, Cond.code yX0_start cX0_start 8 none, Cond.fieldLink RX0 35 "PlateBeats$Group" "size" "I", Cond.fieldLink RX0 15 "PlateBeats$Group" "areas" "J", Cond.fieldLink RX0 19 "PlateBeats$Group" "leastFine" "J", Cond.fieldLink RX0 22 "PlateBeats$Group" "greatestLong" "J", Cond.static yX2_divided, Cond.code yX2_divided cX2_divided 4 (some .long), Cond.methodLink RX0 77 yX0_productReal]
def wsX2_worstPeriod_r3 : List Cond := [Cond.static yX0_productReal, Cond.code yX0_productReal cX0_productReal 3 (some .int), Cond.instanceMethod yX1_pOf, Cond.selects RX1 yX1_pOf yX1_pOf, Cond.code yX1_pOf cX1_pOf 2 (some .int), Cond.instanceMethod yX1_qOf, Cond.selects RX1 yX1_qOf yX1_qOf, Cond.code yX1_qOf cX1_qOf 2 (some .int), Cond.methodLink RX0 81 yX0_productImaginary, Cond.static yX0_productImaginary, Cond.code yX0_productImaginary cX0_productImaginary 3 (some .int), Cond.methodLink RX0 73 yX0_add, Cond.instanceMethod yX0_add, Cond.selects RX0 yX0_add yX0_add, Cond.code yX0_add cX0_add 2 none, Cond.fieldLink RX0 9 "PlateBeats$Group" "norms" "[I", Cond.methodLink RX0 92 yX0_fillPair, Cond.instanceMethod yX0_fillPair, Cond.selects RX0 yX0_fillPair yX0_fillPair, Cond.code yX0_fillPair cX0_fillPair 6 none, Cond.methodLink RX0 49 yX0_startPair, Cond.instanceMethod yX0_startPair, Cond.selects RX0 yX0_startPair yX0_startPair, Cond.code yX0_startPair cX0_startPair 4 none]
def wsX2_worstPeriod_r4 : List Cond := [Cond.methodLink RX0 56 yX0_addAllFor, Cond.instanceMethod yX0_addAllFor, Cond.selects RX0 yX0_addAllFor yX0_addAllFor, Cond.code yX0_addAllFor cX0_addAllFor 14 none, Cond.static yX2_realPart, Cond.code yX2_realPart cX2_realPart 4 (some .int), Cond.static yX2_imaginaryPart, Cond.code yX2_imaginaryPart cX2_imaginaryPart 4 (some .int), Cond.instanceMethod yX0_worstPeriodFound, Cond.selects RX0 yX0_worstPeriodFound yX0_worstPeriodFound, Cond.code yX0_worstPeriodFound cX0_worstPeriodFound 3 (some .int), Cond.methodLink RX0 95 yX0_kindOf, Cond.instanceMethod yX0_kindOf, Cond.selects RX0 yX0_kindOf yX0_kindOf, Cond.code yX0_kindOf cX0_kindOf 2 (some .int), Cond.methodLink RX0 98 yX0_period, Cond.instanceMethod yX0_period, Cond.selects RX0 yX0_period yX0_period, Cond.code yX0_period cX0_period 2 (some .int), Cond.static yX2_root, Cond.code yX2_root cX2_root 6 (some .int)]
def wsX2_worstPeriod : List Cond := .code yX2_worstPeriod cX2_worstPeriod 2 (some .int) :: ((wsX2_worstPeriod_r1 ++ (wsX2_worstPeriod_r2 ++ (wsX2_worstPeriod_r3 ++ wsX2_worstPeriod_r4))) ++ wsX20 ++ wsX10 ++ wsX00)
def wsX2_worstPair_r1 : List Cond := [Cond.fieldLink RX2 10 "PlateBeats" "present" "LPlateBeats$State;", Cond.methodLink RX2 143 yX2_pairBands, Cond.instanceMethod yX2_pairBands, Cond.selects RX2 yX2_pairBands yX2_pairBands, Cond.initialized RX2, Cond.code yX2_pairBands cX2_pairBands 3 (some .int), Cond.fieldLink RX2 33 "PlateBeats" "group" "LPlateBeats$Group;", Cond.instanceMethod yX0_fillPair, Cond.initialized RX0, Cond.selects RX0 yX0_fillPair yX0_fillPair, Cond.code yX0_fillPair cX0_fillPair 6 none, Cond.methodLink RX0 49 yX0_startPair, Cond.instanceMethod yX0_startPair, Cond.selects RX0 yX0_startPair yX0_startPair, Cond.code yX0_startPair cX0_startPair 4 none, Cond.instanceMethod yX1_areaOf, Cond.initialized RX1, Cond.selects RX1 yX1_areaOf yX1_areaOf, Cond.code yX1_areaOf cX1_areaOf 2 (some .int), Cond.fieldLink RX1 9 "PlateBeats$State" "p" "[I", Cond.fieldLink RX1 15 "PlateBeats$State" "q" "[I", Cond.methodLink RX1 31 yX1_has, Cond.instanceMethod yX1_has, Cond.selects RX1 yX1_has yX1_has]
def wsX2_worstPair_r2 : List Cond := [Cond.code yX1_has cX1_has 2 (some .boolean), Cond.fieldLink RX1 18 "PlateBeats$State" "count" "I", Cond.methodLink RX0 31 yX0_start, Cond.instanceMethod yX0_start, Cond.selects RX0 yX0_start yX0_start, Cond.code yX0_start cX0_start 8 none, Cond.fieldLink RX0 35 "PlateBeats$Group" "size" "I", Cond.fieldLink RX0 15 "PlateBeats$Group" "areas" "J", Cond.fieldLink RX0 19 "PlateBeats$Group" "leastFine" "J", Cond.fieldLink RX0 22 "PlateBeats$Group" "greatestLong" "J", Cond.static yX2_divided, Cond.code yX2_divided cX2_divided 4 (some .long), Cond.methodLink RX0 56 yX0_addAllFor, Cond.instanceMethod yX0_addAllFor, Cond.selects RX0 yX0_addAllFor yX0_addAllFor, Cond.code yX0_addAllFor cX0_addAllFor 14 none, Cond.instanceMethod yX1_pOf, Cond.selects RX1 yX1_pOf yX1_pOf, Cond.code yX1_pOf cX1_pOf 2 (some .int), Cond.instanceMethod yX1_qOf, Cond.selects RX1 yX1_qOf yX1_qOf, Cond.code yX1_qOf cX1_qOf 2 (some .int), Cond.static yX2_realPart, Cond.code yX2_realPart cX2_realPart 4 (some .int)]
def wsX2_worstPair_r3 : List Cond := [Cond.static yX2_imaginaryPart, Cond.code yX2_imaginaryPart cX2_imaginaryPart 4 (some .int), Cond.methodLink RX0 73 yX0_add, Cond.instanceMethod yX0_add, Cond.selects RX0 yX0_add yX0_add, Cond.code yX0_add cX0_add 2 none, Cond.fieldLink RX0 9 "PlateBeats$Group" "norms" "[I", Cond.instanceMethod yX0_bandCount, Cond.selects RX0 yX0_bandCount yX0_bandCount, Cond.code yX0_bandCount cX0_bandCount 3 (some .int), Cond.methodLink RX0 95 yX0_kindOf, Cond.instanceMethod yX0_kindOf, Cond.selects RX0 yX0_kindOf yX0_kindOf, Cond.code yX0_kindOf cX0_kindOf 2 (some .int)]
def wsX2_worstPair : List Cond := .code yX2_worstPair cX2_worstPair 6 (some .int) :: ((wsX2_worstPair_r1 ++ (wsX2_worstPair_r2 ++ wsX2_worstPair_r3)) ++ wsX20 ++ wsX10 ++ wsX00)
def wsX2_isRange : List Cond := .code yX2_isRange cX2_isRange 2 (some .boolean) :: ([])
def wsX2_search_r1 : List Cond := [Cond.fieldLink RX2 10 "PlateBeats" "present" "LPlateBeats$State;", Cond.fieldLink RX2 16 "PlateBeats" "trial" "LPlateBeats$State;", Cond.methodLink RX2 194 Lib.Math.abs.name, Cond.static Lib.Math.abs.name, Cond.initialized "java/lang/Math", Cond.code Lib.Math.abs.name Lib.Math.abs.code 1 (some .int), Cond.methodLink RX2 190 yX2_copy, Cond.static yX2_copy, Cond.initialized RX2, Cond.code yX2_copy cX2_copy 3 none, Cond.instanceMethod yX1_put, Cond.initialized RX1, Cond.selects RX1 yX1_put yX1_put, Cond.code yX1_put cX1_put 4 none, Cond.fieldLink RX1 9 "PlateBeats$State" "p" "[I", Cond.fieldLink RX1 15 "PlateBeats$State" "q" "[I", Cond.methodLink RX1 31 yX1_has, Cond.instanceMethod yX1_has, Cond.selects RX1 yX1_has yX1_has, Cond.code yX1_has cX1_has 2 (some .boolean), Cond.fieldLink RX1 18 "PlateBeats$State" "count" "I", Cond.methodLink RX2 160 yX2_bandsOfGroups, Cond.instanceMethod yX2_bandsOfGroups, Cond.selects RX2 yX2_bandsOfGroups yX2_bandsOfGroups]
def wsX2_search_r2 : List Cond := [Cond.code yX2_bandsOfGroups cX2_bandsOfGroups 6 (some .int), Cond.fieldLink RX2 164 "PlateBeats" "GROUPS" "[I", Cond.fieldLink RX2 33 "PlateBeats" "group" "LPlateBeats$Group;", Cond.instanceMethod yX1_hasAll, Cond.selects RX1 yX1_hasAll yX1_hasAll, Cond.code yX1_hasAll cX1_hasAll 2 (some .boolean), Cond.instanceMethod yX0_fillPlates, Cond.initialized RX0, Cond.selects RX0 yX0_fillPlates yX0_fillPlates, Cond.code yX0_fillPlates cX0_fillPlates 6 none, Cond.methodLink RX0 84 yX0_firstPlate, Cond.static yX0_firstPlate, Cond.code yX0_firstPlate cX0_firstPlate 3 (some .int), Cond.methodLink RX0 88 yX0_fillTriple, Cond.instanceMethod yX0_fillTriple, Cond.selects RX0 yX0_fillTriple yX0_fillTriple, Cond.code yX0_fillTriple cX0_fillTriple 16 none, Cond.instanceMethod yX1_areaOf, Cond.selects RX1 yX1_areaOf yX1_areaOf, Cond.code yX1_areaOf cX1_areaOf 2 (some .int), Cond.methodLink RX0 31 yX0_start, Cond.instanceMethod yX0_start, Cond.selects RX0 yX0_start yX0_start, Cond.code yX0_start cX0_start 8 none]
def wsX2_search_r3 : List Cond := [Cond.fieldLink RX0 35 "PlateBeats$Group" "size" "I", Cond.fieldLink RX0 15 "PlateBeats$Group" "areas" "J", Cond.fieldLink RX0 19 "PlateBeats$Group" "leastFine" "J", Cond.fieldLink RX0 22 "PlateBeats$Group" "greatestLong" "J", Cond.static yX2_divided, Cond.code yX2_divided cX2_divided 4 (some .long), Cond.methodLink RX0 77 yX0_productReal, Cond.static yX0_productReal, Cond.code yX0_productReal cX0_productReal 3 (some .int), Cond.instanceMethod yX1_pOf, Cond.selects RX1 yX1_pOf yX1_pOf, Cond.code yX1_pOf cX1_pOf 2 (some .int), Cond.instanceMethod yX1_qOf, Cond.selects RX1 yX1_qOf yX1_qOf, Cond.code yX1_qOf cX1_qOf 2 (some .int), Cond.methodLink RX0 81 yX0_productImaginary, Cond.static yX0_productImaginary, Cond.code yX0_productImaginary cX0_productImaginary 3 (some .int), Cond.methodLink RX0 73 yX0_add, Cond.instanceMethod yX0_add, Cond.selects RX0 yX0_add yX0_add, Cond.code yX0_add cX0_add 2 none, Cond.fieldLink RX0 9 "PlateBeats$Group" "norms" "[I", Cond.methodLink RX0 92 yX0_fillPair]
def wsX2_search_r4 : List Cond := [Cond.instanceMethod yX0_fillPair, Cond.selects RX0 yX0_fillPair yX0_fillPair, Cond.code yX0_fillPair cX0_fillPair 6 none, Cond.methodLink RX0 49 yX0_startPair, Cond.instanceMethod yX0_startPair, Cond.selects RX0 yX0_startPair yX0_startPair, Cond.code yX0_startPair cX0_startPair 4 none, Cond.methodLink RX0 56 yX0_addAllFor, Cond.instanceMethod yX0_addAllFor, Cond.selects RX0 yX0_addAllFor yX0_addAllFor, Cond.code yX0_addAllFor cX0_addAllFor 14 none, Cond.static yX2_realPart, Cond.code yX2_realPart cX2_realPart 4 (some .int), Cond.static yX2_imaginaryPart, Cond.code yX2_imaginaryPart cX2_imaginaryPart 4 (some .int), Cond.instanceMethod yX0_bandCount, Cond.selects RX0 yX0_bandCount yX0_bandCount, Cond.code yX0_bandCount cX0_bandCount 3 (some .int), Cond.methodLink RX0 95 yX0_kindOf, Cond.instanceMethod yX0_kindOf, Cond.selects RX0 yX0_kindOf yX0_kindOf, Cond.code yX0_kindOf cX0_kindOf 2 (some .int)]
def wsX2_search : List Cond := .code yX2_search cX2_search 12 (some .int) :: ((wsX2_search_r1 ++ (wsX2_search_r2 ++ (wsX2_search_r3 ++ wsX2_search_r4))) ++ wsX20 ++ wsX10 ++ wsX00)
def wsX2_bestScreen_r1 : List Cond := [Cond.fieldLink RX2 10 "PlateBeats" "present" "LPlateBeats$State;", Cond.instanceMethod yX1_has, Cond.initialized RX1, Cond.selects RX1 yX1_has yX1_has, Cond.code yX1_has cX1_has 2 (some .boolean), Cond.fieldLink RX1 18 "PlateBeats$State" "count" "I", Cond.methodLink RX2 184 yX2_isRange, Cond.static yX2_isRange, Cond.initialized RX2, Cond.code yX2_isRange cX2_isRange 2 (some .boolean), Cond.methodLink RX2 187 yX2_search, Cond.instanceMethod yX2_search, Cond.selects RX2 yX2_search yX2_search, Cond.code yX2_search cX2_search 12 (some .int), Cond.fieldLink RX2 16 "PlateBeats" "trial" "LPlateBeats$State;", Cond.methodLink RX2 194 Lib.Math.abs.name, Cond.static Lib.Math.abs.name, Cond.initialized "java/lang/Math", Cond.code Lib.Math.abs.name Lib.Math.abs.code 1 (some .int), Cond.methodLink RX2 190 yX2_copy, Cond.static yX2_copy, Cond.code yX2_copy cX2_copy 3 none, Cond.instanceMethod yX1_put, Cond.selects RX1 yX1_put yX1_put]
def wsX2_bestScreen_r2 : List Cond := [Cond.code yX1_put cX1_put 4 none, Cond.fieldLink RX1 9 "PlateBeats$State" "p" "[I", Cond.fieldLink RX1 15 "PlateBeats$State" "q" "[I", Cond.methodLink RX1 31 yX1_has, Cond.methodLink RX2 160 yX2_bandsOfGroups, Cond.instanceMethod yX2_bandsOfGroups, Cond.selects RX2 yX2_bandsOfGroups yX2_bandsOfGroups, Cond.code yX2_bandsOfGroups cX2_bandsOfGroups 6 (some .int), Cond.fieldLink RX2 164 "PlateBeats" "GROUPS" "[I", Cond.fieldLink RX2 33 "PlateBeats" "group" "LPlateBeats$Group;", Cond.instanceMethod yX1_hasAll, Cond.selects RX1 yX1_hasAll yX1_hasAll, Cond.code yX1_hasAll cX1_hasAll 2 (some .boolean), Cond.instanceMethod yX0_fillPlates, Cond.initialized RX0, Cond.selects RX0 yX0_fillPlates yX0_fillPlates, Cond.code yX0_fillPlates cX0_fillPlates 6 none, Cond.methodLink RX0 84 yX0_firstPlate, Cond.static yX0_firstPlate, Cond.code yX0_firstPlate cX0_firstPlate 3 (some .int), Cond.methodLink RX0 88 yX0_fillTriple, Cond.instanceMethod yX0_fillTriple, Cond.selects RX0 yX0_fillTriple yX0_fillTriple, Cond.code yX0_fillTriple cX0_fillTriple 16 none]
def wsX2_bestScreen_r3 : List Cond := [Cond.instanceMethod yX1_areaOf, Cond.selects RX1 yX1_areaOf yX1_areaOf, Cond.code yX1_areaOf cX1_areaOf 2 (some .int), Cond.methodLink RX0 31 yX0_start, Cond.instanceMethod yX0_start, Cond.selects RX0 yX0_start yX0_start, Cond.code yX0_start cX0_start 8 none, Cond.fieldLink RX0 35 "PlateBeats$Group" "size" "I", Cond.fieldLink RX0 15 "PlateBeats$Group" "areas" "J", Cond.fieldLink RX0 19 "PlateBeats$Group" "leastFine" "J", Cond.fieldLink RX0 22 "PlateBeats$Group" "greatestLong" "J", Cond.static yX2_divided, Cond.code yX2_divided cX2_divided 4 (some .long), Cond.methodLink RX0 77 yX0_productReal, Cond.static yX0_productReal, Cond.code yX0_productReal cX0_productReal 3 (some .int), Cond.instanceMethod yX1_pOf, Cond.selects RX1 yX1_pOf yX1_pOf, Cond.code yX1_pOf cX1_pOf 2 (some .int), Cond.instanceMethod yX1_qOf, Cond.selects RX1 yX1_qOf yX1_qOf, Cond.code yX1_qOf cX1_qOf 2 (some .int), Cond.methodLink RX0 81 yX0_productImaginary, Cond.static yX0_productImaginary]
def wsX2_bestScreen_r4 : List Cond := [Cond.code yX0_productImaginary cX0_productImaginary 3 (some .int), Cond.methodLink RX0 73 yX0_add, Cond.instanceMethod yX0_add, Cond.selects RX0 yX0_add yX0_add, Cond.code yX0_add cX0_add 2 none, Cond.fieldLink RX0 9 "PlateBeats$Group" "norms" "[I", Cond.methodLink RX0 92 yX0_fillPair, Cond.instanceMethod yX0_fillPair, Cond.selects RX0 yX0_fillPair yX0_fillPair, Cond.code yX0_fillPair cX0_fillPair 6 none, Cond.methodLink RX0 49 yX0_startPair, Cond.instanceMethod yX0_startPair, Cond.selects RX0 yX0_startPair yX0_startPair, Cond.code yX0_startPair cX0_startPair 4 none, Cond.methodLink RX0 56 yX0_addAllFor, Cond.instanceMethod yX0_addAllFor, Cond.selects RX0 yX0_addAllFor yX0_addAllFor, Cond.code yX0_addAllFor cX0_addAllFor 14 none, Cond.static yX2_realPart, Cond.code yX2_realPart cX2_realPart 4 (some .int), Cond.static yX2_imaginaryPart, Cond.code yX2_imaginaryPart cX2_imaginaryPart 4 (some .int), Cond.instanceMethod yX0_bandCount, Cond.selects RX0 yX0_bandCount yX0_bandCount]
def wsX2_bestScreen_r5 : List Cond := [Cond.code yX0_bandCount cX0_bandCount 3 (some .int), Cond.methodLink RX0 95 yX0_kindOf, Cond.instanceMethod yX0_kindOf, Cond.selects RX0 yX0_kindOf yX0_kindOf, Cond.code yX0_kindOf cX0_kindOf 2 (some .int)]
def wsX2_bestScreen : List Cond := .code yX2_bestScreen cX2_bestScreen 4 (some .int) :: ((wsX2_bestScreen_r1 ++ (wsX2_bestScreen_r2 ++ (wsX2_bestScreen_r3 ++ (wsX2_bestScreen_r4 ++ wsX2_bestScreen_r5)))) ++ wsX20 ++ wsX10 ++ wsX00)
def wsX2_bandsWithBest_r1 : List Cond := [Cond.fieldLink RX2 10 "PlateBeats" "present" "LPlateBeats$State;", Cond.fieldLink RX2 16 "PlateBeats" "trial" "LPlateBeats$State;", Cond.instanceMethod yX1_has, Cond.initialized RX1, Cond.selects RX1 yX1_has yX1_has, Cond.code yX1_has cX1_has 2 (some .boolean), Cond.fieldLink RX1 18 "PlateBeats$State" "count" "I", Cond.methodLink RX2 184 yX2_isRange, Cond.static yX2_isRange, Cond.initialized RX2, Cond.code yX2_isRange cX2_isRange 2 (some .boolean), Cond.methodLink RX2 187 yX2_search, Cond.instanceMethod yX2_search, Cond.selects RX2 yX2_search yX2_search, Cond.code yX2_search cX2_search 12 (some .int), Cond.methodLink RX2 194 Lib.Math.abs.name, Cond.static Lib.Math.abs.name, Cond.initialized "java/lang/Math", Cond.code Lib.Math.abs.name Lib.Math.abs.code 1 (some .int), Cond.methodLink RX2 190 yX2_copy, Cond.static yX2_copy, Cond.code yX2_copy cX2_copy 3 none, Cond.instanceMethod yX1_put, Cond.selects RX1 yX1_put yX1_put]
def wsX2_bandsWithBest_r2 : List Cond := [Cond.code yX1_put cX1_put 4 none, Cond.fieldLink RX1 9 "PlateBeats$State" "p" "[I", Cond.fieldLink RX1 15 "PlateBeats$State" "q" "[I", Cond.methodLink RX1 31 yX1_has, Cond.methodLink RX2 160 yX2_bandsOfGroups, Cond.instanceMethod yX2_bandsOfGroups, Cond.selects RX2 yX2_bandsOfGroups yX2_bandsOfGroups, Cond.code yX2_bandsOfGroups cX2_bandsOfGroups 6 (some .int), Cond.fieldLink RX2 164 "PlateBeats" "GROUPS" "[I", Cond.fieldLink RX2 33 "PlateBeats" "group" "LPlateBeats$Group;", Cond.instanceMethod yX1_hasAll, Cond.selects RX1 yX1_hasAll yX1_hasAll, Cond.code yX1_hasAll cX1_hasAll 2 (some .boolean), Cond.instanceMethod yX0_fillPlates, Cond.initialized RX0, Cond.selects RX0 yX0_fillPlates yX0_fillPlates, Cond.code yX0_fillPlates cX0_fillPlates 6 none, Cond.methodLink RX0 84 yX0_firstPlate, Cond.static yX0_firstPlate, Cond.code yX0_firstPlate cX0_firstPlate 3 (some .int), Cond.methodLink RX0 88 yX0_fillTriple, Cond.instanceMethod yX0_fillTriple, Cond.selects RX0 yX0_fillTriple yX0_fillTriple, Cond.code yX0_fillTriple cX0_fillTriple 16 none]
def wsX2_bandsWithBest_r3 : List Cond := [Cond.instanceMethod yX1_areaOf, Cond.selects RX1 yX1_areaOf yX1_areaOf, Cond.code yX1_areaOf cX1_areaOf 2 (some .int), Cond.methodLink RX0 31 yX0_start, Cond.instanceMethod yX0_start, Cond.selects RX0 yX0_start yX0_start, Cond.code yX0_start cX0_start 8 none, Cond.fieldLink RX0 35 "PlateBeats$Group" "size" "I", Cond.fieldLink RX0 15 "PlateBeats$Group" "areas" "J", Cond.fieldLink RX0 19 "PlateBeats$Group" "leastFine" "J", Cond.fieldLink RX0 22 "PlateBeats$Group" "greatestLong" "J", Cond.static yX2_divided, Cond.code yX2_divided cX2_divided 4 (some .long), Cond.methodLink RX0 77 yX0_productReal, Cond.static yX0_productReal, Cond.code yX0_productReal cX0_productReal 3 (some .int), Cond.instanceMethod yX1_pOf, Cond.selects RX1 yX1_pOf yX1_pOf, Cond.code yX1_pOf cX1_pOf 2 (some .int), Cond.instanceMethod yX1_qOf, Cond.selects RX1 yX1_qOf yX1_qOf, Cond.code yX1_qOf cX1_qOf 2 (some .int), Cond.methodLink RX0 81 yX0_productImaginary, Cond.static yX0_productImaginary]
def wsX2_bandsWithBest_r4 : List Cond := [Cond.code yX0_productImaginary cX0_productImaginary 3 (some .int), Cond.methodLink RX0 73 yX0_add, Cond.instanceMethod yX0_add, Cond.selects RX0 yX0_add yX0_add, Cond.code yX0_add cX0_add 2 none, Cond.fieldLink RX0 9 "PlateBeats$Group" "norms" "[I", Cond.methodLink RX0 92 yX0_fillPair, Cond.instanceMethod yX0_fillPair, Cond.selects RX0 yX0_fillPair yX0_fillPair, Cond.code yX0_fillPair cX0_fillPair 6 none, Cond.methodLink RX0 49 yX0_startPair, Cond.instanceMethod yX0_startPair, Cond.selects RX0 yX0_startPair yX0_startPair, Cond.code yX0_startPair cX0_startPair 4 none, Cond.methodLink RX0 56 yX0_addAllFor, Cond.instanceMethod yX0_addAllFor, Cond.selects RX0 yX0_addAllFor yX0_addAllFor, Cond.code yX0_addAllFor cX0_addAllFor 14 none, Cond.static yX2_realPart, Cond.code yX2_realPart cX2_realPart 4 (some .int), Cond.static yX2_imaginaryPart, Cond.code yX2_imaginaryPart cX2_imaginaryPart 4 (some .int), Cond.instanceMethod yX0_bandCount, Cond.selects RX0 yX0_bandCount yX0_bandCount]
def wsX2_bandsWithBest_r5 : List Cond := [Cond.code yX0_bandCount cX0_bandCount 3 (some .int), Cond.methodLink RX0 95 yX0_kindOf, Cond.instanceMethod yX0_kindOf, Cond.selects RX0 yX0_kindOf yX0_kindOf, Cond.code yX0_kindOf cX0_kindOf 2 (some .int)]
def wsX2_bandsWithBest : List Cond := .code yX2_bandsWithBest cX2_bandsWithBest 5 (some .int) :: ((wsX2_bandsWithBest_r1 ++ (wsX2_bandsWithBest_r2 ++ (wsX2_bandsWithBest_r3 ++ (wsX2_bandsWithBest_r4 ++ wsX2_bandsWithBest_r5)))) ++ wsX20 ++ wsX10 ++ wsX00)
def wsX2_isSlot : List Cond := .code yX2_isSlot cX2_isSlot 1 (some .boolean) :: ([])
def wsX2_save : List Cond := .code yX2_save cX2_save 2 (some .int) :: ([.fieldLink RX2 10 "PlateBeats" "present" "LPlateBeats$State;", .fieldLink RX2 23 "PlateBeats" "slots" "[LPlateBeats$State;", .fieldLink RX2 26 "PlateBeats" "slotFilled" "[Z", .methodLink RX2 199 yX2_isSlot, .static yX2_isSlot, .initialized RX2, .code yX2_isSlot cX2_isSlot 1 (some .boolean), .methodLink RX2 190 yX2_copy, .static yX2_copy, .code yX2_copy cX2_copy 3 none] ++ wsX20 ++ wsX10)
def wsX2_restore : List Cond := .code yX2_restore cX2_restore 2 (some .int) :: ([.fieldLink RX2 26 "PlateBeats" "slotFilled" "[Z", .fieldLink RX2 23 "PlateBeats" "slots" "[LPlateBeats$State;", .fieldLink RX2 10 "PlateBeats" "present" "LPlateBeats$State;", .methodLink RX2 199 yX2_isSlot, .static yX2_isSlot, .initialized RX2, .code yX2_isSlot cX2_isSlot 1 (some .boolean), .methodLink RX2 45 yX2_record, .instanceMethod yX2_record, .selects RX2 yX2_record yX2_record, .code yX2_record cX2_record 1 none, .fieldLink RX2 202 "PlateBeats" "historyCount" "I", .fieldLink RX2 19 "PlateBeats" "history" "[LPlateBeats$State;", .methodLink RX2 205 yX2_dropOldest, .instanceMethod yX2_dropOldest, .selects RX2 yX2_dropOldest yX2_dropOldest, .code yX2_dropOldest cX2_dropOldest 3 none, .methodLink RX2 190 yX2_copy, .static yX2_copy, .code yX2_copy cX2_copy 3 none] ++ wsX20 ++ wsX10)
def wsX2_historySize : List Cond := .code yX2_historySize cX2_historySize 1 (some .int) :: ([.fieldLink RX2 202 "PlateBeats" "historyCount" "I"] ++ wsX20)
def wsX2_undo : List Cond := .code yX2_undo cX2_undo 1 (some .int) :: ([.fieldLink RX2 202 "PlateBeats" "historyCount" "I", .fieldLink RX2 19 "PlateBeats" "history" "[LPlateBeats$State;", .fieldLink RX2 10 "PlateBeats" "present" "LPlateBeats$State;", .methodLink RX2 190 yX2_copy, .static yX2_copy, .initialized RX2, .code yX2_copy cX2_copy 3 none] ++ wsX20 ++ wsX10)
def wsX3_init : List Cond := .code yX3_init cX3_init 1 none :: ([.methodLink RX3 1 objectInit, .instanceMethod objectInit, .code objectInit ⟨#[0xb1]⟩ 1 none, .arrayClass .int, .fieldLink RX3 7 "PlateBeatsModel" "p" "[I", .fieldLink RX3 13 "PlateBeatsModel" "saved" "[I", .fieldLink RX3 16 "PlateBeatsModel" "slots" "[I", .arrayClass .long, .fieldLink RX3 19 "PlateBeatsModel" "square" "[J"] ++ wsX30)
def wsX3_in : List Cond := .code yX3_in cX3_in 3 (some .boolean) :: ([])
def wsX3_records : List Cond := .code yX3_records cX3_records 2 none :: ([.fieldLink RX3 23 "PlateBeatsModel" "states" "I", .fieldLink RX3 13 "PlateBeatsModel" "saved" "[I", .fieldLink RX3 7 "PlateBeatsModel" "p" "[I"] ++ wsX30)
def wsX3_isPlate : List Cond := .code yX3_isPlate cX3_isPlate 2 (some .boolean) :: ([.fieldLink RX3 7 "PlateBeatsModel" "p" "[I", .methodLink RX3 27 yX3_in, .static yX3_in, .initialized RX3, .code yX3_in cX3_in 3 (some .boolean)] ++ wsX30)
def wsX3_isPair : List Cond := .code yX3_isPair cX3_isPair 3 (some .boolean) :: ([.methodLink RX3 31 yX3_isPlate, .instanceMethod yX3_isPlate, .selects RX3 yX3_isPlate yX3_isPlate, .initialized RX3, .code yX3_isPlate cX3_isPlate 2 (some .boolean), .fieldLink RX3 7 "PlateBeatsModel" "p" "[I", .methodLink RX3 27 yX3_in, .static yX3_in, .code yX3_in cX3_in 3 (some .boolean)] ++ wsX30)
def wsX3_isVector : List Cond := .code yX3_isVector cX3_isVector 2 (some .boolean) :: ([.methodLink RX3 27 yX3_in, .static yX3_in, .initialized RX3, .code yX3_in cX3_in 3 (some .boolean)])
def wsX3_firstOf : List Cond := .code yX3_firstOf cX3_firstOf 2 (some .int) :: ([.fieldLink RX3 7 "PlateBeatsModel" "p" "[I"] ++ wsX30)
def wsX3_secondOf : List Cond := .code yX3_secondOf cX3_secondOf 2 (some .int) :: ([.fieldLink RX3 7 "PlateBeatsModel" "p" "[I"] ++ wsX30)
def wsX3_areaOf : List Cond := .code yX3_areaOf cX3_areaOf 2 (some .int) :: ([.methodLink RX3 35 yX3_firstOf, .instanceMethod yX3_firstOf, .selects RX3 yX3_firstOf yX3_firstOf, .initialized RX3, .code yX3_firstOf cX3_firstOf 2 (some .int), .fieldLink RX3 7 "PlateBeatsModel" "p" "[I", .methodLink RX3 39 yX3_secondOf, .instanceMethod yX3_secondOf, .selects RX3 yX3_secondOf yX3_secondOf, .code yX3_secondOf cX3_secondOf 2 (some .int)] ++ wsX30)
def wsX3_common : List Cond := .code yX3_common cX3_common 10 (some .long) :: ([])
def wsX3_addPlate : List Cond := .code yX3_addPlate cX3_addPlate 4 (some .int) :: ([.fieldLink RX3 7 "PlateBeatsModel" "p" "[I", .methodLink RX3 42 yX3_isVector, .static yX3_isVector, .initialized RX3, .code yX3_isVector cX3_isVector 2 (some .boolean), .methodLink RX3 27 yX3_in, .static yX3_in, .code yX3_in cX3_in 3 (some .boolean), .methodLink RX3 46 yX3_records, .instanceMethod yX3_records, .selects RX3 yX3_records yX3_records, .code yX3_records cX3_records 2 none, .fieldLink RX3 23 "PlateBeatsModel" "states" "I", .fieldLink RX3 13 "PlateBeatsModel" "saved" "[I"] ++ wsX30)
def wsX3_setScreen_r1 : List Cond := [Cond.fieldLink RX3 7 "PlateBeatsModel" "p" "[I", Cond.methodLink RX3 31 yX3_isPlate, Cond.instanceMethod yX3_isPlate, Cond.selects RX3 yX3_isPlate yX3_isPlate, Cond.initialized RX3, Cond.code yX3_isPlate cX3_isPlate 2 (some .boolean), Cond.methodLink RX3 27 yX3_in, Cond.static yX3_in, Cond.code yX3_in cX3_in 3 (some .boolean), Cond.methodLink RX3 42 yX3_isVector, Cond.static yX3_isVector, Cond.code yX3_isVector cX3_isVector 2 (some .boolean), Cond.methodLink RX3 46 yX3_records, Cond.instanceMethod yX3_records, Cond.selects RX3 yX3_records yX3_records, Cond.code yX3_records cX3_records 2 none, Cond.fieldLink RX3 23 "PlateBeatsModel" "states" "I", Cond.fieldLink RX3 13 "PlateBeatsModel" "saved" "[I", Cond.methodLink RX3 49 yX3_areaOf, Cond.instanceMethod yX3_areaOf, Cond.selects RX3 yX3_areaOf yX3_areaOf, Cond.code yX3_areaOf cX3_areaOf 2 (some .int), Cond.methodLink RX3 35 yX3_firstOf, Cond.instanceMethod yX3_firstOf]
def wsX3_setScreen_r2 : List Cond := [Cond.selects RX3 yX3_firstOf yX3_firstOf, Cond.code yX3_firstOf cX3_firstOf 2 (some .int), Cond.methodLink RX3 39 yX3_secondOf, Cond.instanceMethod yX3_secondOf, Cond.selects RX3 yX3_secondOf yX3_secondOf, Cond.code yX3_secondOf cX3_secondOf 2 (some .int)]
def wsX3_setScreen : List Cond := .code yX3_setScreen cX3_setScreen 5 (some .int) :: ((wsX3_setScreen_r1 ++ wsX3_setScreen_r2) ++ wsX30)
def wsX3_removePlate : List Cond := .code yX3_removePlate cX3_removePlate 3 (some .int) :: ([.fieldLink RX3 7 "PlateBeatsModel" "p" "[I", .methodLink RX3 31 yX3_isPlate, .instanceMethod yX3_isPlate, .selects RX3 yX3_isPlate yX3_isPlate, .initialized RX3, .code yX3_isPlate cX3_isPlate 2 (some .boolean), .methodLink RX3 27 yX3_in, .static yX3_in, .code yX3_in cX3_in 3 (some .boolean), .methodLink RX3 46 yX3_records, .instanceMethod yX3_records, .selects RX3 yX3_records yX3_records, .code yX3_records cX3_records 2 none, .fieldLink RX3 23 "PlateBeatsModel" "states" "I", .fieldLink RX3 13 "PlateBeatsModel" "saved" "[I"] ++ wsX30)
def wsX3_plateCount : List Cond := .code yX3_plateCount cX3_plateCount 1 (some .int) :: ([.fieldLink RX3 7 "PlateBeatsModel" "p" "[I"] ++ wsX30)
def wsX3_cellP : List Cond := .code yX3_cellP cX3_cellP 2 (some .int) :: ([.methodLink RX3 31 yX3_isPlate, .instanceMethod yX3_isPlate, .selects RX3 yX3_isPlate yX3_isPlate, .initialized RX3, .code yX3_isPlate cX3_isPlate 2 (some .boolean), .fieldLink RX3 7 "PlateBeatsModel" "p" "[I", .methodLink RX3 27 yX3_in, .static yX3_in, .code yX3_in cX3_in 3 (some .boolean), .methodLink RX3 35 yX3_firstOf, .instanceMethod yX3_firstOf, .selects RX3 yX3_firstOf yX3_firstOf, .code yX3_firstOf cX3_firstOf 2 (some .int)] ++ wsX30)
def wsX3_cellQ : List Cond := .code yX3_cellQ cX3_cellQ 2 (some .int) :: ([.methodLink RX3 31 yX3_isPlate, .instanceMethod yX3_isPlate, .selects RX3 yX3_isPlate yX3_isPlate, .initialized RX3, .code yX3_isPlate cX3_isPlate 2 (some .boolean), .fieldLink RX3 7 "PlateBeatsModel" "p" "[I", .methodLink RX3 27 yX3_in, .static yX3_in, .code yX3_in cX3_in 3 (some .boolean), .methodLink RX3 39 yX3_secondOf, .instanceMethod yX3_secondOf, .selects RX3 yX3_secondOf yX3_secondOf, .code yX3_secondOf cX3_secondOf 2 (some .int)] ++ wsX30)
def wsX3_cellArea : List Cond := .code yX3_cellArea cX3_cellArea 2 (some .int) :: ([.methodLink RX3 31 yX3_isPlate, .instanceMethod yX3_isPlate, .selects RX3 yX3_isPlate yX3_isPlate, .initialized RX3, .code yX3_isPlate cX3_isPlate 2 (some .boolean), .fieldLink RX3 7 "PlateBeatsModel" "p" "[I", .methodLink RX3 27 yX3_in, .static yX3_in, .code yX3_in cX3_in 3 (some .boolean), .methodLink RX3 49 yX3_areaOf, .instanceMethod yX3_areaOf, .selects RX3 yX3_areaOf yX3_areaOf, .code yX3_areaOf cX3_areaOf 2 (some .int), .methodLink RX3 35 yX3_firstOf, .instanceMethod yX3_firstOf, .selects RX3 yX3_firstOf yX3_firstOf, .code yX3_firstOf cX3_firstOf 2 (some .int), .methodLink RX3 39 yX3_secondOf, .instanceMethod yX3_secondOf, .selects RX3 yX3_secondOf yX3_secondOf, .code yX3_secondOf cX3_secondOf 2 (some .int)] ++ wsX30)
def wsX3_tileOf : List Cond := .code yX3_tileOf cX3_tileOf 2 (some .int) :: ([.methodLink RX3 49 yX3_areaOf, .instanceMethod yX3_areaOf, .selects RX3 yX3_areaOf yX3_areaOf, .initialized RX3, .code yX3_areaOf cX3_areaOf 2 (some .int), .methodLink RX3 35 yX3_firstOf, .instanceMethod yX3_firstOf, .selects RX3 yX3_firstOf yX3_firstOf, .code yX3_firstOf cX3_firstOf 2 (some .int), .fieldLink RX3 7 "PlateBeatsModel" "p" "[I", .methodLink RX3 39 yX3_secondOf, .instanceMethod yX3_secondOf, .selects RX3 yX3_secondOf yX3_secondOf, .code yX3_secondOf cX3_secondOf 2 (some .int), .methodLink RX3 52 yX3_common, .static yX3_common, .code yX3_common cX3_common 10 (some .long)] ++ wsX30)
def wsX3_tile_r1 : List Cond := [Cond.methodLink RX3 31 yX3_isPlate, Cond.instanceMethod yX3_isPlate, Cond.selects RX3 yX3_isPlate yX3_isPlate, Cond.initialized RX3, Cond.code yX3_isPlate cX3_isPlate 2 (some .boolean), Cond.fieldLink RX3 7 "PlateBeatsModel" "p" "[I", Cond.methodLink RX3 27 yX3_in, Cond.static yX3_in, Cond.code yX3_in cX3_in 3 (some .boolean), Cond.methodLink RX3 56 yX3_tileOf, Cond.instanceMethod yX3_tileOf, Cond.selects RX3 yX3_tileOf yX3_tileOf, Cond.code yX3_tileOf cX3_tileOf 2 (some .int), Cond.methodLink RX3 49 yX3_areaOf, Cond.instanceMethod yX3_areaOf, Cond.selects RX3 yX3_areaOf yX3_areaOf, Cond.code yX3_areaOf cX3_areaOf 2 (some .int), Cond.methodLink RX3 35 yX3_firstOf, Cond.instanceMethod yX3_firstOf, Cond.selects RX3 yX3_firstOf yX3_firstOf, Cond.code yX3_firstOf cX3_firstOf 2 (some .int), Cond.methodLink RX3 39 yX3_secondOf, Cond.instanceMethod yX3_secondOf, Cond.selects RX3 yX3_secondOf yX3_secondOf]
def wsX3_tile_r2 : List Cond := [Cond.code yX3_secondOf cX3_secondOf 2 (some .int), Cond.methodLink RX3 52 yX3_common, Cond.static yX3_common, Cond.code yX3_common cX3_common 10 (some .long)]
def wsX3_tile : List Cond := .code yX3_tile cX3_tile 2 (some .int) :: ((wsX3_tile_r1 ++ wsX3_tile_r2) ++ wsX30)
def wsX3_commonTile : List Cond := .code yX3_commonTile cX3_commonTile 4 (some .long) :: ([.fieldLink RX3 7 "PlateBeatsModel" "p" "[I", .methodLink RX3 56 yX3_tileOf, .instanceMethod yX3_tileOf, .selects RX3 yX3_tileOf yX3_tileOf, .initialized RX3, .code yX3_tileOf cX3_tileOf 2 (some .int), .methodLink RX3 49 yX3_areaOf, .instanceMethod yX3_areaOf, .selects RX3 yX3_areaOf yX3_areaOf, .code yX3_areaOf cX3_areaOf 2 (some .int), .methodLink RX3 35 yX3_firstOf, .instanceMethod yX3_firstOf, .selects RX3 yX3_firstOf yX3_firstOf, .code yX3_firstOf cX3_firstOf 2 (some .int), .methodLink RX3 39 yX3_secondOf, .instanceMethod yX3_secondOf, .selects RX3 yX3_secondOf yX3_secondOf, .code yX3_secondOf cX3_secondOf 2 (some .int), .methodLink RX3 52 yX3_common, .static yX3_common, .code yX3_common cX3_common 10 (some .long)] ++ wsX30)
def wsX3_isAhead : List Cond := .code yX3_isAhead cX3_isAhead 5 (some .boolean) :: ([.methodLink RX3 39 yX3_secondOf, .instanceMethod yX3_secondOf, .selects RX3 yX3_secondOf yX3_secondOf, .initialized RX3, .code yX3_secondOf cX3_secondOf 2 (some .int), .fieldLink RX3 7 "PlateBeatsModel" "p" "[I", .methodLink RX3 35 yX3_firstOf, .instanceMethod yX3_firstOf, .selects RX3 yX3_firstOf yX3_firstOf, .code yX3_firstOf cX3_firstOf 2 (some .int)] ++ wsX30)
def wsX3_byAngle : List Cond := .code yX3_byAngle cX3_byAngle 5 (some .int) :: ([.fieldLink RX3 7 "PlateBeatsModel" "p" "[I", .methodLink RX3 59 yX3_isAhead, .instanceMethod yX3_isAhead, .selects RX3 yX3_isAhead yX3_isAhead, .initialized RX3, .code yX3_isAhead cX3_isAhead 5 (some .boolean), .methodLink RX3 39 yX3_secondOf, .instanceMethod yX3_secondOf, .selects RX3 yX3_secondOf yX3_secondOf, .code yX3_secondOf cX3_secondOf 2 (some .int), .methodLink RX3 35 yX3_firstOf, .instanceMethod yX3_firstOf, .selects RX3 yX3_firstOf yX3_firstOf, .code yX3_firstOf cX3_firstOf 2 (some .int)] ++ wsX30)
def wsX3_setOrder : List Cond := .code yX3_setOrder cX3_setOrder 3 (some .int) :: ([.fieldLink RX3 7 "PlateBeatsModel" "p" "[I", .methodLink RX3 27 yX3_in, .static yX3_in, .initialized RX3, .code yX3_in cX3_in 3 (some .boolean), .methodLink RX3 46 yX3_records, .instanceMethod yX3_records, .selects RX3 yX3_records yX3_records, .code yX3_records cX3_records 2 none, .fieldLink RX3 23 "PlateBeatsModel" "states" "I", .fieldLink RX3 13 "PlateBeatsModel" "saved" "[I"] ++ wsX30)
def wsX3_setLimits : List Cond := .code yX3_setLimits cX3_setLimits 4 (some .int) :: ([.fieldLink RX3 7 "PlateBeatsModel" "p" "[I", .methodLink RX3 27 yX3_in, .static yX3_in, .initialized RX3, .code yX3_in cX3_in 3 (some .boolean), .methodLink RX3 46 yX3_records, .instanceMethod yX3_records, .selects RX3 yX3_records yX3_records, .code yX3_records cX3_records 2 none, .fieldLink RX3 23 "PlateBeatsModel" "states" "I", .fieldLink RX3 13 "PlateBeatsModel" "saved" "[I"] ++ wsX30)
def wsX3_longLimit : List Cond := .code yX3_longLimit cX3_longLimit 1 (some .int) :: ([.fieldLink RX3 7 "PlateBeatsModel" "p" "[I"] ++ wsX30)
def wsX3_pairSquare : List Cond := .code yX3_pairSquare cX3_pairSquare 15 (some .long) :: ([.methodLink RX3 49 yX3_areaOf, .instanceMethod yX3_areaOf, .selects RX3 yX3_areaOf yX3_areaOf, .initialized RX3, .code yX3_areaOf cX3_areaOf 2 (some .int), .methodLink RX3 35 yX3_firstOf, .instanceMethod yX3_firstOf, .selects RX3 yX3_firstOf yX3_firstOf, .code yX3_firstOf cX3_firstOf 2 (some .int), .fieldLink RX3 7 "PlateBeatsModel" "p" "[I", .methodLink RX3 39 yX3_secondOf, .instanceMethod yX3_secondOf, .selects RX3 yX3_secondOf yX3_secondOf, .code yX3_secondOf cX3_secondOf 2 (some .int)] ++ wsX30)
def wsX3_pairBase : List Cond := .code yX3_pairBase cX3_pairBase 5 (some .long) :: ([.methodLink RX3 49 yX3_areaOf, .instanceMethod yX3_areaOf, .selects RX3 yX3_areaOf yX3_areaOf, .initialized RX3, .code yX3_areaOf cX3_areaOf 2 (some .int), .methodLink RX3 35 yX3_firstOf, .instanceMethod yX3_firstOf, .selects RX3 yX3_firstOf yX3_firstOf, .code yX3_firstOf cX3_firstOf 2 (some .int), .fieldLink RX3 7 "PlateBeatsModel" "p" "[I", .methodLink RX3 39 yX3_secondOf, .instanceMethod yX3_secondOf, .selects RX3 yX3_secondOf yX3_secondOf, .code yX3_secondOf cX3_secondOf 2 (some .int)] ++ wsX30)
def wsX3_part : List Cond := .code yX3_part cX3_part 5 (some .int) :: ([.methodLink RX3 39 yX3_secondOf, .instanceMethod yX3_secondOf, .selects RX3 yX3_secondOf yX3_secondOf, .initialized RX3, .code yX3_secondOf cX3_secondOf 2 (some .int), .fieldLink RX3 7 "PlateBeatsModel" "p" "[I", .methodLink RX3 35 yX3_firstOf, .instanceMethod yX3_firstOf, .selects RX3 yX3_firstOf yX3_firstOf, .code yX3_firstOf cX3_firstOf 2 (some .int)] ++ wsX30)
def wsX3_tripleSquare : List Cond := .code yX3_tripleSquare cX3_tripleSquare 15 (some .long) :: ([.methodLink RX3 49 yX3_areaOf, .instanceMethod yX3_areaOf, .selects RX3 yX3_areaOf yX3_areaOf, .initialized RX3, .code yX3_areaOf cX3_areaOf 2 (some .int), .methodLink RX3 35 yX3_firstOf, .instanceMethod yX3_firstOf, .selects RX3 yX3_firstOf yX3_firstOf, .code yX3_firstOf cX3_firstOf 2 (some .int), .fieldLink RX3 7 "PlateBeatsModel" "p" "[I", .methodLink RX3 39 yX3_secondOf, .instanceMethod yX3_secondOf, .selects RX3 yX3_secondOf yX3_secondOf, .code yX3_secondOf cX3_secondOf 2 (some .int), .methodLink RX3 62 yX3_part, .instanceMethod yX3_part, .selects RX3 yX3_part yX3_part, .code yX3_part cX3_part 5 (some .int)] ++ wsX30)
def wsX3_tripleBase : List Cond := .code yX3_tripleBase cX3_tripleBase 6 (some .long) :: ([.methodLink RX3 49 yX3_areaOf, .instanceMethod yX3_areaOf, .selects RX3 yX3_areaOf yX3_areaOf, .initialized RX3, .code yX3_areaOf cX3_areaOf 2 (some .int), .methodLink RX3 35 yX3_firstOf, .instanceMethod yX3_firstOf, .selects RX3 yX3_firstOf yX3_firstOf, .code yX3_firstOf cX3_firstOf 2 (some .int), .fieldLink RX3 7 "PlateBeatsModel" "p" "[I", .methodLink RX3 39 yX3_secondOf, .instanceMethod yX3_secondOf, .selects RX3 yX3_secondOf yX3_secondOf, .code yX3_secondOf cX3_secondOf 2 (some .int)] ++ wsX30)
def wsX3_kindOf : List Cond := .code yX3_kindOf cX3_kindOf 9 (some .int) :: ([.fieldLink RX3 7 "PlateBeatsModel" "p" "[I"] ++ wsX30)
def wsX3_periodOf : List Cond := .code yX3_periodOf cX3_periodOf 13 (some .int) :: ([.constantLong RX3 66 (600000000), .constantLong RX3 68 (2)])
def wsX3_isPart : List Cond := .code yX3_isPart cX3_isPart 3 (some .boolean) :: ([.fieldLink RX3 7 "PlateBeatsModel" "p" "[I", .methodLink RX3 27 yX3_in, .static yX3_in, .initialized RX3, .code yX3_in cX3_in 3 (some .boolean)] ++ wsX30)
def wsX3_isCombination : List Cond := .code yX3_isCombination cX3_isCombination 7 (some .boolean) :: ([.methodLink RX3 70 yX3_isPair, .instanceMethod yX3_isPair, .selects RX3 yX3_isPair yX3_isPair, .initialized RX3, .code yX3_isPair cX3_isPair 3 (some .boolean), .methodLink RX3 31 yX3_isPlate, .instanceMethod yX3_isPlate, .selects RX3 yX3_isPlate yX3_isPlate, .code yX3_isPlate cX3_isPlate 2 (some .boolean), .fieldLink RX3 7 "PlateBeatsModel" "p" "[I", .methodLink RX3 27 yX3_in, .static yX3_in, .code yX3_in cX3_in 3 (some .boolean), .methodLink RX3 73 yX3_isPart, .instanceMethod yX3_isPart, .selects RX3 yX3_isPart yX3_isPart, .code yX3_isPart cX3_isPart 3 (some .boolean)] ++ wsX30)
def wsX3_squareNumerator_r1 : List Cond := [Cond.constantLong RX3 80 (-1), Cond.methodLink RX3 76 yX3_isCombination, Cond.instanceMethod yX3_isCombination, Cond.selects RX3 yX3_isCombination yX3_isCombination, Cond.initialized RX3, Cond.code yX3_isCombination cX3_isCombination 7 (some .boolean), Cond.methodLink RX3 70 yX3_isPair, Cond.instanceMethod yX3_isPair, Cond.selects RX3 yX3_isPair yX3_isPair, Cond.code yX3_isPair cX3_isPair 3 (some .boolean), Cond.methodLink RX3 31 yX3_isPlate, Cond.instanceMethod yX3_isPlate, Cond.selects RX3 yX3_isPlate yX3_isPlate, Cond.code yX3_isPlate cX3_isPlate 2 (some .boolean), Cond.fieldLink RX3 7 "PlateBeatsModel" "p" "[I", Cond.methodLink RX3 27 yX3_in, Cond.static yX3_in, Cond.code yX3_in cX3_in 3 (some .boolean), Cond.methodLink RX3 73 yX3_isPart, Cond.instanceMethod yX3_isPart, Cond.selects RX3 yX3_isPart yX3_isPart, Cond.code yX3_isPart cX3_isPart 3 (some .boolean), Cond.methodLink RX3 82 yX3_pairSquare, Cond.instanceMethod yX3_pairSquare]
def wsX3_squareNumerator_r2 : List Cond := [Cond.selects RX3 yX3_pairSquare yX3_pairSquare, Cond.code yX3_pairSquare cX3_pairSquare 15 (some .long), Cond.methodLink RX3 49 yX3_areaOf, Cond.instanceMethod yX3_areaOf, Cond.selects RX3 yX3_areaOf yX3_areaOf, Cond.code yX3_areaOf cX3_areaOf 2 (some .int), Cond.methodLink RX3 35 yX3_firstOf, Cond.instanceMethod yX3_firstOf, Cond.selects RX3 yX3_firstOf yX3_firstOf, Cond.code yX3_firstOf cX3_firstOf 2 (some .int), Cond.methodLink RX3 39 yX3_secondOf, Cond.instanceMethod yX3_secondOf, Cond.selects RX3 yX3_secondOf yX3_secondOf, Cond.code yX3_secondOf cX3_secondOf 2 (some .int), Cond.methodLink RX3 86 yX3_pairBase, Cond.instanceMethod yX3_pairBase, Cond.selects RX3 yX3_pairBase yX3_pairBase, Cond.code yX3_pairBase cX3_pairBase 5 (some .long), Cond.methodLink RX3 52 yX3_common, Cond.static yX3_common, Cond.code yX3_common cX3_common 10 (some .long)]
def wsX3_squareNumerator : List Cond := .code yX3_squareNumerator cX3_squareNumerator 9 (some .long) :: ((wsX3_squareNumerator_r1 ++ wsX3_squareNumerator_r2) ++ wsX30)
def wsX3_squareDenominator_r1 : List Cond := [Cond.constantLong RX3 80 (-1), Cond.methodLink RX3 76 yX3_isCombination, Cond.instanceMethod yX3_isCombination, Cond.selects RX3 yX3_isCombination yX3_isCombination, Cond.initialized RX3, Cond.code yX3_isCombination cX3_isCombination 7 (some .boolean), Cond.methodLink RX3 70 yX3_isPair, Cond.instanceMethod yX3_isPair, Cond.selects RX3 yX3_isPair yX3_isPair, Cond.code yX3_isPair cX3_isPair 3 (some .boolean), Cond.methodLink RX3 31 yX3_isPlate, Cond.instanceMethod yX3_isPlate, Cond.selects RX3 yX3_isPlate yX3_isPlate, Cond.code yX3_isPlate cX3_isPlate 2 (some .boolean), Cond.fieldLink RX3 7 "PlateBeatsModel" "p" "[I", Cond.methodLink RX3 27 yX3_in, Cond.static yX3_in, Cond.code yX3_in cX3_in 3 (some .boolean), Cond.methodLink RX3 73 yX3_isPart, Cond.instanceMethod yX3_isPart, Cond.selects RX3 yX3_isPart yX3_isPart, Cond.code yX3_isPart cX3_isPart 3 (some .boolean), Cond.methodLink RX3 86 yX3_pairBase, Cond.instanceMethod yX3_pairBase]
def wsX3_squareDenominator_r2 : List Cond := [Cond.selects RX3 yX3_pairBase yX3_pairBase, Cond.code yX3_pairBase cX3_pairBase 5 (some .long), Cond.methodLink RX3 49 yX3_areaOf, Cond.instanceMethod yX3_areaOf, Cond.selects RX3 yX3_areaOf yX3_areaOf, Cond.code yX3_areaOf cX3_areaOf 2 (some .int), Cond.methodLink RX3 35 yX3_firstOf, Cond.instanceMethod yX3_firstOf, Cond.selects RX3 yX3_firstOf yX3_firstOf, Cond.code yX3_firstOf cX3_firstOf 2 (some .int), Cond.methodLink RX3 39 yX3_secondOf, Cond.instanceMethod yX3_secondOf, Cond.selects RX3 yX3_secondOf yX3_secondOf, Cond.code yX3_secondOf cX3_secondOf 2 (some .int), Cond.methodLink RX3 82 yX3_pairSquare, Cond.instanceMethod yX3_pairSquare, Cond.selects RX3 yX3_pairSquare yX3_pairSquare, Cond.code yX3_pairSquare cX3_pairSquare 15 (some .long), Cond.methodLink RX3 52 yX3_common, Cond.static yX3_common, Cond.code yX3_common cX3_common 10 (some .long)]
def wsX3_squareDenominator : List Cond := .code yX3_squareDenominator cX3_squareDenominator 9 (some .long) :: ((wsX3_squareDenominator_r1 ++ wsX3_squareDenominator_r2) ++ wsX30)
def wsX3_kind_r1 : List Cond := [Cond.methodLink RX3 76 yX3_isCombination, Cond.instanceMethod yX3_isCombination, Cond.selects RX3 yX3_isCombination yX3_isCombination, Cond.initialized RX3, Cond.code yX3_isCombination cX3_isCombination 7 (some .boolean), Cond.methodLink RX3 70 yX3_isPair, Cond.instanceMethod yX3_isPair, Cond.selects RX3 yX3_isPair yX3_isPair, Cond.code yX3_isPair cX3_isPair 3 (some .boolean), Cond.methodLink RX3 31 yX3_isPlate, Cond.instanceMethod yX3_isPlate, Cond.selects RX3 yX3_isPlate yX3_isPlate, Cond.code yX3_isPlate cX3_isPlate 2 (some .boolean), Cond.fieldLink RX3 7 "PlateBeatsModel" "p" "[I", Cond.methodLink RX3 27 yX3_in, Cond.static yX3_in, Cond.code yX3_in cX3_in 3 (some .boolean), Cond.methodLink RX3 73 yX3_isPart, Cond.instanceMethod yX3_isPart, Cond.selects RX3 yX3_isPart yX3_isPart, Cond.code yX3_isPart cX3_isPart 3 (some .boolean), Cond.methodLink RX3 82 yX3_pairSquare, Cond.instanceMethod yX3_pairSquare, Cond.selects RX3 yX3_pairSquare yX3_pairSquare]
def wsX3_kind_r2 : List Cond := [Cond.code yX3_pairSquare cX3_pairSquare 15 (some .long), Cond.methodLink RX3 49 yX3_areaOf, Cond.instanceMethod yX3_areaOf, Cond.selects RX3 yX3_areaOf yX3_areaOf, Cond.code yX3_areaOf cX3_areaOf 2 (some .int), Cond.methodLink RX3 35 yX3_firstOf, Cond.instanceMethod yX3_firstOf, Cond.selects RX3 yX3_firstOf yX3_firstOf, Cond.code yX3_firstOf cX3_firstOf 2 (some .int), Cond.methodLink RX3 39 yX3_secondOf, Cond.instanceMethod yX3_secondOf, Cond.selects RX3 yX3_secondOf yX3_secondOf, Cond.code yX3_secondOf cX3_secondOf 2 (some .int), Cond.methodLink RX3 86 yX3_pairBase, Cond.instanceMethod yX3_pairBase, Cond.selects RX3 yX3_pairBase yX3_pairBase, Cond.code yX3_pairBase cX3_pairBase 5 (some .long), Cond.methodLink RX3 90 yX3_kindOf, Cond.instanceMethod yX3_kindOf, Cond.selects RX3 yX3_kindOf yX3_kindOf, Cond.code yX3_kindOf cX3_kindOf 9 (some .int)]
def wsX3_kind : List Cond := .code yX3_kind cX3_kind 7 (some .int) :: ((wsX3_kind_r1 ++ wsX3_kind_r2) ++ wsX30)
def wsX3_insert : List Cond := .code yX3_insert cX3_insert 4 none :: ([.fieldLink RX3 94 "PlateBeatsModel" "all" "I", .fieldLink RX3 19 "PlateBeatsModel" "square" "[J"] ++ wsX30)
def wsX3_layWith : List Cond := .code yX3_layWith cX3_layWith 8 none :: ([.fieldLink RX3 7 "PlateBeatsModel" "p" "[I", .methodLink RX3 82 yX3_pairSquare, .instanceMethod yX3_pairSquare, .selects RX3 yX3_pairSquare yX3_pairSquare, .initialized RX3, .code yX3_pairSquare cX3_pairSquare 15 (some .long), .methodLink RX3 49 yX3_areaOf, .instanceMethod yX3_areaOf, .selects RX3 yX3_areaOf yX3_areaOf, .code yX3_areaOf cX3_areaOf 2 (some .int), .methodLink RX3 35 yX3_firstOf, .instanceMethod yX3_firstOf, .selects RX3 yX3_firstOf yX3_firstOf, .code yX3_firstOf cX3_firstOf 2 (some .int), .methodLink RX3 39 yX3_secondOf, .instanceMethod yX3_secondOf, .selects RX3 yX3_secondOf yX3_secondOf, .code yX3_secondOf cX3_secondOf 2 (some .int), .methodLink RX3 101 yX3_insert, .instanceMethod yX3_insert, .selects RX3 yX3_insert yX3_insert, .code yX3_insert cX3_insert 4 none, .fieldLink RX3 94 "PlateBeatsModel" "all" "I", .fieldLink RX3 19 "PlateBeatsModel" "square" "[J"] ++ wsX30)
def wsX3_laySquares_r1 : List Cond := [Cond.fieldLink RX3 94 "PlateBeatsModel" "all" "I", Cond.fieldLink RX3 7 "PlateBeatsModel" "p" "[I", Cond.methodLink RX3 97 yX3_layWith, Cond.instanceMethod yX3_layWith, Cond.selects RX3 yX3_layWith yX3_layWith, Cond.initialized RX3, Cond.code yX3_layWith cX3_layWith 8 none, Cond.methodLink RX3 82 yX3_pairSquare, Cond.instanceMethod yX3_pairSquare, Cond.selects RX3 yX3_pairSquare yX3_pairSquare, Cond.code yX3_pairSquare cX3_pairSquare 15 (some .long), Cond.methodLink RX3 49 yX3_areaOf, Cond.instanceMethod yX3_areaOf, Cond.selects RX3 yX3_areaOf yX3_areaOf, Cond.code yX3_areaOf cX3_areaOf 2 (some .int), Cond.methodLink RX3 35 yX3_firstOf, Cond.instanceMethod yX3_firstOf, Cond.selects RX3 yX3_firstOf yX3_firstOf, Cond.code yX3_firstOf cX3_firstOf 2 (some .int), Cond.methodLink RX3 39 yX3_secondOf, Cond.instanceMethod yX3_secondOf, Cond.selects RX3 yX3_secondOf yX3_secondOf, Cond.code yX3_secondOf cX3_secondOf 2 (some .int), Cond.methodLink RX3 101 yX3_insert]
def wsX3_laySquares_r2 : List Cond := [Cond.instanceMethod yX3_insert, Cond.selects RX3 yX3_insert yX3_insert, Cond.code yX3_insert cX3_insert 4 none, Cond.fieldLink RX3 19 "PlateBeatsModel" "square" "[J"]
def wsX3_laySquares : List Cond := .code yX3_laySquares cX3_laySquares 6 none :: ((wsX3_laySquares_r1 ++ wsX3_laySquares_r2) ++ wsX30)
def wsX3_behind : List Cond := .code yX3_behind cX3_behind 3 (some .int) :: ([.fieldLink RX3 94 "PlateBeatsModel" "all" "I", .fieldLink RX3 19 "PlateBeatsModel" "square" "[J"] ++ wsX30)
def wsX3_placeOf : List Cond := .code yX3_placeOf cX3_placeOf 4 (some .int) :: ([.fieldLink RX3 94 "PlateBeatsModel" "all" "I", .methodLink RX3 105 yX3_behind, .instanceMethod yX3_behind, .selects RX3 yX3_behind yX3_behind, .initialized RX3, .code yX3_behind cX3_behind 3 (some .int), .fieldLink RX3 19 "PlateBeatsModel" "square" "[J"] ++ wsX30)
def wsX3_beatCount_r1 : List Cond := [Cond.fieldLink RX3 94 "PlateBeatsModel" "all" "I", Cond.methodLink RX3 70 yX3_isPair, Cond.instanceMethod yX3_isPair, Cond.selects RX3 yX3_isPair yX3_isPair, Cond.initialized RX3, Cond.code yX3_isPair cX3_isPair 3 (some .boolean), Cond.methodLink RX3 31 yX3_isPlate, Cond.instanceMethod yX3_isPlate, Cond.selects RX3 yX3_isPlate yX3_isPlate, Cond.code yX3_isPlate cX3_isPlate 2 (some .boolean), Cond.fieldLink RX3 7 "PlateBeatsModel" "p" "[I", Cond.methodLink RX3 27 yX3_in, Cond.static yX3_in, Cond.code yX3_in cX3_in 3 (some .boolean), Cond.methodLink RX3 108 yX3_laySquares, Cond.instanceMethod yX3_laySquares, Cond.selects RX3 yX3_laySquares yX3_laySquares, Cond.code yX3_laySquares cX3_laySquares 6 none, Cond.methodLink RX3 97 yX3_layWith, Cond.instanceMethod yX3_layWith, Cond.selects RX3 yX3_layWith yX3_layWith, Cond.code yX3_layWith cX3_layWith 8 none, Cond.methodLink RX3 82 yX3_pairSquare, Cond.instanceMethod yX3_pairSquare]
def wsX3_beatCount_r2 : List Cond := [Cond.selects RX3 yX3_pairSquare yX3_pairSquare, Cond.code yX3_pairSquare cX3_pairSquare 15 (some .long), Cond.methodLink RX3 49 yX3_areaOf, Cond.instanceMethod yX3_areaOf, Cond.selects RX3 yX3_areaOf yX3_areaOf, Cond.code yX3_areaOf cX3_areaOf 2 (some .int), Cond.methodLink RX3 35 yX3_firstOf, Cond.instanceMethod yX3_firstOf, Cond.selects RX3 yX3_firstOf yX3_firstOf, Cond.code yX3_firstOf cX3_firstOf 2 (some .int), Cond.methodLink RX3 39 yX3_secondOf, Cond.instanceMethod yX3_secondOf, Cond.selects RX3 yX3_secondOf yX3_secondOf, Cond.code yX3_secondOf cX3_secondOf 2 (some .int), Cond.methodLink RX3 101 yX3_insert, Cond.instanceMethod yX3_insert, Cond.selects RX3 yX3_insert yX3_insert, Cond.code yX3_insert cX3_insert 4 none, Cond.fieldLink RX3 19 "PlateBeatsModel" "square" "[J", Cond.methodLink RX3 105 yX3_behind, Cond.instanceMethod yX3_behind, Cond.selects RX3 yX3_behind yX3_behind, Cond.code yX3_behind cX3_behind 3 (some .int)]
def wsX3_beatCount : List Cond := .code yX3_beatCount cX3_beatCount 5 (some .int) :: ((wsX3_beatCount_r1 ++ wsX3_beatCount_r2) ++ wsX30)
def wsX3_beat_r1 : List Cond := [Cond.constantLong RX3 80 (-1), Cond.fieldLink RX3 94 "PlateBeatsModel" "all" "I", Cond.constantLong RX3 115 (-4), Cond.fieldLink RX3 19 "PlateBeatsModel" "square" "[J", Cond.methodLink RX3 70 yX3_isPair, Cond.instanceMethod yX3_isPair, Cond.selects RX3 yX3_isPair yX3_isPair, Cond.initialized RX3, Cond.code yX3_isPair cX3_isPair 3 (some .boolean), Cond.methodLink RX3 31 yX3_isPlate, Cond.instanceMethod yX3_isPlate, Cond.selects RX3 yX3_isPlate yX3_isPlate, Cond.code yX3_isPlate cX3_isPlate 2 (some .boolean), Cond.fieldLink RX3 7 "PlateBeatsModel" "p" "[I", Cond.methodLink RX3 27 yX3_in, Cond.static yX3_in, Cond.code yX3_in cX3_in 3 (some .boolean), Cond.methodLink RX3 108 yX3_laySquares, Cond.instanceMethod yX3_laySquares, Cond.selects RX3 yX3_laySquares yX3_laySquares, Cond.code yX3_laySquares cX3_laySquares 6 none, Cond.methodLink RX3 97 yX3_layWith, Cond.instanceMethod yX3_layWith, Cond.selects RX3 yX3_layWith yX3_layWith]
def wsX3_beat_r2 : List Cond := [Cond.code yX3_layWith cX3_layWith 8 none, Cond.methodLink RX3 82 yX3_pairSquare, Cond.instanceMethod yX3_pairSquare, Cond.selects RX3 yX3_pairSquare yX3_pairSquare, Cond.code yX3_pairSquare cX3_pairSquare 15 (some .long), Cond.methodLink RX3 49 yX3_areaOf, Cond.instanceMethod yX3_areaOf, Cond.selects RX3 yX3_areaOf yX3_areaOf, Cond.code yX3_areaOf cX3_areaOf 2 (some .int), Cond.methodLink RX3 35 yX3_firstOf, Cond.instanceMethod yX3_firstOf, Cond.selects RX3 yX3_firstOf yX3_firstOf, Cond.code yX3_firstOf cX3_firstOf 2 (some .int), Cond.methodLink RX3 39 yX3_secondOf, Cond.instanceMethod yX3_secondOf, Cond.selects RX3 yX3_secondOf yX3_secondOf, Cond.code yX3_secondOf cX3_secondOf 2 (some .int), Cond.methodLink RX3 101 yX3_insert, Cond.instanceMethod yX3_insert, Cond.selects RX3 yX3_insert yX3_insert, Cond.code yX3_insert cX3_insert 4 none, Cond.methodLink RX3 112 yX3_placeOf, Cond.instanceMethod yX3_placeOf, Cond.selects RX3 yX3_placeOf yX3_placeOf]
def wsX3_beat_r3 : List Cond := [Cond.code yX3_placeOf cX3_placeOf 4 (some .int), Cond.methodLink RX3 105 yX3_behind, Cond.instanceMethod yX3_behind, Cond.selects RX3 yX3_behind yX3_behind, Cond.code yX3_behind cX3_behind 3 (some .int), Cond.methodLink RX3 86 yX3_pairBase, Cond.instanceMethod yX3_pairBase, Cond.selects RX3 yX3_pairBase yX3_pairBase, Cond.code yX3_pairBase cX3_pairBase 5 (some .long), Cond.methodLink RX3 52 yX3_common, Cond.static yX3_common, Cond.code yX3_common cX3_common 10 (some .long), Cond.methodLink RX3 117 yX3_periodOf, Cond.static yX3_periodOf, Cond.code yX3_periodOf cX3_periodOf 13 (some .int), Cond.constantLong RX3 66 (600000000), Cond.constantLong RX3 68 (2)]
def wsX3_beat : List Cond := .code yX3_beat cX3_beat 10 (some .long) :: ((wsX3_beat_r1 ++ (wsX3_beat_r2 ++ wsX3_beat_r3)) ++ wsX30)
def wsX3_beatNumerator_r1 : List Cond := [Cond.methodLink RX3 120 yX3_beat, Cond.instanceMethod yX3_beat, Cond.selects RX3 yX3_beat yX3_beat, Cond.initialized RX3, Cond.code yX3_beat cX3_beat 10 (some .long), Cond.constantLong RX3 80 (-1), Cond.fieldLink RX3 94 "PlateBeatsModel" "all" "I", Cond.constantLong RX3 115 (-4), Cond.fieldLink RX3 19 "PlateBeatsModel" "square" "[J", Cond.methodLink RX3 70 yX3_isPair, Cond.instanceMethod yX3_isPair, Cond.selects RX3 yX3_isPair yX3_isPair, Cond.code yX3_isPair cX3_isPair 3 (some .boolean), Cond.methodLink RX3 31 yX3_isPlate, Cond.instanceMethod yX3_isPlate, Cond.selects RX3 yX3_isPlate yX3_isPlate, Cond.code yX3_isPlate cX3_isPlate 2 (some .boolean), Cond.fieldLink RX3 7 "PlateBeatsModel" "p" "[I", Cond.methodLink RX3 27 yX3_in, Cond.static yX3_in, Cond.code yX3_in cX3_in 3 (some .boolean), Cond.methodLink RX3 108 yX3_laySquares, Cond.instanceMethod yX3_laySquares, Cond.selects RX3 yX3_laySquares yX3_laySquares]
def wsX3_beatNumerator_r2 : List Cond := [Cond.code yX3_laySquares cX3_laySquares 6 none, Cond.methodLink RX3 97 yX3_layWith, Cond.instanceMethod yX3_layWith, Cond.selects RX3 yX3_layWith yX3_layWith, Cond.code yX3_layWith cX3_layWith 8 none, Cond.methodLink RX3 82 yX3_pairSquare, Cond.instanceMethod yX3_pairSquare, Cond.selects RX3 yX3_pairSquare yX3_pairSquare, Cond.code yX3_pairSquare cX3_pairSquare 15 (some .long), Cond.methodLink RX3 49 yX3_areaOf, Cond.instanceMethod yX3_areaOf, Cond.selects RX3 yX3_areaOf yX3_areaOf, Cond.code yX3_areaOf cX3_areaOf 2 (some .int), Cond.methodLink RX3 35 yX3_firstOf, Cond.instanceMethod yX3_firstOf, Cond.selects RX3 yX3_firstOf yX3_firstOf, Cond.code yX3_firstOf cX3_firstOf 2 (some .int), Cond.methodLink RX3 39 yX3_secondOf, Cond.instanceMethod yX3_secondOf, Cond.selects RX3 yX3_secondOf yX3_secondOf, Cond.code yX3_secondOf cX3_secondOf 2 (some .int), Cond.methodLink RX3 101 yX3_insert, Cond.instanceMethod yX3_insert, Cond.selects RX3 yX3_insert yX3_insert]
def wsX3_beatNumerator_r3 : List Cond := [Cond.code yX3_insert cX3_insert 4 none, Cond.methodLink RX3 112 yX3_placeOf, Cond.instanceMethod yX3_placeOf, Cond.selects RX3 yX3_placeOf yX3_placeOf, Cond.code yX3_placeOf cX3_placeOf 4 (some .int), Cond.methodLink RX3 105 yX3_behind, Cond.instanceMethod yX3_behind, Cond.selects RX3 yX3_behind yX3_behind, Cond.code yX3_behind cX3_behind 3 (some .int), Cond.methodLink RX3 86 yX3_pairBase, Cond.instanceMethod yX3_pairBase, Cond.selects RX3 yX3_pairBase yX3_pairBase, Cond.code yX3_pairBase cX3_pairBase 5 (some .long), Cond.methodLink RX3 52 yX3_common, Cond.static yX3_common, Cond.code yX3_common cX3_common 10 (some .long), Cond.methodLink RX3 117 yX3_periodOf, Cond.static yX3_periodOf, Cond.code yX3_periodOf cX3_periodOf 13 (some .int), Cond.constantLong RX3 66 (600000000), Cond.constantLong RX3 68 (2)]
def wsX3_beatNumerator : List Cond := .code yX3_beatNumerator cX3_beatNumerator 4 (some .long) :: ((wsX3_beatNumerator_r1 ++ (wsX3_beatNumerator_r2 ++ wsX3_beatNumerator_r3)) ++ wsX30)
def wsX3_beatDenominator_r1 : List Cond := [Cond.methodLink RX3 120 yX3_beat, Cond.instanceMethod yX3_beat, Cond.selects RX3 yX3_beat yX3_beat, Cond.initialized RX3, Cond.code yX3_beat cX3_beat 10 (some .long), Cond.constantLong RX3 80 (-1), Cond.fieldLink RX3 94 "PlateBeatsModel" "all" "I", Cond.constantLong RX3 115 (-4), Cond.fieldLink RX3 19 "PlateBeatsModel" "square" "[J", Cond.methodLink RX3 70 yX3_isPair, Cond.instanceMethod yX3_isPair, Cond.selects RX3 yX3_isPair yX3_isPair, Cond.code yX3_isPair cX3_isPair 3 (some .boolean), Cond.methodLink RX3 31 yX3_isPlate, Cond.instanceMethod yX3_isPlate, Cond.selects RX3 yX3_isPlate yX3_isPlate, Cond.code yX3_isPlate cX3_isPlate 2 (some .boolean), Cond.fieldLink RX3 7 "PlateBeatsModel" "p" "[I", Cond.methodLink RX3 27 yX3_in, Cond.static yX3_in, Cond.code yX3_in cX3_in 3 (some .boolean), Cond.methodLink RX3 108 yX3_laySquares, Cond.instanceMethod yX3_laySquares, Cond.selects RX3 yX3_laySquares yX3_laySquares]
def wsX3_beatDenominator_r2 : List Cond := [Cond.code yX3_laySquares cX3_laySquares 6 none, Cond.methodLink RX3 97 yX3_layWith, Cond.instanceMethod yX3_layWith, Cond.selects RX3 yX3_layWith yX3_layWith, Cond.code yX3_layWith cX3_layWith 8 none, Cond.methodLink RX3 82 yX3_pairSquare, Cond.instanceMethod yX3_pairSquare, Cond.selects RX3 yX3_pairSquare yX3_pairSquare, Cond.code yX3_pairSquare cX3_pairSquare 15 (some .long), Cond.methodLink RX3 49 yX3_areaOf, Cond.instanceMethod yX3_areaOf, Cond.selects RX3 yX3_areaOf yX3_areaOf, Cond.code yX3_areaOf cX3_areaOf 2 (some .int), Cond.methodLink RX3 35 yX3_firstOf, Cond.instanceMethod yX3_firstOf, Cond.selects RX3 yX3_firstOf yX3_firstOf, Cond.code yX3_firstOf cX3_firstOf 2 (some .int), Cond.methodLink RX3 39 yX3_secondOf, Cond.instanceMethod yX3_secondOf, Cond.selects RX3 yX3_secondOf yX3_secondOf, Cond.code yX3_secondOf cX3_secondOf 2 (some .int), Cond.methodLink RX3 101 yX3_insert, Cond.instanceMethod yX3_insert, Cond.selects RX3 yX3_insert yX3_insert]
def wsX3_beatDenominator_r3 : List Cond := [Cond.code yX3_insert cX3_insert 4 none, Cond.methodLink RX3 112 yX3_placeOf, Cond.instanceMethod yX3_placeOf, Cond.selects RX3 yX3_placeOf yX3_placeOf, Cond.code yX3_placeOf cX3_placeOf 4 (some .int), Cond.methodLink RX3 105 yX3_behind, Cond.instanceMethod yX3_behind, Cond.selects RX3 yX3_behind yX3_behind, Cond.code yX3_behind cX3_behind 3 (some .int), Cond.methodLink RX3 86 yX3_pairBase, Cond.instanceMethod yX3_pairBase, Cond.selects RX3 yX3_pairBase yX3_pairBase, Cond.code yX3_pairBase cX3_pairBase 5 (some .long), Cond.methodLink RX3 52 yX3_common, Cond.static yX3_common, Cond.code yX3_common cX3_common 10 (some .long), Cond.methodLink RX3 117 yX3_periodOf, Cond.static yX3_periodOf, Cond.code yX3_periodOf cX3_periodOf 13 (some .int), Cond.constantLong RX3 66 (600000000), Cond.constantLong RX3 68 (2)]
def wsX3_beatDenominator : List Cond := .code yX3_beatDenominator cX3_beatDenominator 4 (some .long) :: ((wsX3_beatDenominator_r1 ++ (wsX3_beatDenominator_r2 ++ wsX3_beatDenominator_r3)) ++ wsX30)
def wsX3_beatFrequency_r1 : List Cond := [Cond.methodLink RX3 120 yX3_beat, Cond.instanceMethod yX3_beat, Cond.selects RX3 yX3_beat yX3_beat, Cond.initialized RX3, Cond.code yX3_beat cX3_beat 10 (some .long), Cond.constantLong RX3 80 (-1), Cond.fieldLink RX3 94 "PlateBeatsModel" "all" "I", Cond.constantLong RX3 115 (-4), Cond.fieldLink RX3 19 "PlateBeatsModel" "square" "[J", Cond.methodLink RX3 70 yX3_isPair, Cond.instanceMethod yX3_isPair, Cond.selects RX3 yX3_isPair yX3_isPair, Cond.code yX3_isPair cX3_isPair 3 (some .boolean), Cond.methodLink RX3 31 yX3_isPlate, Cond.instanceMethod yX3_isPlate, Cond.selects RX3 yX3_isPlate yX3_isPlate, Cond.code yX3_isPlate cX3_isPlate 2 (some .boolean), Cond.fieldLink RX3 7 "PlateBeatsModel" "p" "[I", Cond.methodLink RX3 27 yX3_in, Cond.static yX3_in, Cond.code yX3_in cX3_in 3 (some .boolean), Cond.methodLink RX3 108 yX3_laySquares, Cond.instanceMethod yX3_laySquares, Cond.selects RX3 yX3_laySquares yX3_laySquares]
def wsX3_beatFrequency_r2 : List Cond := [Cond.code yX3_laySquares cX3_laySquares 6 none, Cond.methodLink RX3 97 yX3_layWith, Cond.instanceMethod yX3_layWith, Cond.selects RX3 yX3_layWith yX3_layWith, Cond.code yX3_layWith cX3_layWith 8 none, Cond.methodLink RX3 82 yX3_pairSquare, Cond.instanceMethod yX3_pairSquare, Cond.selects RX3 yX3_pairSquare yX3_pairSquare, Cond.code yX3_pairSquare cX3_pairSquare 15 (some .long), Cond.methodLink RX3 49 yX3_areaOf, Cond.instanceMethod yX3_areaOf, Cond.selects RX3 yX3_areaOf yX3_areaOf, Cond.code yX3_areaOf cX3_areaOf 2 (some .int), Cond.methodLink RX3 35 yX3_firstOf, Cond.instanceMethod yX3_firstOf, Cond.selects RX3 yX3_firstOf yX3_firstOf, Cond.code yX3_firstOf cX3_firstOf 2 (some .int), Cond.methodLink RX3 39 yX3_secondOf, Cond.instanceMethod yX3_secondOf, Cond.selects RX3 yX3_secondOf yX3_secondOf, Cond.code yX3_secondOf cX3_secondOf 2 (some .int), Cond.methodLink RX3 101 yX3_insert, Cond.instanceMethod yX3_insert, Cond.selects RX3 yX3_insert yX3_insert]
def wsX3_beatFrequency_r3 : List Cond := [Cond.code yX3_insert cX3_insert 4 none, Cond.methodLink RX3 112 yX3_placeOf, Cond.instanceMethod yX3_placeOf, Cond.selects RX3 yX3_placeOf yX3_placeOf, Cond.code yX3_placeOf cX3_placeOf 4 (some .int), Cond.methodLink RX3 105 yX3_behind, Cond.instanceMethod yX3_behind, Cond.selects RX3 yX3_behind yX3_behind, Cond.code yX3_behind cX3_behind 3 (some .int), Cond.methodLink RX3 86 yX3_pairBase, Cond.instanceMethod yX3_pairBase, Cond.selects RX3 yX3_pairBase yX3_pairBase, Cond.code yX3_pairBase cX3_pairBase 5 (some .long), Cond.methodLink RX3 52 yX3_common, Cond.static yX3_common, Cond.code yX3_common cX3_common 10 (some .long), Cond.methodLink RX3 117 yX3_periodOf, Cond.static yX3_periodOf, Cond.code yX3_periodOf cX3_periodOf 13 (some .int), Cond.constantLong RX3 66 (600000000), Cond.constantLong RX3 68 (2)]
def wsX3_beatFrequency : List Cond := .code yX3_beatFrequency cX3_beatFrequency 4 (some .int) :: ((wsX3_beatFrequency_r1 ++ (wsX3_beatFrequency_r2 ++ wsX3_beatFrequency_r3)) ++ wsX30)
def wsX3_beatPeriod_r1 : List Cond := [Cond.methodLink RX3 120 yX3_beat, Cond.instanceMethod yX3_beat, Cond.selects RX3 yX3_beat yX3_beat, Cond.initialized RX3, Cond.code yX3_beat cX3_beat 10 (some .long), Cond.constantLong RX3 80 (-1), Cond.fieldLink RX3 94 "PlateBeatsModel" "all" "I", Cond.constantLong RX3 115 (-4), Cond.fieldLink RX3 19 "PlateBeatsModel" "square" "[J", Cond.methodLink RX3 70 yX3_isPair, Cond.instanceMethod yX3_isPair, Cond.selects RX3 yX3_isPair yX3_isPair, Cond.code yX3_isPair cX3_isPair 3 (some .boolean), Cond.methodLink RX3 31 yX3_isPlate, Cond.instanceMethod yX3_isPlate, Cond.selects RX3 yX3_isPlate yX3_isPlate, Cond.code yX3_isPlate cX3_isPlate 2 (some .boolean), Cond.fieldLink RX3 7 "PlateBeatsModel" "p" "[I", Cond.methodLink RX3 27 yX3_in, Cond.static yX3_in, Cond.code yX3_in cX3_in 3 (some .boolean), Cond.methodLink RX3 108 yX3_laySquares, Cond.instanceMethod yX3_laySquares, Cond.selects RX3 yX3_laySquares yX3_laySquares]
def wsX3_beatPeriod_r2 : List Cond := [Cond.code yX3_laySquares cX3_laySquares 6 none, Cond.methodLink RX3 97 yX3_layWith, Cond.instanceMethod yX3_layWith, Cond.selects RX3 yX3_layWith yX3_layWith, Cond.code yX3_layWith cX3_layWith 8 none, Cond.methodLink RX3 82 yX3_pairSquare, Cond.instanceMethod yX3_pairSquare, Cond.selects RX3 yX3_pairSquare yX3_pairSquare, Cond.code yX3_pairSquare cX3_pairSquare 15 (some .long), Cond.methodLink RX3 49 yX3_areaOf, Cond.instanceMethod yX3_areaOf, Cond.selects RX3 yX3_areaOf yX3_areaOf, Cond.code yX3_areaOf cX3_areaOf 2 (some .int), Cond.methodLink RX3 35 yX3_firstOf, Cond.instanceMethod yX3_firstOf, Cond.selects RX3 yX3_firstOf yX3_firstOf, Cond.code yX3_firstOf cX3_firstOf 2 (some .int), Cond.methodLink RX3 39 yX3_secondOf, Cond.instanceMethod yX3_secondOf, Cond.selects RX3 yX3_secondOf yX3_secondOf, Cond.code yX3_secondOf cX3_secondOf 2 (some .int), Cond.methodLink RX3 101 yX3_insert, Cond.instanceMethod yX3_insert, Cond.selects RX3 yX3_insert yX3_insert]
def wsX3_beatPeriod_r3 : List Cond := [Cond.code yX3_insert cX3_insert 4 none, Cond.methodLink RX3 112 yX3_placeOf, Cond.instanceMethod yX3_placeOf, Cond.selects RX3 yX3_placeOf yX3_placeOf, Cond.code yX3_placeOf cX3_placeOf 4 (some .int), Cond.methodLink RX3 105 yX3_behind, Cond.instanceMethod yX3_behind, Cond.selects RX3 yX3_behind yX3_behind, Cond.code yX3_behind cX3_behind 3 (some .int), Cond.methodLink RX3 86 yX3_pairBase, Cond.instanceMethod yX3_pairBase, Cond.selects RX3 yX3_pairBase yX3_pairBase, Cond.code yX3_pairBase cX3_pairBase 5 (some .long), Cond.methodLink RX3 52 yX3_common, Cond.static yX3_common, Cond.code yX3_common cX3_common 10 (some .long), Cond.methodLink RX3 117 yX3_periodOf, Cond.static yX3_periodOf, Cond.code yX3_periodOf cX3_periodOf 13 (some .int), Cond.constantLong RX3 66 (600000000), Cond.constantLong RX3 68 (2)]
def wsX3_beatPeriod : List Cond := .code yX3_beatPeriod cX3_beatPeriod 4 (some .int) :: ((wsX3_beatPeriod_r1 ++ (wsX3_beatPeriod_r2 ++ wsX3_beatPeriod_r3)) ++ wsX30)
def wsX3_ofKind_r1 : List Cond := [Cond.fieldLink RX3 124 "PlateBeatsModel" "widest" "J", Cond.fieldLink RX3 7 "PlateBeatsModel" "p" "[I", Cond.methodLink RX3 86 yX3_pairBase, Cond.instanceMethod yX3_pairBase, Cond.selects RX3 yX3_pairBase yX3_pairBase, Cond.initialized RX3, Cond.code yX3_pairBase cX3_pairBase 5 (some .long), Cond.methodLink RX3 49 yX3_areaOf, Cond.instanceMethod yX3_areaOf, Cond.selects RX3 yX3_areaOf yX3_areaOf, Cond.code yX3_areaOf cX3_areaOf 2 (some .int), Cond.methodLink RX3 35 yX3_firstOf, Cond.instanceMethod yX3_firstOf, Cond.selects RX3 yX3_firstOf yX3_firstOf, Cond.code yX3_firstOf cX3_firstOf 2 (some .int), Cond.methodLink RX3 39 yX3_secondOf, Cond.instanceMethod yX3_secondOf, Cond.selects RX3 yX3_secondOf yX3_secondOf, Cond.code yX3_secondOf cX3_secondOf 2 (some .int), Cond.methodLink RX3 82 yX3_pairSquare, Cond.instanceMethod yX3_pairSquare, Cond.selects RX3 yX3_pairSquare yX3_pairSquare, Cond.code yX3_pairSquare cX3_pairSquare 15 (some .long), Cond.methodLink RX3 90 yX3_kindOf]
def wsX3_ofKind_r2 : List Cond := [Cond.instanceMethod yX3_kindOf, Cond.selects RX3 yX3_kindOf yX3_kindOf, Cond.code yX3_kindOf cX3_kindOf 9 (some .int)]
def wsX3_ofKind : List Cond := .code yX3_ofKind cX3_ofKind 17 (some .int) :: ((wsX3_ofKind_r1 ++ wsX3_ofKind_r2) ++ wsX30)
def wsX3_locked_r1 : List Cond := [Cond.methodLink RX3 70 yX3_isPair, Cond.instanceMethod yX3_isPair, Cond.selects RX3 yX3_isPair yX3_isPair, Cond.initialized RX3, Cond.code yX3_isPair cX3_isPair 3 (some .boolean), Cond.methodLink RX3 31 yX3_isPlate, Cond.instanceMethod yX3_isPlate, Cond.selects RX3 yX3_isPlate yX3_isPlate, Cond.code yX3_isPlate cX3_isPlate 2 (some .boolean), Cond.fieldLink RX3 7 "PlateBeatsModel" "p" "[I", Cond.methodLink RX3 27 yX3_in, Cond.static yX3_in, Cond.code yX3_in cX3_in 3 (some .boolean), Cond.methodLink RX3 128 yX3_ofKind, Cond.instanceMethod yX3_ofKind, Cond.selects RX3 yX3_ofKind yX3_ofKind, Cond.code yX3_ofKind cX3_ofKind 17 (some .int), Cond.fieldLink RX3 124 "PlateBeatsModel" "widest" "J", Cond.methodLink RX3 86 yX3_pairBase, Cond.instanceMethod yX3_pairBase, Cond.selects RX3 yX3_pairBase yX3_pairBase, Cond.code yX3_pairBase cX3_pairBase 5 (some .long), Cond.methodLink RX3 49 yX3_areaOf, Cond.instanceMethod yX3_areaOf]
def wsX3_locked_r2 : List Cond := [Cond.selects RX3 yX3_areaOf yX3_areaOf, Cond.code yX3_areaOf cX3_areaOf 2 (some .int), Cond.methodLink RX3 35 yX3_firstOf, Cond.instanceMethod yX3_firstOf, Cond.selects RX3 yX3_firstOf yX3_firstOf, Cond.code yX3_firstOf cX3_firstOf 2 (some .int), Cond.methodLink RX3 39 yX3_secondOf, Cond.instanceMethod yX3_secondOf, Cond.selects RX3 yX3_secondOf yX3_secondOf, Cond.code yX3_secondOf cX3_secondOf 2 (some .int), Cond.methodLink RX3 82 yX3_pairSquare, Cond.instanceMethod yX3_pairSquare, Cond.selects RX3 yX3_pairSquare yX3_pairSquare, Cond.code yX3_pairSquare cX3_pairSquare 15 (some .long), Cond.methodLink RX3 90 yX3_kindOf, Cond.instanceMethod yX3_kindOf, Cond.selects RX3 yX3_kindOf yX3_kindOf, Cond.code yX3_kindOf cX3_kindOf 9 (some .int)]
def wsX3_locked : List Cond := .code yX3_locked cX3_locked 3 (some .int) :: ((wsX3_locked_r1 ++ wsX3_locked_r2) ++ wsX30)
def wsX3_bands_r1 : List Cond := [Cond.methodLink RX3 70 yX3_isPair, Cond.instanceMethod yX3_isPair, Cond.selects RX3 yX3_isPair yX3_isPair, Cond.initialized RX3, Cond.code yX3_isPair cX3_isPair 3 (some .boolean), Cond.methodLink RX3 31 yX3_isPlate, Cond.instanceMethod yX3_isPlate, Cond.selects RX3 yX3_isPlate yX3_isPlate, Cond.code yX3_isPlate cX3_isPlate 2 (some .boolean), Cond.fieldLink RX3 7 "PlateBeatsModel" "p" "[I", Cond.methodLink RX3 27 yX3_in, Cond.static yX3_in, Cond.code yX3_in cX3_in 3 (some .boolean), Cond.methodLink RX3 128 yX3_ofKind, Cond.instanceMethod yX3_ofKind, Cond.selects RX3 yX3_ofKind yX3_ofKind, Cond.code yX3_ofKind cX3_ofKind 17 (some .int), Cond.fieldLink RX3 124 "PlateBeatsModel" "widest" "J", Cond.methodLink RX3 86 yX3_pairBase, Cond.instanceMethod yX3_pairBase, Cond.selects RX3 yX3_pairBase yX3_pairBase, Cond.code yX3_pairBase cX3_pairBase 5 (some .long), Cond.methodLink RX3 49 yX3_areaOf, Cond.instanceMethod yX3_areaOf]
def wsX3_bands_r2 : List Cond := [Cond.selects RX3 yX3_areaOf yX3_areaOf, Cond.code yX3_areaOf cX3_areaOf 2 (some .int), Cond.methodLink RX3 35 yX3_firstOf, Cond.instanceMethod yX3_firstOf, Cond.selects RX3 yX3_firstOf yX3_firstOf, Cond.code yX3_firstOf cX3_firstOf 2 (some .int), Cond.methodLink RX3 39 yX3_secondOf, Cond.instanceMethod yX3_secondOf, Cond.selects RX3 yX3_secondOf yX3_secondOf, Cond.code yX3_secondOf cX3_secondOf 2 (some .int), Cond.methodLink RX3 82 yX3_pairSquare, Cond.instanceMethod yX3_pairSquare, Cond.selects RX3 yX3_pairSquare yX3_pairSquare, Cond.code yX3_pairSquare cX3_pairSquare 15 (some .long), Cond.methodLink RX3 90 yX3_kindOf, Cond.instanceMethod yX3_kindOf, Cond.selects RX3 yX3_kindOf yX3_kindOf, Cond.code yX3_kindOf cX3_kindOf 9 (some .int)]
def wsX3_bands : List Cond := .code yX3_bands cX3_bands 3 (some .int) :: ((wsX3_bands_r1 ++ wsX3_bands_r2) ++ wsX30)
def wsX3_bandsOfThree_r1 : List Cond := [Cond.fieldLink RX3 124 "PlateBeatsModel" "widest" "J", Cond.methodLink RX3 132 yX3_tripleBase, Cond.instanceMethod yX3_tripleBase, Cond.selects RX3 yX3_tripleBase yX3_tripleBase, Cond.initialized RX3, Cond.code yX3_tripleBase cX3_tripleBase 6 (some .long), Cond.methodLink RX3 49 yX3_areaOf, Cond.instanceMethod yX3_areaOf, Cond.selects RX3 yX3_areaOf yX3_areaOf, Cond.code yX3_areaOf cX3_areaOf 2 (some .int), Cond.methodLink RX3 35 yX3_firstOf, Cond.instanceMethod yX3_firstOf, Cond.selects RX3 yX3_firstOf yX3_firstOf, Cond.code yX3_firstOf cX3_firstOf 2 (some .int), Cond.fieldLink RX3 7 "PlateBeatsModel" "p" "[I", Cond.methodLink RX3 39 yX3_secondOf, Cond.instanceMethod yX3_secondOf, Cond.selects RX3 yX3_secondOf yX3_secondOf, Cond.code yX3_secondOf cX3_secondOf 2 (some .int), Cond.methodLink RX3 136 yX3_tripleSquare, Cond.instanceMethod yX3_tripleSquare, Cond.selects RX3 yX3_tripleSquare yX3_tripleSquare, Cond.code yX3_tripleSquare cX3_tripleSquare 15 (some .long), Cond.methodLink RX3 62 yX3_part]
def wsX3_bandsOfThree_r2 : List Cond := [Cond.instanceMethod yX3_part, Cond.selects RX3 yX3_part yX3_part, Cond.code yX3_part cX3_part 5 (some .int), Cond.methodLink RX3 90 yX3_kindOf, Cond.instanceMethod yX3_kindOf, Cond.selects RX3 yX3_kindOf yX3_kindOf, Cond.code yX3_kindOf cX3_kindOf 9 (some .int)]
def wsX3_bandsOfThree : List Cond := .code yX3_bandsOfThree cX3_bandsOfThree 11 (some .int) :: ((wsX3_bandsOfThree_r1 ++ wsX3_bandsOfThree_r2) ++ wsX30)
def wsX3_tripleBands_r1 : List Cond := [Cond.methodLink RX3 70 yX3_isPair, Cond.instanceMethod yX3_isPair, Cond.selects RX3 yX3_isPair yX3_isPair, Cond.initialized RX3, Cond.code yX3_isPair cX3_isPair 3 (some .boolean), Cond.methodLink RX3 31 yX3_isPlate, Cond.instanceMethod yX3_isPlate, Cond.selects RX3 yX3_isPlate yX3_isPlate, Cond.code yX3_isPlate cX3_isPlate 2 (some .boolean), Cond.fieldLink RX3 7 "PlateBeatsModel" "p" "[I", Cond.methodLink RX3 27 yX3_in, Cond.static yX3_in, Cond.code yX3_in cX3_in 3 (some .boolean), Cond.methodLink RX3 139 yX3_bandsOfThree, Cond.instanceMethod yX3_bandsOfThree, Cond.selects RX3 yX3_bandsOfThree yX3_bandsOfThree, Cond.code yX3_bandsOfThree cX3_bandsOfThree 11 (some .int), Cond.fieldLink RX3 124 "PlateBeatsModel" "widest" "J", Cond.methodLink RX3 132 yX3_tripleBase, Cond.instanceMethod yX3_tripleBase, Cond.selects RX3 yX3_tripleBase yX3_tripleBase, Cond.code yX3_tripleBase cX3_tripleBase 6 (some .long), Cond.methodLink RX3 49 yX3_areaOf, Cond.instanceMethod yX3_areaOf]
def wsX3_tripleBands_r2 : List Cond := [Cond.selects RX3 yX3_areaOf yX3_areaOf, Cond.code yX3_areaOf cX3_areaOf 2 (some .int), Cond.methodLink RX3 35 yX3_firstOf, Cond.instanceMethod yX3_firstOf, Cond.selects RX3 yX3_firstOf yX3_firstOf, Cond.code yX3_firstOf cX3_firstOf 2 (some .int), Cond.methodLink RX3 39 yX3_secondOf, Cond.instanceMethod yX3_secondOf, Cond.selects RX3 yX3_secondOf yX3_secondOf, Cond.code yX3_secondOf cX3_secondOf 2 (some .int), Cond.methodLink RX3 136 yX3_tripleSquare, Cond.instanceMethod yX3_tripleSquare, Cond.selects RX3 yX3_tripleSquare yX3_tripleSquare, Cond.code yX3_tripleSquare cX3_tripleSquare 15 (some .long), Cond.methodLink RX3 62 yX3_part, Cond.instanceMethod yX3_part, Cond.selects RX3 yX3_part yX3_part, Cond.code yX3_part cX3_part 5 (some .int), Cond.methodLink RX3 90 yX3_kindOf, Cond.instanceMethod yX3_kindOf, Cond.selects RX3 yX3_kindOf yX3_kindOf, Cond.code yX3_kindOf cX3_kindOf 9 (some .int)]
def wsX3_tripleBands : List Cond := .code yX3_tripleBands cX3_tripleBands 4 (some .int) :: ((wsX3_tripleBands_r1 ++ wsX3_tripleBands_r2) ++ wsX30)
def wsX3_note : List Cond := .code yX3_note cX3_note 4 none :: ([.fieldLink RX3 124 "PlateBeatsModel" "widest" "J", .fieldLink RX3 142 "PlateBeatsModel" "worst" "I", .fieldLink RX3 145 "PlateBeatsModel" "worstSet" "I", .methodLink RX3 117 yX3_periodOf, .static yX3_periodOf, .initialized RX3, .code yX3_periodOf cX3_periodOf 13 (some .int), .constantLong RX3 66 (600000000), .constantLong RX3 68 (2)] ++ wsX30)
def wsX3_findAll_r1 : List Cond := [Cond.fieldLink RX3 142 "PlateBeatsModel" "worst" "I", Cond.fieldLink RX3 145 "PlateBeatsModel" "worstSet" "I", Cond.fieldLink RX3 7 "PlateBeatsModel" "p" "[I", Cond.methodLink RX3 128 yX3_ofKind, Cond.instanceMethod yX3_ofKind, Cond.selects RX3 yX3_ofKind yX3_ofKind, Cond.initialized RX3, Cond.code yX3_ofKind cX3_ofKind 17 (some .int), Cond.fieldLink RX3 124 "PlateBeatsModel" "widest" "J", Cond.methodLink RX3 86 yX3_pairBase, Cond.instanceMethod yX3_pairBase, Cond.selects RX3 yX3_pairBase yX3_pairBase, Cond.code yX3_pairBase cX3_pairBase 5 (some .long), Cond.methodLink RX3 49 yX3_areaOf, Cond.instanceMethod yX3_areaOf, Cond.selects RX3 yX3_areaOf yX3_areaOf, Cond.code yX3_areaOf cX3_areaOf 2 (some .int), Cond.methodLink RX3 35 yX3_firstOf, Cond.instanceMethod yX3_firstOf, Cond.selects RX3 yX3_firstOf yX3_firstOf, Cond.code yX3_firstOf cX3_firstOf 2 (some .int), Cond.methodLink RX3 39 yX3_secondOf, Cond.instanceMethod yX3_secondOf, Cond.selects RX3 yX3_secondOf yX3_secondOf]
def wsX3_findAll_r2 : List Cond := [Cond.code yX3_secondOf cX3_secondOf 2 (some .int), Cond.methodLink RX3 82 yX3_pairSquare, Cond.instanceMethod yX3_pairSquare, Cond.selects RX3 yX3_pairSquare yX3_pairSquare, Cond.code yX3_pairSquare cX3_pairSquare 15 (some .long), Cond.methodLink RX3 90 yX3_kindOf, Cond.instanceMethod yX3_kindOf, Cond.selects RX3 yX3_kindOf yX3_kindOf, Cond.code yX3_kindOf cX3_kindOf 9 (some .int), Cond.methodLink RX3 148 yX3_note, Cond.instanceMethod yX3_note, Cond.selects RX3 yX3_note yX3_note, Cond.code yX3_note cX3_note 4 none, Cond.methodLink RX3 117 yX3_periodOf, Cond.static yX3_periodOf, Cond.code yX3_periodOf cX3_periodOf 13 (some .int), Cond.constantLong RX3 66 (600000000), Cond.constantLong RX3 68 (2), Cond.methodLink RX3 70 yX3_isPair, Cond.instanceMethod yX3_isPair, Cond.selects RX3 yX3_isPair yX3_isPair, Cond.code yX3_isPair cX3_isPair 3 (some .boolean), Cond.methodLink RX3 31 yX3_isPlate, Cond.instanceMethod yX3_isPlate]
def wsX3_findAll_r3 : List Cond := [Cond.selects RX3 yX3_isPlate yX3_isPlate, Cond.code yX3_isPlate cX3_isPlate 2 (some .boolean), Cond.methodLink RX3 27 yX3_in, Cond.static yX3_in, Cond.code yX3_in cX3_in 3 (some .boolean), Cond.methodLink RX3 139 yX3_bandsOfThree, Cond.instanceMethod yX3_bandsOfThree, Cond.selects RX3 yX3_bandsOfThree yX3_bandsOfThree, Cond.code yX3_bandsOfThree cX3_bandsOfThree 11 (some .int), Cond.methodLink RX3 132 yX3_tripleBase, Cond.instanceMethod yX3_tripleBase, Cond.selects RX3 yX3_tripleBase yX3_tripleBase, Cond.code yX3_tripleBase cX3_tripleBase 6 (some .long), Cond.methodLink RX3 136 yX3_tripleSquare, Cond.instanceMethod yX3_tripleSquare, Cond.selects RX3 yX3_tripleSquare yX3_tripleSquare, Cond.code yX3_tripleSquare cX3_tripleSquare 15 (some .long), Cond.methodLink RX3 62 yX3_part, Cond.instanceMethod yX3_part, Cond.selects RX3 yX3_part yX3_part, Cond.code yX3_part cX3_part 5 (some .int)]
def wsX3_findAll : List Cond := .code yX3_findAll cX3_findAll 6 (some .int) :: ((wsX3_findAll_r1 ++ (wsX3_findAll_r2 ++ wsX3_findAll_r3)) ++ wsX30)
def wsX3_allBands_r1 : List Cond := [Cond.methodLink RX3 152 yX3_findAll, Cond.instanceMethod yX3_findAll, Cond.selects RX3 yX3_findAll yX3_findAll, Cond.initialized RX3, Cond.code yX3_findAll cX3_findAll 6 (some .int), Cond.fieldLink RX3 142 "PlateBeatsModel" "worst" "I", Cond.fieldLink RX3 145 "PlateBeatsModel" "worstSet" "I", Cond.fieldLink RX3 7 "PlateBeatsModel" "p" "[I", Cond.methodLink RX3 128 yX3_ofKind, Cond.instanceMethod yX3_ofKind, Cond.selects RX3 yX3_ofKind yX3_ofKind, Cond.code yX3_ofKind cX3_ofKind 17 (some .int), Cond.fieldLink RX3 124 "PlateBeatsModel" "widest" "J", Cond.methodLink RX3 86 yX3_pairBase, Cond.instanceMethod yX3_pairBase, Cond.selects RX3 yX3_pairBase yX3_pairBase, Cond.code yX3_pairBase cX3_pairBase 5 (some .long), Cond.methodLink RX3 49 yX3_areaOf, Cond.instanceMethod yX3_areaOf, Cond.selects RX3 yX3_areaOf yX3_areaOf, Cond.code yX3_areaOf cX3_areaOf 2 (some .int), Cond.methodLink RX3 35 yX3_firstOf, Cond.instanceMethod yX3_firstOf, Cond.selects RX3 yX3_firstOf yX3_firstOf]
def wsX3_allBands_r2 : List Cond := [Cond.code yX3_firstOf cX3_firstOf 2 (some .int), Cond.methodLink RX3 39 yX3_secondOf, Cond.instanceMethod yX3_secondOf, Cond.selects RX3 yX3_secondOf yX3_secondOf, Cond.code yX3_secondOf cX3_secondOf 2 (some .int), Cond.methodLink RX3 82 yX3_pairSquare, Cond.instanceMethod yX3_pairSquare, Cond.selects RX3 yX3_pairSquare yX3_pairSquare, Cond.code yX3_pairSquare cX3_pairSquare 15 (some .long), Cond.methodLink RX3 90 yX3_kindOf, Cond.instanceMethod yX3_kindOf, Cond.selects RX3 yX3_kindOf yX3_kindOf, Cond.code yX3_kindOf cX3_kindOf 9 (some .int), Cond.methodLink RX3 148 yX3_note, Cond.instanceMethod yX3_note, Cond.selects RX3 yX3_note yX3_note, Cond.code yX3_note cX3_note 4 none, Cond.methodLink RX3 117 yX3_periodOf, Cond.static yX3_periodOf, Cond.code yX3_periodOf cX3_periodOf 13 (some .int), Cond.constantLong RX3 66 (600000000), Cond.constantLong RX3 68 (2), Cond.methodLink RX3 70 yX3_isPair, Cond.instanceMethod yX3_isPair]
def wsX3_allBands_r3 : List Cond := [Cond.selects RX3 yX3_isPair yX3_isPair, Cond.code yX3_isPair cX3_isPair 3 (some .boolean), Cond.methodLink RX3 31 yX3_isPlate, Cond.instanceMethod yX3_isPlate, Cond.selects RX3 yX3_isPlate yX3_isPlate, Cond.code yX3_isPlate cX3_isPlate 2 (some .boolean), Cond.methodLink RX3 27 yX3_in, Cond.static yX3_in, Cond.code yX3_in cX3_in 3 (some .boolean), Cond.methodLink RX3 139 yX3_bandsOfThree, Cond.instanceMethod yX3_bandsOfThree, Cond.selects RX3 yX3_bandsOfThree yX3_bandsOfThree, Cond.code yX3_bandsOfThree cX3_bandsOfThree 11 (some .int), Cond.methodLink RX3 132 yX3_tripleBase, Cond.instanceMethod yX3_tripleBase, Cond.selects RX3 yX3_tripleBase yX3_tripleBase, Cond.code yX3_tripleBase cX3_tripleBase 6 (some .long), Cond.methodLink RX3 136 yX3_tripleSquare, Cond.instanceMethod yX3_tripleSquare, Cond.selects RX3 yX3_tripleSquare yX3_tripleSquare, Cond.code yX3_tripleSquare cX3_tripleSquare 15 (some .long), Cond.methodLink RX3 62 yX3_part, Cond.instanceMethod yX3_part, Cond.selects RX3 yX3_part yX3_part]
def wsX3_allBands_r4 : List Cond := [Cond.code yX3_part cX3_part 5 (some .int)]
def wsX3_allBands : List Cond := .code yX3_allBands cX3_allBands 1 (some .int) :: ((wsX3_allBands_r1 ++ (wsX3_allBands_r2 ++ (wsX3_allBands_r3 ++ wsX3_allBands_r4))) ++ wsX30)
def wsX3_worstPlates_r1 : List Cond := [Cond.fieldLink RX3 145 "PlateBeatsModel" "worstSet" "I", Cond.methodLink RX3 152 yX3_findAll, Cond.instanceMethod yX3_findAll, Cond.selects RX3 yX3_findAll yX3_findAll, Cond.initialized RX3, Cond.code yX3_findAll cX3_findAll 6 (some .int), Cond.fieldLink RX3 142 "PlateBeatsModel" "worst" "I", Cond.fieldLink RX3 7 "PlateBeatsModel" "p" "[I", Cond.methodLink RX3 128 yX3_ofKind, Cond.instanceMethod yX3_ofKind, Cond.selects RX3 yX3_ofKind yX3_ofKind, Cond.code yX3_ofKind cX3_ofKind 17 (some .int), Cond.fieldLink RX3 124 "PlateBeatsModel" "widest" "J", Cond.methodLink RX3 86 yX3_pairBase, Cond.instanceMethod yX3_pairBase, Cond.selects RX3 yX3_pairBase yX3_pairBase, Cond.code yX3_pairBase cX3_pairBase 5 (some .long), Cond.methodLink RX3 49 yX3_areaOf, Cond.instanceMethod yX3_areaOf, Cond.selects RX3 yX3_areaOf yX3_areaOf, Cond.code yX3_areaOf cX3_areaOf 2 (some .int), Cond.methodLink RX3 35 yX3_firstOf, Cond.instanceMethod yX3_firstOf, Cond.selects RX3 yX3_firstOf yX3_firstOf]
def wsX3_worstPlates_r2 : List Cond := [Cond.code yX3_firstOf cX3_firstOf 2 (some .int), Cond.methodLink RX3 39 yX3_secondOf, Cond.instanceMethod yX3_secondOf, Cond.selects RX3 yX3_secondOf yX3_secondOf, Cond.code yX3_secondOf cX3_secondOf 2 (some .int), Cond.methodLink RX3 82 yX3_pairSquare, Cond.instanceMethod yX3_pairSquare, Cond.selects RX3 yX3_pairSquare yX3_pairSquare, Cond.code yX3_pairSquare cX3_pairSquare 15 (some .long), Cond.methodLink RX3 90 yX3_kindOf, Cond.instanceMethod yX3_kindOf, Cond.selects RX3 yX3_kindOf yX3_kindOf, Cond.code yX3_kindOf cX3_kindOf 9 (some .int), Cond.methodLink RX3 148 yX3_note, Cond.instanceMethod yX3_note, Cond.selects RX3 yX3_note yX3_note, Cond.code yX3_note cX3_note 4 none, Cond.methodLink RX3 117 yX3_periodOf, Cond.static yX3_periodOf, Cond.code yX3_periodOf cX3_periodOf 13 (some .int), Cond.constantLong RX3 66 (600000000), Cond.constantLong RX3 68 (2), Cond.methodLink RX3 70 yX3_isPair, Cond.instanceMethod yX3_isPair]
def wsX3_worstPlates_r3 : List Cond := [Cond.selects RX3 yX3_isPair yX3_isPair, Cond.code yX3_isPair cX3_isPair 3 (some .boolean), Cond.methodLink RX3 31 yX3_isPlate, Cond.instanceMethod yX3_isPlate, Cond.selects RX3 yX3_isPlate yX3_isPlate, Cond.code yX3_isPlate cX3_isPlate 2 (some .boolean), Cond.methodLink RX3 27 yX3_in, Cond.static yX3_in, Cond.code yX3_in cX3_in 3 (some .boolean), Cond.methodLink RX3 139 yX3_bandsOfThree, Cond.instanceMethod yX3_bandsOfThree, Cond.selects RX3 yX3_bandsOfThree yX3_bandsOfThree, Cond.code yX3_bandsOfThree cX3_bandsOfThree 11 (some .int), Cond.methodLink RX3 132 yX3_tripleBase, Cond.instanceMethod yX3_tripleBase, Cond.selects RX3 yX3_tripleBase yX3_tripleBase, Cond.code yX3_tripleBase cX3_tripleBase 6 (some .long), Cond.methodLink RX3 136 yX3_tripleSquare, Cond.instanceMethod yX3_tripleSquare, Cond.selects RX3 yX3_tripleSquare yX3_tripleSquare, Cond.code yX3_tripleSquare cX3_tripleSquare 15 (some .long), Cond.methodLink RX3 62 yX3_part, Cond.instanceMethod yX3_part, Cond.selects RX3 yX3_part yX3_part]
def wsX3_worstPlates_r4 : List Cond := [Cond.code yX3_part cX3_part 5 (some .int)]
def wsX3_worstPlates : List Cond := .code yX3_worstPlates cX3_worstPlates 2 (some .int) :: ((wsX3_worstPlates_r1 ++ (wsX3_worstPlates_r2 ++ (wsX3_worstPlates_r3 ++ wsX3_worstPlates_r4))) ++ wsX30)
def wsX3_worstPeriod_r1 : List Cond := [Cond.fieldLink RX3 142 "PlateBeatsModel" "worst" "I", Cond.methodLink RX3 152 yX3_findAll, Cond.instanceMethod yX3_findAll, Cond.selects RX3 yX3_findAll yX3_findAll, Cond.initialized RX3, Cond.code yX3_findAll cX3_findAll 6 (some .int), Cond.fieldLink RX3 145 "PlateBeatsModel" "worstSet" "I", Cond.fieldLink RX3 7 "PlateBeatsModel" "p" "[I", Cond.methodLink RX3 128 yX3_ofKind, Cond.instanceMethod yX3_ofKind, Cond.selects RX3 yX3_ofKind yX3_ofKind, Cond.code yX3_ofKind cX3_ofKind 17 (some .int), Cond.fieldLink RX3 124 "PlateBeatsModel" "widest" "J", Cond.methodLink RX3 86 yX3_pairBase, Cond.instanceMethod yX3_pairBase, Cond.selects RX3 yX3_pairBase yX3_pairBase, Cond.code yX3_pairBase cX3_pairBase 5 (some .long), Cond.methodLink RX3 49 yX3_areaOf, Cond.instanceMethod yX3_areaOf, Cond.selects RX3 yX3_areaOf yX3_areaOf, Cond.code yX3_areaOf cX3_areaOf 2 (some .int), Cond.methodLink RX3 35 yX3_firstOf, Cond.instanceMethod yX3_firstOf, Cond.selects RX3 yX3_firstOf yX3_firstOf]
def wsX3_worstPeriod_r2 : List Cond := [Cond.code yX3_firstOf cX3_firstOf 2 (some .int), Cond.methodLink RX3 39 yX3_secondOf, Cond.instanceMethod yX3_secondOf, Cond.selects RX3 yX3_secondOf yX3_secondOf, Cond.code yX3_secondOf cX3_secondOf 2 (some .int), Cond.methodLink RX3 82 yX3_pairSquare, Cond.instanceMethod yX3_pairSquare, Cond.selects RX3 yX3_pairSquare yX3_pairSquare, Cond.code yX3_pairSquare cX3_pairSquare 15 (some .long), Cond.methodLink RX3 90 yX3_kindOf, Cond.instanceMethod yX3_kindOf, Cond.selects RX3 yX3_kindOf yX3_kindOf, Cond.code yX3_kindOf cX3_kindOf 9 (some .int), Cond.methodLink RX3 148 yX3_note, Cond.instanceMethod yX3_note, Cond.selects RX3 yX3_note yX3_note, Cond.code yX3_note cX3_note 4 none, Cond.methodLink RX3 117 yX3_periodOf, Cond.static yX3_periodOf, Cond.code yX3_periodOf cX3_periodOf 13 (some .int), Cond.constantLong RX3 66 (600000000), Cond.constantLong RX3 68 (2), Cond.methodLink RX3 70 yX3_isPair, Cond.instanceMethod yX3_isPair]
def wsX3_worstPeriod_r3 : List Cond := [Cond.selects RX3 yX3_isPair yX3_isPair, Cond.code yX3_isPair cX3_isPair 3 (some .boolean), Cond.methodLink RX3 31 yX3_isPlate, Cond.instanceMethod yX3_isPlate, Cond.selects RX3 yX3_isPlate yX3_isPlate, Cond.code yX3_isPlate cX3_isPlate 2 (some .boolean), Cond.methodLink RX3 27 yX3_in, Cond.static yX3_in, Cond.code yX3_in cX3_in 3 (some .boolean), Cond.methodLink RX3 139 yX3_bandsOfThree, Cond.instanceMethod yX3_bandsOfThree, Cond.selects RX3 yX3_bandsOfThree yX3_bandsOfThree, Cond.code yX3_bandsOfThree cX3_bandsOfThree 11 (some .int), Cond.methodLink RX3 132 yX3_tripleBase, Cond.instanceMethod yX3_tripleBase, Cond.selects RX3 yX3_tripleBase yX3_tripleBase, Cond.code yX3_tripleBase cX3_tripleBase 6 (some .long), Cond.methodLink RX3 136 yX3_tripleSquare, Cond.instanceMethod yX3_tripleSquare, Cond.selects RX3 yX3_tripleSquare yX3_tripleSquare, Cond.code yX3_tripleSquare cX3_tripleSquare 15 (some .long), Cond.methodLink RX3 62 yX3_part, Cond.instanceMethod yX3_part, Cond.selects RX3 yX3_part yX3_part]
def wsX3_worstPeriod_r4 : List Cond := [Cond.code yX3_part cX3_part 5 (some .int)]
def wsX3_worstPeriod : List Cond := .code yX3_worstPeriod cX3_worstPeriod 2 (some .int) :: ((wsX3_worstPeriod_r1 ++ (wsX3_worstPeriod_r2 ++ (wsX3_worstPeriod_r3 ++ wsX3_worstPeriod_r4))) ++ wsX30)
def wsX3_worstPair_r1 : List Cond := [Cond.fieldLink RX3 7 "PlateBeatsModel" "p" "[I", Cond.methodLink RX3 128 yX3_ofKind, Cond.instanceMethod yX3_ofKind, Cond.selects RX3 yX3_ofKind yX3_ofKind, Cond.initialized RX3, Cond.code yX3_ofKind cX3_ofKind 17 (some .int), Cond.fieldLink RX3 124 "PlateBeatsModel" "widest" "J", Cond.methodLink RX3 86 yX3_pairBase, Cond.instanceMethod yX3_pairBase, Cond.selects RX3 yX3_pairBase yX3_pairBase, Cond.code yX3_pairBase cX3_pairBase 5 (some .long), Cond.methodLink RX3 49 yX3_areaOf, Cond.instanceMethod yX3_areaOf, Cond.selects RX3 yX3_areaOf yX3_areaOf, Cond.code yX3_areaOf cX3_areaOf 2 (some .int), Cond.methodLink RX3 35 yX3_firstOf, Cond.instanceMethod yX3_firstOf, Cond.selects RX3 yX3_firstOf yX3_firstOf, Cond.code yX3_firstOf cX3_firstOf 2 (some .int), Cond.methodLink RX3 39 yX3_secondOf, Cond.instanceMethod yX3_secondOf, Cond.selects RX3 yX3_secondOf yX3_secondOf, Cond.code yX3_secondOf cX3_secondOf 2 (some .int), Cond.methodLink RX3 82 yX3_pairSquare]
def wsX3_worstPair_r2 : List Cond := [Cond.instanceMethod yX3_pairSquare, Cond.selects RX3 yX3_pairSquare yX3_pairSquare, Cond.code yX3_pairSquare cX3_pairSquare 15 (some .long), Cond.methodLink RX3 90 yX3_kindOf, Cond.instanceMethod yX3_kindOf, Cond.selects RX3 yX3_kindOf yX3_kindOf, Cond.code yX3_kindOf cX3_kindOf 9 (some .int)]
def wsX3_worstPair : List Cond := .code yX3_worstPair cX3_worstPair 6 (some .int) :: ((wsX3_worstPair_r1 ++ wsX3_worstPair_r2) ++ wsX30)
def wsX3_size : List Cond := .code yX3_size cX3_size 1 (some .int) :: ([])
def wsX3_search_r1 : List Cond := [Cond.fieldLink RX3 156 "PlateBeatsModel" "fewest" "I", Cond.fieldLink RX3 7 "PlateBeatsModel" "p" "[I", Cond.methodLink RX3 35 yX3_firstOf, Cond.instanceMethod yX3_firstOf, Cond.selects RX3 yX3_firstOf yX3_firstOf, Cond.initialized RX3, Cond.code yX3_firstOf cX3_firstOf 2 (some .int), Cond.methodLink RX3 39 yX3_secondOf, Cond.instanceMethod yX3_secondOf, Cond.selects RX3 yX3_secondOf yX3_secondOf, Cond.code yX3_secondOf cX3_secondOf 2 (some .int), Cond.methodLink RX3 49 yX3_areaOf, Cond.instanceMethod yX3_areaOf, Cond.selects RX3 yX3_areaOf yX3_areaOf, Cond.code yX3_areaOf cX3_areaOf 2 (some .int), Cond.methodLink RX3 27 yX3_in, Cond.static yX3_in, Cond.code yX3_in cX3_in 3 (some .boolean), Cond.methodLink RX3 152 yX3_findAll, Cond.instanceMethod yX3_findAll, Cond.selects RX3 yX3_findAll yX3_findAll, Cond.code yX3_findAll cX3_findAll 6 (some .int), Cond.fieldLink RX3 142 "PlateBeatsModel" "worst" "I", Cond.fieldLink RX3 145 "PlateBeatsModel" "worstSet" "I"]
def wsX3_search_r2 : List Cond := [Cond.methodLink RX3 128 yX3_ofKind, Cond.instanceMethod yX3_ofKind, Cond.selects RX3 yX3_ofKind yX3_ofKind, Cond.code yX3_ofKind cX3_ofKind 17 (some .int), Cond.fieldLink RX3 124 "PlateBeatsModel" "widest" "J", Cond.methodLink RX3 86 yX3_pairBase, Cond.instanceMethod yX3_pairBase, Cond.selects RX3 yX3_pairBase yX3_pairBase, Cond.code yX3_pairBase cX3_pairBase 5 (some .long), Cond.methodLink RX3 82 yX3_pairSquare, Cond.instanceMethod yX3_pairSquare, Cond.selects RX3 yX3_pairSquare yX3_pairSquare, Cond.code yX3_pairSquare cX3_pairSquare 15 (some .long), Cond.methodLink RX3 90 yX3_kindOf, Cond.instanceMethod yX3_kindOf, Cond.selects RX3 yX3_kindOf yX3_kindOf, Cond.code yX3_kindOf cX3_kindOf 9 (some .int), Cond.methodLink RX3 148 yX3_note, Cond.instanceMethod yX3_note, Cond.selects RX3 yX3_note yX3_note, Cond.code yX3_note cX3_note 4 none, Cond.methodLink RX3 117 yX3_periodOf, Cond.static yX3_periodOf, Cond.code yX3_periodOf cX3_periodOf 13 (some .int)]
def wsX3_search_r3 : List Cond := [Cond.constantLong RX3 66 (600000000), Cond.constantLong RX3 68 (2), Cond.methodLink RX3 70 yX3_isPair, Cond.instanceMethod yX3_isPair, Cond.selects RX3 yX3_isPair yX3_isPair, Cond.code yX3_isPair cX3_isPair 3 (some .boolean), Cond.methodLink RX3 31 yX3_isPlate, Cond.instanceMethod yX3_isPlate, Cond.selects RX3 yX3_isPlate yX3_isPlate, Cond.code yX3_isPlate cX3_isPlate 2 (some .boolean), Cond.methodLink RX3 139 yX3_bandsOfThree, Cond.instanceMethod yX3_bandsOfThree, Cond.selects RX3 yX3_bandsOfThree yX3_bandsOfThree, Cond.code yX3_bandsOfThree cX3_bandsOfThree 11 (some .int), Cond.methodLink RX3 132 yX3_tripleBase, Cond.instanceMethod yX3_tripleBase, Cond.selects RX3 yX3_tripleBase yX3_tripleBase, Cond.code yX3_tripleBase cX3_tripleBase 6 (some .long), Cond.methodLink RX3 136 yX3_tripleSquare, Cond.instanceMethod yX3_tripleSquare, Cond.selects RX3 yX3_tripleSquare yX3_tripleSquare, Cond.code yX3_tripleSquare cX3_tripleSquare 15 (some .long), Cond.methodLink RX3 62 yX3_part, Cond.instanceMethod yX3_part]
def wsX3_search_r4 : List Cond := [Cond.selects RX3 yX3_part yX3_part, Cond.code yX3_part cX3_part 5 (some .int), Cond.methodLink RX3 159 yX3_size, Cond.static yX3_size, Cond.code yX3_size cX3_size 1 (some .int)]
def wsX3_search : List Cond := .code yX3_search cX3_search 14 (some .int) :: ((wsX3_search_r1 ++ (wsX3_search_r2 ++ (wsX3_search_r3 ++ wsX3_search_r4))) ++ wsX30)
def wsX3_isRange : List Cond := .code yX3_isRange cX3_isRange 4 (some .boolean) :: ([.methodLink RX3 31 yX3_isPlate, .instanceMethod yX3_isPlate, .selects RX3 yX3_isPlate yX3_isPlate, .initialized RX3, .code yX3_isPlate cX3_isPlate 2 (some .boolean), .fieldLink RX3 7 "PlateBeatsModel" "p" "[I", .methodLink RX3 27 yX3_in, .static yX3_in, .code yX3_in cX3_in 3 (some .boolean)] ++ wsX30)
def wsX3_bestScreen_r1 : List Cond := [Cond.methodLink RX3 162 yX3_isRange, Cond.instanceMethod yX3_isRange, Cond.selects RX3 yX3_isRange yX3_isRange, Cond.initialized RX3, Cond.code yX3_isRange cX3_isRange 4 (some .boolean), Cond.methodLink RX3 31 yX3_isPlate, Cond.instanceMethod yX3_isPlate, Cond.selects RX3 yX3_isPlate yX3_isPlate, Cond.code yX3_isPlate cX3_isPlate 2 (some .boolean), Cond.fieldLink RX3 7 "PlateBeatsModel" "p" "[I", Cond.methodLink RX3 27 yX3_in, Cond.static yX3_in, Cond.code yX3_in cX3_in 3 (some .boolean), Cond.methodLink RX3 165 yX3_search, Cond.instanceMethod yX3_search, Cond.selects RX3 yX3_search yX3_search, Cond.code yX3_search cX3_search 14 (some .int), Cond.fieldLink RX3 156 "PlateBeatsModel" "fewest" "I", Cond.methodLink RX3 35 yX3_firstOf, Cond.instanceMethod yX3_firstOf, Cond.selects RX3 yX3_firstOf yX3_firstOf, Cond.code yX3_firstOf cX3_firstOf 2 (some .int), Cond.methodLink RX3 39 yX3_secondOf, Cond.instanceMethod yX3_secondOf]
def wsX3_bestScreen_r2 : List Cond := [Cond.selects RX3 yX3_secondOf yX3_secondOf, Cond.code yX3_secondOf cX3_secondOf 2 (some .int), Cond.methodLink RX3 49 yX3_areaOf, Cond.instanceMethod yX3_areaOf, Cond.selects RX3 yX3_areaOf yX3_areaOf, Cond.code yX3_areaOf cX3_areaOf 2 (some .int), Cond.methodLink RX3 152 yX3_findAll, Cond.instanceMethod yX3_findAll, Cond.selects RX3 yX3_findAll yX3_findAll, Cond.code yX3_findAll cX3_findAll 6 (some .int), Cond.fieldLink RX3 142 "PlateBeatsModel" "worst" "I", Cond.fieldLink RX3 145 "PlateBeatsModel" "worstSet" "I", Cond.methodLink RX3 128 yX3_ofKind, Cond.instanceMethod yX3_ofKind, Cond.selects RX3 yX3_ofKind yX3_ofKind, Cond.code yX3_ofKind cX3_ofKind 17 (some .int), Cond.fieldLink RX3 124 "PlateBeatsModel" "widest" "J", Cond.methodLink RX3 86 yX3_pairBase, Cond.instanceMethod yX3_pairBase, Cond.selects RX3 yX3_pairBase yX3_pairBase, Cond.code yX3_pairBase cX3_pairBase 5 (some .long), Cond.methodLink RX3 82 yX3_pairSquare, Cond.instanceMethod yX3_pairSquare, Cond.selects RX3 yX3_pairSquare yX3_pairSquare]
def wsX3_bestScreen_r3 : List Cond := [Cond.code yX3_pairSquare cX3_pairSquare 15 (some .long), Cond.methodLink RX3 90 yX3_kindOf, Cond.instanceMethod yX3_kindOf, Cond.selects RX3 yX3_kindOf yX3_kindOf, Cond.code yX3_kindOf cX3_kindOf 9 (some .int), Cond.methodLink RX3 148 yX3_note, Cond.instanceMethod yX3_note, Cond.selects RX3 yX3_note yX3_note, Cond.code yX3_note cX3_note 4 none, Cond.methodLink RX3 117 yX3_periodOf, Cond.static yX3_periodOf, Cond.code yX3_periodOf cX3_periodOf 13 (some .int), Cond.constantLong RX3 66 (600000000), Cond.constantLong RX3 68 (2), Cond.methodLink RX3 70 yX3_isPair, Cond.instanceMethod yX3_isPair, Cond.selects RX3 yX3_isPair yX3_isPair, Cond.code yX3_isPair cX3_isPair 3 (some .boolean), Cond.methodLink RX3 139 yX3_bandsOfThree, Cond.instanceMethod yX3_bandsOfThree, Cond.selects RX3 yX3_bandsOfThree yX3_bandsOfThree, Cond.code yX3_bandsOfThree cX3_bandsOfThree 11 (some .int), Cond.methodLink RX3 132 yX3_tripleBase, Cond.instanceMethod yX3_tripleBase]
def wsX3_bestScreen_r4 : List Cond := [Cond.selects RX3 yX3_tripleBase yX3_tripleBase, Cond.code yX3_tripleBase cX3_tripleBase 6 (some .long), Cond.methodLink RX3 136 yX3_tripleSquare, Cond.instanceMethod yX3_tripleSquare, Cond.selects RX3 yX3_tripleSquare yX3_tripleSquare, Cond.code yX3_tripleSquare cX3_tripleSquare 15 (some .long), Cond.methodLink RX3 62 yX3_part, Cond.instanceMethod yX3_part, Cond.selects RX3 yX3_part yX3_part, Cond.code yX3_part cX3_part 5 (some .int), Cond.methodLink RX3 159 yX3_size, Cond.static yX3_size, Cond.code yX3_size cX3_size 1 (some .int)]
def wsX3_bestScreen : List Cond := .code yX3_bestScreen cX3_bestScreen 4 (some .int) :: ((wsX3_bestScreen_r1 ++ (wsX3_bestScreen_r2 ++ (wsX3_bestScreen_r3 ++ wsX3_bestScreen_r4))) ++ wsX30)
def wsX3_bandsWithBest_r1 : List Cond := [Cond.fieldLink RX3 156 "PlateBeatsModel" "fewest" "I", Cond.methodLink RX3 162 yX3_isRange, Cond.instanceMethod yX3_isRange, Cond.selects RX3 yX3_isRange yX3_isRange, Cond.initialized RX3, Cond.code yX3_isRange cX3_isRange 4 (some .boolean), Cond.methodLink RX3 31 yX3_isPlate, Cond.instanceMethod yX3_isPlate, Cond.selects RX3 yX3_isPlate yX3_isPlate, Cond.code yX3_isPlate cX3_isPlate 2 (some .boolean), Cond.fieldLink RX3 7 "PlateBeatsModel" "p" "[I", Cond.methodLink RX3 27 yX3_in, Cond.static yX3_in, Cond.code yX3_in cX3_in 3 (some .boolean), Cond.methodLink RX3 165 yX3_search, Cond.instanceMethod yX3_search, Cond.selects RX3 yX3_search yX3_search, Cond.code yX3_search cX3_search 14 (some .int), Cond.methodLink RX3 35 yX3_firstOf, Cond.instanceMethod yX3_firstOf, Cond.selects RX3 yX3_firstOf yX3_firstOf, Cond.code yX3_firstOf cX3_firstOf 2 (some .int), Cond.methodLink RX3 39 yX3_secondOf, Cond.instanceMethod yX3_secondOf]
def wsX3_bandsWithBest_r2 : List Cond := [Cond.selects RX3 yX3_secondOf yX3_secondOf, Cond.code yX3_secondOf cX3_secondOf 2 (some .int), Cond.methodLink RX3 49 yX3_areaOf, Cond.instanceMethod yX3_areaOf, Cond.selects RX3 yX3_areaOf yX3_areaOf, Cond.code yX3_areaOf cX3_areaOf 2 (some .int), Cond.methodLink RX3 152 yX3_findAll, Cond.instanceMethod yX3_findAll, Cond.selects RX3 yX3_findAll yX3_findAll, Cond.code yX3_findAll cX3_findAll 6 (some .int), Cond.fieldLink RX3 142 "PlateBeatsModel" "worst" "I", Cond.fieldLink RX3 145 "PlateBeatsModel" "worstSet" "I", Cond.methodLink RX3 128 yX3_ofKind, Cond.instanceMethod yX3_ofKind, Cond.selects RX3 yX3_ofKind yX3_ofKind, Cond.code yX3_ofKind cX3_ofKind 17 (some .int), Cond.fieldLink RX3 124 "PlateBeatsModel" "widest" "J", Cond.methodLink RX3 86 yX3_pairBase, Cond.instanceMethod yX3_pairBase, Cond.selects RX3 yX3_pairBase yX3_pairBase, Cond.code yX3_pairBase cX3_pairBase 5 (some .long), Cond.methodLink RX3 82 yX3_pairSquare, Cond.instanceMethod yX3_pairSquare, Cond.selects RX3 yX3_pairSquare yX3_pairSquare]
def wsX3_bandsWithBest_r3 : List Cond := [Cond.code yX3_pairSquare cX3_pairSquare 15 (some .long), Cond.methodLink RX3 90 yX3_kindOf, Cond.instanceMethod yX3_kindOf, Cond.selects RX3 yX3_kindOf yX3_kindOf, Cond.code yX3_kindOf cX3_kindOf 9 (some .int), Cond.methodLink RX3 148 yX3_note, Cond.instanceMethod yX3_note, Cond.selects RX3 yX3_note yX3_note, Cond.code yX3_note cX3_note 4 none, Cond.methodLink RX3 117 yX3_periodOf, Cond.static yX3_periodOf, Cond.code yX3_periodOf cX3_periodOf 13 (some .int), Cond.constantLong RX3 66 (600000000), Cond.constantLong RX3 68 (2), Cond.methodLink RX3 70 yX3_isPair, Cond.instanceMethod yX3_isPair, Cond.selects RX3 yX3_isPair yX3_isPair, Cond.code yX3_isPair cX3_isPair 3 (some .boolean), Cond.methodLink RX3 139 yX3_bandsOfThree, Cond.instanceMethod yX3_bandsOfThree, Cond.selects RX3 yX3_bandsOfThree yX3_bandsOfThree, Cond.code yX3_bandsOfThree cX3_bandsOfThree 11 (some .int), Cond.methodLink RX3 132 yX3_tripleBase, Cond.instanceMethod yX3_tripleBase]
def wsX3_bandsWithBest_r4 : List Cond := [Cond.selects RX3 yX3_tripleBase yX3_tripleBase, Cond.code yX3_tripleBase cX3_tripleBase 6 (some .long), Cond.methodLink RX3 136 yX3_tripleSquare, Cond.instanceMethod yX3_tripleSquare, Cond.selects RX3 yX3_tripleSquare yX3_tripleSquare, Cond.code yX3_tripleSquare cX3_tripleSquare 15 (some .long), Cond.methodLink RX3 62 yX3_part, Cond.instanceMethod yX3_part, Cond.selects RX3 yX3_part yX3_part, Cond.code yX3_part cX3_part 5 (some .int), Cond.methodLink RX3 159 yX3_size, Cond.static yX3_size, Cond.code yX3_size cX3_size 1 (some .int)]
def wsX3_bandsWithBest : List Cond := .code yX3_bandsWithBest cX3_bandsWithBest 5 (some .int) :: ((wsX3_bandsWithBest_r1 ++ (wsX3_bandsWithBest_r2 ++ (wsX3_bandsWithBest_r3 ++ wsX3_bandsWithBest_r4))) ++ wsX30)
def wsX3_save : List Cond := .code yX3_save cX3_save 3 (some .int) :: ([.fieldLink RX3 16 "PlateBeatsModel" "slots" "[I", .fieldLink RX3 7 "PlateBeatsModel" "p" "[I", .methodLink RX3 27 yX3_in, .static yX3_in, .initialized RX3, .code yX3_in cX3_in 3 (some .boolean)] ++ wsX30)
def wsX3_restore : List Cond := .code yX3_restore cX3_restore 3 (some .int) :: ([.fieldLink RX3 16 "PlateBeatsModel" "slots" "[I", .fieldLink RX3 7 "PlateBeatsModel" "p" "[I", .methodLink RX3 27 yX3_in, .static yX3_in, .initialized RX3, .code yX3_in cX3_in 3 (some .boolean), .methodLink RX3 46 yX3_records, .instanceMethod yX3_records, .selects RX3 yX3_records yX3_records, .code yX3_records cX3_records 2 none, .fieldLink RX3 23 "PlateBeatsModel" "states" "I", .fieldLink RX3 13 "PlateBeatsModel" "saved" "[I"] ++ wsX30)
def wsX3_historySize : List Cond := .code yX3_historySize cX3_historySize 1 (some .int) :: ([.fieldLink RX3 23 "PlateBeatsModel" "states" "I"] ++ wsX30)
def wsX3_undo : List Cond := .code yX3_undo cX3_undo 2 (some .int) :: ([.fieldLink RX3 23 "PlateBeatsModel" "states" "I", .fieldLink RX3 7 "PlateBeatsModel" "p" "[I", .fieldLink RX3 13 "PlateBeatsModel" "saved" "[I"] ++ wsX30)
def wsJ9_abs_0f7a4 : List Cond := .code yJ9_abs_0f7a4 cJ9_abs_0f7a4 1 (some .int) :: ([])
def wsL_law_r1 : List Cond := [Cond.classLink RL 7 RX2, Cond.instantiable RX2 7, Cond.initialized RX2, Cond.classLink RL 10 RX3, Cond.instantiable RX3 10, Cond.initialized RX3, Cond.methodLink RL 9 yX2_init, Cond.instanceMethod yX2_init, Cond.code yX2_init cX2_init 2 none, Cond.methodLink RX2 1 objectInit, Cond.instanceMethod objectInit, Cond.code objectInit ⟨#[0xb1]⟩ 1 none, Cond.classLink RX2 7 RX1, Cond.instantiable RX1 6, Cond.initialized RX1, Cond.fieldLink RX2 10 "PlateBeats" "present" "LPlateBeats$State;", Cond.fieldLink RX2 16 "PlateBeats" "trial" "LPlateBeats$State;", Cond.fieldLink RX2 19 "PlateBeats" "history" "[LPlateBeats$State;", Cond.fieldLink RX2 23 "PlateBeats" "slots" "[LPlateBeats$State;", Cond.arrayClass .boolean, Cond.fieldLink RX2 26 "PlateBeats" "slotFilled" "[Z", Cond.classLink RX2 30 RX0, Cond.instantiable RX0 5, Cond.initialized RX0]
def wsL_law_r2 : List Cond := [Cond.fieldLink RX2 33 "PlateBeats" "group" "LPlateBeats$Group;", Cond.instanceMethod yX1_init, Cond.code yX1_init cX1_init 1 none, Cond.methodLink RX1 3 objectInit, Cond.arrayClass .int, Cond.fieldLink RX1 9 "PlateBeats$State" "p" "[I", Cond.fieldLink RX1 15 "PlateBeats$State" "q" "[I", Cond.fieldLink RX1 18 "PlateBeats$State" "count" "I", Cond.fieldLink RX1 22 "PlateBeats$State" "order" "I", Cond.fieldLink RX1 25 "PlateBeats$State" "fineLimit" "I", Cond.fieldLink RX1 28 "PlateBeats$State" "longLimit" "I", Cond.instanceMethod yX0_init, Cond.code yX0_init cX0_init 1 none, Cond.methodLink RX0 3 objectInit, Cond.fieldLink RX0 9 "PlateBeats$Group" "norms" "[I", Cond.fieldLink RX0 15 "PlateBeats$Group" "areas" "J", Cond.fieldLink RX0 19 "PlateBeats$Group" "leastFine" "J", Cond.fieldLink RX0 22 "PlateBeats$Group" "greatestLong" "J", Cond.methodLink RL 12 yX3_init, Cond.instanceMethod yX3_init, Cond.code yX3_init cX3_init 1 none, Cond.methodLink RX3 1 objectInit, Cond.fieldLink RX3 7 "PlateBeatsModel" "p" "[I", Cond.fieldLink RX3 13 "PlateBeatsModel" "saved" "[I"]
def wsL_law_r3 : List Cond := [Cond.fieldLink RX3 16 "PlateBeatsModel" "slots" "[I", Cond.arrayClass .long, Cond.fieldLink RX3 19 "PlateBeatsModel" "square" "[J", Cond.methodLink RL 13 yX2_addPlate, Cond.instanceMethod yX2_addPlate, Cond.selects RX2 yX2_addPlate yX2_addPlate, Cond.code yX2_addPlate cX2_addPlate 3 (some .int), Cond.methodLink RX2 37 yX2_isScreen, Cond.static yX2_isScreen, Cond.code yX2_isScreen cX2_isScreen 2 (some .boolean), Cond.methodLink RX2 45 yX2_record, Cond.instanceMethod yX2_record, Cond.selects RX2 yX2_record yX2_record, Cond.code yX2_record cX2_record 1 none, Cond.fieldLink RX2 202 "PlateBeats" "historyCount" "I", Cond.methodLink RX2 205 yX2_dropOldest, Cond.instanceMethod yX2_dropOldest, Cond.selects RX2 yX2_dropOldest yX2_dropOldest, Cond.code yX2_dropOldest cX2_dropOldest 3 none, Cond.methodLink RX2 190 yX2_copy, Cond.static yX2_copy, Cond.code yX2_copy cX2_copy 3 none, Cond.instanceMethod yX1_append, Cond.selects RX1 yX1_append yX1_append]
def wsL_law_r4 : List Cond := [Cond.code yX1_append cX1_append 3 none, Cond.methodLink RX1 35 yX1_put, Cond.instanceMethod yX1_put, Cond.selects RX1 yX1_put yX1_put, Cond.code yX1_put cX1_put 4 none, Cond.methodLink RX1 31 yX1_has, Cond.instanceMethod yX1_has, Cond.selects RX1 yX1_has yX1_has, Cond.code yX1_has cX1_has 2 (some .boolean), Cond.methodLink RL 17 yX3_addPlate, Cond.instanceMethod yX3_addPlate, Cond.selects RX3 yX3_addPlate yX3_addPlate, Cond.code yX3_addPlate cX3_addPlate 4 (some .int), Cond.methodLink RX3 42 yX3_isVector, Cond.static yX3_isVector, Cond.code yX3_isVector cX3_isVector 2 (some .boolean), Cond.methodLink RX3 27 yX3_in, Cond.static yX3_in, Cond.code yX3_in cX3_in 3 (some .boolean), Cond.methodLink RX3 46 yX3_records, Cond.instanceMethod yX3_records, Cond.selects RX3 yX3_records yX3_records, Cond.code yX3_records cX3_records 2 none, Cond.fieldLink RX3 23 "PlateBeatsModel" "states" "I"]
def wsL_law_r5 : List Cond := [Cond.methodLink RL 18 yX2_setScreen, Cond.instanceMethod yX2_setScreen, Cond.selects RX2 yX2_setScreen yX2_setScreen, Cond.code yX2_setScreen cX2_setScreen 5 (some .int), Cond.instanceMethod yX1_areaOf, Cond.selects RX1 yX1_areaOf yX1_areaOf, Cond.code yX1_areaOf cX1_areaOf 2 (some .int), Cond.methodLink RL 22 yX3_setScreen, Cond.instanceMethod yX3_setScreen, Cond.selects RX3 yX3_setScreen yX3_setScreen, Cond.code yX3_setScreen cX3_setScreen 5 (some .int), Cond.methodLink RX3 31 yX3_isPlate, Cond.instanceMethod yX3_isPlate, Cond.selects RX3 yX3_isPlate yX3_isPlate, Cond.code yX3_isPlate cX3_isPlate 2 (some .boolean), Cond.methodLink RX3 49 yX3_areaOf, Cond.instanceMethod yX3_areaOf, Cond.selects RX3 yX3_areaOf yX3_areaOf, Cond.code yX3_areaOf cX3_areaOf 2 (some .int), Cond.methodLink RX3 35 yX3_firstOf, Cond.instanceMethod yX3_firstOf, Cond.selects RX3 yX3_firstOf yX3_firstOf, Cond.code yX3_firstOf cX3_firstOf 2 (some .int), Cond.methodLink RX3 39 yX3_secondOf]
def wsL_law_r6 : List Cond := [Cond.instanceMethod yX3_secondOf, Cond.selects RX3 yX3_secondOf yX3_secondOf, Cond.code yX3_secondOf cX3_secondOf 2 (some .int), Cond.methodLink RL 23 yX2_removePlate, Cond.instanceMethod yX2_removePlate, Cond.selects RX2 yX2_removePlate yX2_removePlate, Cond.code yX2_removePlate cX2_removePlate 2 (some .int), Cond.instanceMethod yX1_drop, Cond.selects RX1 yX1_drop yX1_drop, Cond.code yX1_drop cX1_drop 3 none, Cond.methodLink RX1 39 yX1_pOf, Cond.instanceMethod yX1_pOf, Cond.selects RX1 yX1_pOf yX1_pOf, Cond.code yX1_pOf cX1_pOf 2 (some .int), Cond.methodLink RX1 43 yX1_qOf, Cond.instanceMethod yX1_qOf, Cond.selects RX1 yX1_qOf yX1_qOf, Cond.code yX1_qOf cX1_qOf 2 (some .int), Cond.methodLink RL 27 yX3_removePlate, Cond.instanceMethod yX3_removePlate, Cond.selects RX3 yX3_removePlate yX3_removePlate, Cond.code yX3_removePlate cX3_removePlate 3 (some .int), Cond.methodLink RL 28 yX2_plateCount, Cond.instanceMethod yX2_plateCount]
def wsL_law_r7 : List Cond := [Cond.selects RX2 yX2_plateCount yX2_plateCount, Cond.code yX2_plateCount cX2_plateCount 1 (some .int), Cond.methodLink RL 32 yX3_plateCount, Cond.instanceMethod yX3_plateCount, Cond.selects RX3 yX3_plateCount yX3_plateCount, Cond.code yX3_plateCount cX3_plateCount 1 (some .int), Cond.methodLink RL 33 yX2_cellP, Cond.instanceMethod yX2_cellP, Cond.selects RX2 yX2_cellP yX2_cellP, Cond.code yX2_cellP cX2_cellP 2 (some .int), Cond.methodLink RL 36 yX3_cellP, Cond.instanceMethod yX3_cellP, Cond.selects RX3 yX3_cellP yX3_cellP, Cond.code yX3_cellP cX3_cellP 2 (some .int), Cond.methodLink RL 37 yX2_cellQ, Cond.instanceMethod yX2_cellQ, Cond.selects RX2 yX2_cellQ yX2_cellQ, Cond.code yX2_cellQ cX2_cellQ 2 (some .int), Cond.methodLink RL 40 yX3_cellQ, Cond.instanceMethod yX3_cellQ, Cond.selects RX3 yX3_cellQ yX3_cellQ, Cond.code yX3_cellQ cX3_cellQ 2 (some .int), Cond.methodLink RL 41 yX2_cellArea, Cond.instanceMethod yX2_cellArea]
def wsL_law_r8 : List Cond := [Cond.selects RX2 yX2_cellArea yX2_cellArea, Cond.code yX2_cellArea cX2_cellArea 2 (some .int), Cond.methodLink RL 44 yX3_cellArea, Cond.instanceMethod yX3_cellArea, Cond.selects RX3 yX3_cellArea yX3_cellArea, Cond.code yX3_cellArea cX3_cellArea 2 (some .int), Cond.methodLink RL 45 yX2_tile, Cond.instanceMethod yX2_tile, Cond.selects RX2 yX2_tile yX2_tile, Cond.code yX2_tile cX2_tile 2 (some .int), Cond.methodLink RX2 74 yX2_tileOf, Cond.instanceMethod yX2_tileOf, Cond.selects RX2 yX2_tileOf yX2_tileOf, Cond.code yX2_tileOf cX2_tileOf 2 (some .long), Cond.methodLink RX2 78 yX2_gcd, Cond.static yX2_gcd, Cond.code yX2_gcd cX2_gcd 11 (some .long), Cond.methodLink RX2 82 yX2_divided, Cond.static yX2_divided, Cond.code yX2_divided cX2_divided 4 (some .long), Cond.methodLink RL 48 yX3_tile, Cond.instanceMethod yX3_tile, Cond.selects RX3 yX3_tile yX3_tile, Cond.code yX3_tile cX3_tile 2 (some .int)]
def wsL_law_r9 : List Cond := [Cond.methodLink RX3 56 yX3_tileOf, Cond.instanceMethod yX3_tileOf, Cond.selects RX3 yX3_tileOf yX3_tileOf, Cond.code yX3_tileOf cX3_tileOf 2 (some .int), Cond.methodLink RX3 52 yX3_common, Cond.static yX3_common, Cond.code yX3_common cX3_common 10 (some .long), Cond.methodLink RL 49 yX2_commonTile, Cond.instanceMethod yX2_commonTile, Cond.selects RX2 yX2_commonTile yX2_commonTile, Cond.code yX2_commonTile cX2_commonTile 6 (some .long), Cond.methodLink RL 53 yX3_commonTile, Cond.instanceMethod yX3_commonTile, Cond.selects RX3 yX3_commonTile yX3_commonTile, Cond.code yX3_commonTile cX3_commonTile 4 (some .long), Cond.methodLink RL 54 yX2_byAngle, Cond.instanceMethod yX2_byAngle, Cond.selects RX2 yX2_byAngle yX2_byAngle, Cond.code yX2_byAngle cX2_byAngle 3 (some .int), Cond.methodLink RX2 85 yX2_platesBefore, Cond.instanceMethod yX2_platesBefore, Cond.selects RX2 yX2_platesBefore yX2_platesBefore, Cond.code yX2_platesBefore cX2_platesBefore 6 (some .int), Cond.methodLink RL 57 yX3_byAngle]
def wsL_law_r10 : List Cond := [Cond.instanceMethod yX3_byAngle, Cond.selects RX3 yX3_byAngle yX3_byAngle, Cond.code yX3_byAngle cX3_byAngle 5 (some .int), Cond.methodLink RX3 59 yX3_isAhead, Cond.instanceMethod yX3_isAhead, Cond.selects RX3 yX3_isAhead yX3_isAhead, Cond.code yX3_isAhead cX3_isAhead 5 (some .boolean), Cond.methodLink RL 58 yX2_setOrder, Cond.instanceMethod yX2_setOrder, Cond.selects RX2 yX2_setOrder yX2_setOrder, Cond.code yX2_setOrder cX2_setOrder 3 (some .int), Cond.methodLink RL 61 yX3_setOrder, Cond.instanceMethod yX3_setOrder, Cond.selects RX3 yX3_setOrder yX3_setOrder, Cond.code yX3_setOrder cX3_setOrder 3 (some .int), Cond.methodLink RL 62 yX2_setLimits, Cond.instanceMethod yX2_setLimits, Cond.selects RX2 yX2_setLimits yX2_setLimits, Cond.code yX2_setLimits cX2_setLimits 4 (some .int), Cond.methodLink RL 65 yX3_setLimits, Cond.instanceMethod yX3_setLimits, Cond.selects RX3 yX3_setLimits yX3_setLimits, Cond.code yX3_setLimits cX3_setLimits 4 (some .int), Cond.methodLink RL 66 yX2_longLimit]
def wsL_law_r11 : List Cond := [Cond.instanceMethod yX2_longLimit, Cond.selects RX2 yX2_longLimit yX2_longLimit, Cond.code yX2_longLimit cX2_longLimit 1 (some .int), Cond.methodLink RL 69 yX3_longLimit, Cond.instanceMethod yX3_longLimit, Cond.selects RX3 yX3_longLimit yX3_longLimit, Cond.code yX3_longLimit cX3_longLimit 1 (some .int), Cond.methodLink RL 70 yX2_squareNumerator, Cond.instanceMethod yX2_squareNumerator, Cond.selects RX2 yX2_squareNumerator yX2_squareNumerator, Cond.code yX2_squareNumerator cX2_squareNumerator 7 (some .long), Cond.constantLong RX2 101 (-1), Cond.methodLink RX2 97 yX2_isCombination, Cond.instanceMethod yX2_isCombination, Cond.selects RX2 yX2_isCombination yX2_isCombination, Cond.code yX2_isCombination cX2_isCombination 7 (some .boolean), Cond.instanceMethod yX1_hasPair, Cond.selects RX1 yX1_hasPair yX1_hasPair, Cond.code yX1_hasPair cX1_hasPair 3 (some .boolean), Cond.instanceMethod yX1_isFactorPair, Cond.selects RX1 yX1_isFactorPair yX1_isFactorPair, Cond.code yX1_isFactorPair cX1_isFactorPair 3 (some .boolean), Cond.instanceMethod yX0_startPair, Cond.selects RX0 yX0_startPair yX0_startPair]
def wsL_law_r12 : List Cond := [Cond.code yX0_startPair cX0_startPair 4 none, Cond.methodLink RX0 31 yX0_start, Cond.instanceMethod yX0_start, Cond.selects RX0 yX0_start yX0_start, Cond.code yX0_start cX0_start 8 none, Cond.fieldLink RX0 35 "PlateBeats$Group" "size" "I", Cond.instanceMethod yX1_pairNorm, Cond.selects RX1 yX1_pairNorm yX1_pairNorm, Cond.code yX1_pairNorm cX1_pairNorm 9 (some .int), Cond.static yX2_realPart, Cond.code yX2_realPart cX2_realPart 4 (some .int), Cond.static yX2_imaginaryPart, Cond.code yX2_imaginaryPart cX2_imaginaryPart 4 (some .int), Cond.instanceMethod yX0_numerator, Cond.selects RX0 yX0_numerator yX0_numerator, Cond.code yX0_numerator cX0_numerator 2 (some .long), Cond.methodLink RL 74 yX3_squareNumerator, Cond.instanceMethod yX3_squareNumerator, Cond.selects RX3 yX3_squareNumerator yX3_squareNumerator, Cond.code yX3_squareNumerator cX3_squareNumerator 9 (some .long), Cond.constantLong RX3 80 (-1), Cond.methodLink RX3 76 yX3_isCombination, Cond.instanceMethod yX3_isCombination, Cond.selects RX3 yX3_isCombination yX3_isCombination]
def wsL_law_r13 : List Cond := [Cond.code yX3_isCombination cX3_isCombination 7 (some .boolean), Cond.methodLink RX3 70 yX3_isPair, Cond.instanceMethod yX3_isPair, Cond.selects RX3 yX3_isPair yX3_isPair, Cond.code yX3_isPair cX3_isPair 3 (some .boolean), Cond.methodLink RX3 73 yX3_isPart, Cond.instanceMethod yX3_isPart, Cond.selects RX3 yX3_isPart yX3_isPart, Cond.code yX3_isPart cX3_isPart 3 (some .boolean), Cond.methodLink RX3 82 yX3_pairSquare, Cond.instanceMethod yX3_pairSquare, Cond.selects RX3 yX3_pairSquare yX3_pairSquare, Cond.code yX3_pairSquare cX3_pairSquare 15 (some .long), Cond.methodLink RX3 86 yX3_pairBase, Cond.instanceMethod yX3_pairBase, Cond.selects RX3 yX3_pairBase yX3_pairBase, Cond.code yX3_pairBase cX3_pairBase 5 (some .long), Cond.methodLink RL 75 yX2_squareDenominator, Cond.instanceMethod yX2_squareDenominator, Cond.selects RX2 yX2_squareDenominator yX2_squareDenominator, Cond.code yX2_squareDenominator cX2_squareDenominator 7 (some .long), Cond.instanceMethod yX0_denominator, Cond.selects RX0 yX0_denominator yX0_denominator, Cond.code yX0_denominator cX0_denominator 2 (some .long)]
def wsL_law_r14 : List Cond := [Cond.methodLink RL 78 yX3_squareDenominator, Cond.instanceMethod yX3_squareDenominator, Cond.selects RX3 yX3_squareDenominator yX3_squareDenominator, Cond.code yX3_squareDenominator cX3_squareDenominator 9 (some .long), Cond.methodLink RL 79 yX2_kind, Cond.instanceMethod yX2_kind, Cond.selects RX2 yX2_kind yX2_kind, Cond.code yX2_kind cX2_kind 7 (some .int), Cond.instanceMethod yX0_kindOf, Cond.selects RX0 yX0_kindOf yX0_kindOf, Cond.code yX0_kindOf cX0_kindOf 2 (some .int), Cond.methodLink RL 83 yX3_kind, Cond.instanceMethod yX3_kind, Cond.selects RX3 yX3_kind yX3_kind, Cond.code yX3_kind cX3_kind 7 (some .int), Cond.methodLink RX3 90 yX3_kindOf, Cond.instanceMethod yX3_kindOf, Cond.selects RX3 yX3_kindOf yX3_kindOf, Cond.code yX3_kindOf cX3_kindOf 9 (some .int), Cond.methodLink RL 84 yX2_beatCount, Cond.instanceMethod yX2_beatCount, Cond.selects RX2 yX2_beatCount yX2_beatCount, Cond.code yX2_beatCount cX2_beatCount 3 (some .int), Cond.instanceMethod yX0_fillPair]
def wsL_law_r15 : List Cond := [Cond.selects RX0 yX0_fillPair yX0_fillPair, Cond.code yX0_fillPair cX0_fillPair 6 none, Cond.methodLink RX0 49 yX0_startPair, Cond.methodLink RX0 56 yX0_addAllFor, Cond.instanceMethod yX0_addAllFor, Cond.selects RX0 yX0_addAllFor yX0_addAllFor, Cond.code yX0_addAllFor cX0_addAllFor 14 none, Cond.methodLink RX0 73 yX0_add, Cond.instanceMethod yX0_add, Cond.selects RX0 yX0_add yX0_add, Cond.code yX0_add cX0_add 2 none, Cond.instanceMethod yX0_sort, Cond.selects RX0 yX0_sort yX0_sort, Cond.code yX0_sort cX0_sort 4 none, Cond.instanceMethod yX0_differentNorms, Cond.selects RX0 yX0_differentNorms yX0_differentNorms, Cond.code yX0_differentNorms cX0_differentNorms 3 (some .int), Cond.methodLink RL 87 yX3_beatCount, Cond.instanceMethod yX3_beatCount, Cond.selects RX3 yX3_beatCount yX3_beatCount, Cond.code yX3_beatCount cX3_beatCount 5 (some .int), Cond.fieldLink RX3 94 "PlateBeatsModel" "all" "I", Cond.methodLink RX3 108 yX3_laySquares, Cond.instanceMethod yX3_laySquares]
def wsL_law_r16 : List Cond := [Cond.selects RX3 yX3_laySquares yX3_laySquares, Cond.code yX3_laySquares cX3_laySquares 6 none, Cond.methodLink RX3 97 yX3_layWith, Cond.instanceMethod yX3_layWith, Cond.selects RX3 yX3_layWith yX3_layWith, Cond.code yX3_layWith cX3_layWith 8 none, Cond.methodLink RX3 101 yX3_insert, Cond.instanceMethod yX3_insert, Cond.selects RX3 yX3_insert yX3_insert, Cond.code yX3_insert cX3_insert 4 none, Cond.methodLink RX3 105 yX3_behind, Cond.instanceMethod yX3_behind, Cond.selects RX3 yX3_behind yX3_behind, Cond.code yX3_behind cX3_behind 3 (some .int), Cond.methodLink RL 88 yX2_beatNumerator, Cond.instanceMethod yX2_beatNumerator, Cond.selects RX2 yX2_beatNumerator yX2_beatNumerator, Cond.code yX2_beatNumerator cX2_beatNumerator 5 (some .long), Cond.methodLink RX2 133 yX2_normOfRank, Cond.instanceMethod yX2_normOfRank, Cond.selects RX2 yX2_normOfRank yX2_normOfRank, Cond.code yX2_normOfRank cX2_normOfRank 4 (some .int), Cond.instanceMethod yX0_normAt, Cond.selects RX0 yX0_normAt yX0_normAt]
def wsL_law_r17 : List Cond := [Cond.code yX0_normAt cX0_normAt 4 (some .int), Cond.methodLink RL 92 yX3_beatNumerator, Cond.instanceMethod yX3_beatNumerator, Cond.selects RX3 yX3_beatNumerator yX3_beatNumerator, Cond.code yX3_beatNumerator cX3_beatNumerator 4 (some .long), Cond.methodLink RX3 120 yX3_beat, Cond.instanceMethod yX3_beat, Cond.selects RX3 yX3_beat yX3_beat, Cond.code yX3_beat cX3_beat 10 (some .long), Cond.constantLong RX3 115 (-4), Cond.methodLink RX3 112 yX3_placeOf, Cond.instanceMethod yX3_placeOf, Cond.selects RX3 yX3_placeOf yX3_placeOf, Cond.code yX3_placeOf cX3_placeOf 4 (some .int), Cond.methodLink RX3 117 yX3_periodOf, Cond.static yX3_periodOf, Cond.code yX3_periodOf cX3_periodOf 13 (some .int), Cond.constantLong RX3 66 (600000000), Cond.constantLong RX3 68 (2), Cond.methodLink RL 93 yX2_beatDenominator, Cond.instanceMethod yX2_beatDenominator, Cond.selects RX2 yX2_beatDenominator yX2_beatDenominator, Cond.code yX2_beatDenominator cX2_beatDenominator 5 (some .long), Cond.methodLink RL 96 yX3_beatDenominator]
def wsL_law_r18 : List Cond := [Cond.instanceMethod yX3_beatDenominator, Cond.selects RX3 yX3_beatDenominator yX3_beatDenominator, Cond.code yX3_beatDenominator cX3_beatDenominator 4 (some .long), Cond.methodLink RL 97 yX2_beatFrequency, Cond.instanceMethod yX2_beatFrequency, Cond.selects RX2 yX2_beatFrequency yX2_beatFrequency, Cond.code yX2_beatFrequency cX2_beatFrequency 5 (some .int), Cond.instanceMethod yX0_combinationsWith, Cond.selects RX0 yX0_combinationsWith yX0_combinationsWith, Cond.code yX0_combinationsWith cX0_combinationsWith 4 (some .int), Cond.methodLink RL 100 yX3_beatFrequency, Cond.instanceMethod yX3_beatFrequency, Cond.selects RX3 yX3_beatFrequency yX3_beatFrequency, Cond.code yX3_beatFrequency cX3_beatFrequency 4 (some .int), Cond.methodLink RL 101 yX2_beatPeriod, Cond.instanceMethod yX2_beatPeriod, Cond.selects RX2 yX2_beatPeriod yX2_beatPeriod, Cond.code yX2_beatPeriod cX2_beatPeriod 5 (some .int), Cond.instanceMethod yX0_period, Cond.selects RX0 yX0_period yX0_period, Cond.code yX0_period cX0_period 2 (some .int), Cond.static yX2_root, Cond.code yX2_root cX2_root 6 (some .int), Cond.methodLink RL 104 yX3_beatPeriod]
def wsL_law_r19 : List Cond := [Cond.instanceMethod yX3_beatPeriod, Cond.selects RX3 yX3_beatPeriod yX3_beatPeriod, Cond.code yX3_beatPeriod cX3_beatPeriod 4 (some .int), Cond.methodLink RL 105 yX2_locked, Cond.instanceMethod yX2_locked, Cond.selects RX2 yX2_locked yX2_locked, Cond.code yX2_locked cX2_locked 3 (some .int), Cond.methodLink RL 108 yX3_locked, Cond.instanceMethod yX3_locked, Cond.selects RX3 yX3_locked yX3_locked, Cond.code yX3_locked cX3_locked 3 (some .int), Cond.methodLink RX3 128 yX3_ofKind, Cond.instanceMethod yX3_ofKind, Cond.selects RX3 yX3_ofKind yX3_ofKind, Cond.code yX3_ofKind cX3_ofKind 17 (some .int), Cond.fieldLink RX3 124 "PlateBeatsModel" "widest" "J", Cond.methodLink RL 109 yX2_bands, Cond.instanceMethod yX2_bands, Cond.selects RX2 yX2_bands yX2_bands, Cond.code yX2_bands cX2_bands 3 (some .int), Cond.methodLink RX2 143 yX2_pairBands, Cond.instanceMethod yX2_pairBands, Cond.selects RX2 yX2_pairBands yX2_pairBands, Cond.code yX2_pairBands cX2_pairBands 3 (some .int)]
def wsL_law_r20 : List Cond := [Cond.instanceMethod yX0_bandCount, Cond.selects RX0 yX0_bandCount yX0_bandCount, Cond.code yX0_bandCount cX0_bandCount 3 (some .int), Cond.methodLink RX0 95 yX0_kindOf, Cond.methodLink RL 112 yX3_bands, Cond.instanceMethod yX3_bands, Cond.selects RX3 yX3_bands yX3_bands, Cond.code yX3_bands cX3_bands 3 (some .int), Cond.methodLink RL 113 yX2_tripleBands, Cond.instanceMethod yX2_tripleBands, Cond.selects RX2 yX2_tripleBands yX2_tripleBands, Cond.code yX2_tripleBands cX2_tripleBands 4 (some .int), Cond.instanceMethod yX0_fillTriple, Cond.selects RX0 yX0_fillTriple yX0_fillTriple, Cond.code yX0_fillTriple cX0_fillTriple 16 none, Cond.methodLink RX0 77 yX0_productReal, Cond.static yX0_productReal, Cond.code yX0_productReal cX0_productReal 3 (some .int), Cond.methodLink RX0 81 yX0_productImaginary, Cond.static yX0_productImaginary, Cond.code yX0_productImaginary cX0_productImaginary 3 (some .int), Cond.methodLink RL 116 yX3_tripleBands, Cond.instanceMethod yX3_tripleBands, Cond.selects RX3 yX3_tripleBands yX3_tripleBands]
def wsL_law_r21 : List Cond := [Cond.code yX3_tripleBands cX3_tripleBands 4 (some .int), Cond.methodLink RX3 139 yX3_bandsOfThree, Cond.instanceMethod yX3_bandsOfThree, Cond.selects RX3 yX3_bandsOfThree yX3_bandsOfThree, Cond.code yX3_bandsOfThree cX3_bandsOfThree 11 (some .int), Cond.methodLink RX3 132 yX3_tripleBase, Cond.instanceMethod yX3_tripleBase, Cond.selects RX3 yX3_tripleBase yX3_tripleBase, Cond.code yX3_tripleBase cX3_tripleBase 6 (some .long), Cond.methodLink RX3 136 yX3_tripleSquare, Cond.instanceMethod yX3_tripleSquare, Cond.selects RX3 yX3_tripleSquare yX3_tripleSquare, Cond.code yX3_tripleSquare cX3_tripleSquare 15 (some .long), Cond.methodLink RX3 62 yX3_part, Cond.instanceMethod yX3_part, Cond.selects RX3 yX3_part yX3_part, Cond.code yX3_part cX3_part 5 (some .int), Cond.methodLink RL 117 yX2_allBands, Cond.instanceMethod yX2_allBands, Cond.selects RX2 yX2_allBands yX2_allBands, Cond.code yX2_allBands cX2_allBands 1 (some .int), Cond.methodLink RX2 160 yX2_bandsOfGroups, Cond.instanceMethod yX2_bandsOfGroups, Cond.selects RX2 yX2_bandsOfGroups yX2_bandsOfGroups]
def wsL_law_r22 : List Cond := [Cond.code yX2_bandsOfGroups cX2_bandsOfGroups 6 (some .int), Cond.fieldLink RX2 164 "PlateBeats" "GROUPS" "[I", Cond.instanceMethod yX1_hasAll, Cond.selects RX1 yX1_hasAll yX1_hasAll, Cond.code yX1_hasAll cX1_hasAll 2 (some .boolean), Cond.instanceMethod yX0_fillPlates, Cond.selects RX0 yX0_fillPlates yX0_fillPlates, Cond.code yX0_fillPlates cX0_fillPlates 6 none, Cond.methodLink RX0 84 yX0_firstPlate, Cond.static yX0_firstPlate, Cond.code yX0_firstPlate cX0_firstPlate 3 (some .int), Cond.methodLink RX0 88 yX0_fillTriple, Cond.methodLink RX0 92 yX0_fillPair, Cond.methodLink RL 120 yX3_allBands, Cond.instanceMethod yX3_allBands, Cond.selects RX3 yX3_allBands yX3_allBands, Cond.code yX3_allBands cX3_allBands 1 (some .int), Cond.methodLink RX3 152 yX3_findAll, Cond.instanceMethod yX3_findAll, Cond.selects RX3 yX3_findAll yX3_findAll, Cond.code yX3_findAll cX3_findAll 6 (some .int), Cond.fieldLink RX3 142 "PlateBeatsModel" "worst" "I", Cond.fieldLink RX3 145 "PlateBeatsModel" "worstSet" "I", Cond.methodLink RX3 148 yX3_note]
def wsL_law_r23 : List Cond := [Cond.instanceMethod yX3_note, Cond.selects RX3 yX3_note yX3_note, Cond.code yX3_note cX3_note 4 none, Cond.methodLink RL 121 yX2_worstPlates, Cond.instanceMethod yX2_worstPlates, Cond.selects RX2 yX2_worstPlates yX2_worstPlates, Cond.code yX2_worstPlates cX2_worstPlates 5 (some .int), Cond.methodLink RX2 168 yX2_worstPeriodOf, Cond.instanceMethod yX2_worstPeriodOf, Cond.selects RX2 yX2_worstPeriodOf yX2_worstPeriodOf, Cond.code yX2_worstPeriodOf cX2_worstPeriodOf 2 (some .int), Cond.instanceMethod yX0_worstPeriodFound, Cond.selects RX0 yX0_worstPeriodFound yX0_worstPeriodFound, Cond.code yX0_worstPeriodFound cX0_worstPeriodFound 3 (some .int), Cond.methodLink RX0 98 yX0_period, Cond.methodLink RL 124 yX3_worstPlates, Cond.instanceMethod yX3_worstPlates, Cond.selects RX3 yX3_worstPlates yX3_worstPlates, Cond.code yX3_worstPlates cX3_worstPlates 2 (some .int), Cond.methodLink RL 125 yX2_worstPeriod, Cond.instanceMethod yX2_worstPeriod, Cond.selects RX2 yX2_worstPeriod yX2_worstPeriod, Cond.code yX2_worstPeriod cX2_worstPeriod 2 (some .int), Cond.methodLink RX2 171 yX2_worstPlates]
def wsL_law_r24 : List Cond := [Cond.methodLink RL 128 yX3_worstPeriod, Cond.instanceMethod yX3_worstPeriod, Cond.selects RX3 yX3_worstPeriod yX3_worstPeriod, Cond.code yX3_worstPeriod cX3_worstPeriod 2 (some .int), Cond.methodLink RL 129 yX2_worstPair, Cond.instanceMethod yX2_worstPair, Cond.selects RX2 yX2_worstPair yX2_worstPair, Cond.code yX2_worstPair cX2_worstPair 6 (some .int), Cond.methodLink RL 132 yX3_worstPair, Cond.instanceMethod yX3_worstPair, Cond.selects RX3 yX3_worstPair yX3_worstPair, Cond.code yX3_worstPair cX3_worstPair 6 (some .int), Cond.methodLink RL 133 yX2_bestScreen, Cond.instanceMethod yX2_bestScreen, Cond.selects RX2 yX2_bestScreen yX2_bestScreen, Cond.code yX2_bestScreen cX2_bestScreen 4 (some .int), Cond.methodLink RX2 184 yX2_isRange, Cond.static yX2_isRange, Cond.code yX2_isRange cX2_isRange 2 (some .boolean), Cond.methodLink RX2 187 yX2_search, Cond.instanceMethod yX2_search, Cond.selects RX2 yX2_search yX2_search, Cond.code yX2_search cX2_search 12 (some .int), Cond.methodLink RX2 194 Lib.Math.abs.name]
def wsL_law_r25 : List Cond := [Cond.static Lib.Math.abs.name, Cond.initialized "java/lang/Math", Cond.code Lib.Math.abs.name Lib.Math.abs.code 1 (some .int), Cond.methodLink RL 136 yX3_bestScreen, Cond.instanceMethod yX3_bestScreen, Cond.selects RX3 yX3_bestScreen yX3_bestScreen, Cond.code yX3_bestScreen cX3_bestScreen 4 (some .int), Cond.methodLink RX3 162 yX3_isRange, Cond.instanceMethod yX3_isRange, Cond.selects RX3 yX3_isRange yX3_isRange, Cond.code yX3_isRange cX3_isRange 4 (some .boolean), Cond.methodLink RX3 165 yX3_search, Cond.instanceMethod yX3_search, Cond.selects RX3 yX3_search yX3_search, Cond.code yX3_search cX3_search 14 (some .int), Cond.fieldLink RX3 156 "PlateBeatsModel" "fewest" "I", Cond.methodLink RX3 159 yX3_size, Cond.static yX3_size, Cond.code yX3_size cX3_size 1 (some .int), Cond.methodLink RL 137 yX2_bandsWithBest, Cond.instanceMethod yX2_bandsWithBest, Cond.selects RX2 yX2_bandsWithBest yX2_bandsWithBest, Cond.code yX2_bandsWithBest cX2_bandsWithBest 5 (some .int), Cond.methodLink RL 140 yX3_bandsWithBest]
def wsL_law_r26 : List Cond := [Cond.instanceMethod yX3_bandsWithBest, Cond.selects RX3 yX3_bandsWithBest yX3_bandsWithBest, Cond.code yX3_bandsWithBest cX3_bandsWithBest 5 (some .int), Cond.methodLink RL 141 yX2_save, Cond.instanceMethod yX2_save, Cond.selects RX2 yX2_save yX2_save, Cond.code yX2_save cX2_save 2 (some .int), Cond.methodLink RX2 199 yX2_isSlot, Cond.static yX2_isSlot, Cond.code yX2_isSlot cX2_isSlot 1 (some .boolean), Cond.methodLink RL 144 yX3_save, Cond.instanceMethod yX3_save, Cond.selects RX3 yX3_save yX3_save, Cond.code yX3_save cX3_save 3 (some .int), Cond.methodLink RL 145 yX2_restore, Cond.instanceMethod yX2_restore, Cond.selects RX2 yX2_restore yX2_restore, Cond.code yX2_restore cX2_restore 2 (some .int), Cond.methodLink RL 148 yX3_restore, Cond.instanceMethod yX3_restore, Cond.selects RX3 yX3_restore yX3_restore, Cond.code yX3_restore cX3_restore 3 (some .int), Cond.methodLink RL 149 yX2_historySize, Cond.instanceMethod yX2_historySize]
def wsL_law_r27 : List Cond := [Cond.selects RX2 yX2_historySize yX2_historySize, Cond.code yX2_historySize cX2_historySize 1 (some .int), Cond.methodLink RL 152 yX3_historySize, Cond.instanceMethod yX3_historySize, Cond.selects RX3 yX3_historySize yX3_historySize, Cond.code yX3_historySize cX3_historySize 1 (some .int), Cond.methodLink RL 153 yX2_undo, Cond.instanceMethod yX2_undo, Cond.selects RX2 yX2_undo yX2_undo, Cond.code yX2_undo cX2_undo 1 (some .int), Cond.methodLink RL 156 yX3_undo, Cond.instanceMethod yX3_undo, Cond.selects RX3 yX3_undo yX3_undo, Cond.code yX3_undo cX3_undo 2 (some .int)]
def wsL_law : List Cond := (wsL_law_r1 ++ (wsL_law_r2 ++ (wsL_law_r3 ++ (wsL_law_r4 ++ (wsL_law_r5 ++ (wsL_law_r6 ++ (wsL_law_r7 ++ (wsL_law_r8 ++ (wsL_law_r9 ++ (wsL_law_r10 ++ (wsL_law_r11 ++ (wsL_law_r12 ++ (wsL_law_r13 ++ (wsL_law_r14 ++ (wsL_law_r15 ++ (wsL_law_r16 ++ (wsL_law_r17 ++ (wsL_law_r18 ++ (wsL_law_r19 ++ (wsL_law_r20 ++ (wsL_law_r21 ++ (wsL_law_r22 ++ (wsL_law_r23 ++ (wsL_law_r24 ++ (wsL_law_r25 ++ (wsL_law_r26 ++ wsL_law_r27)))))))))))))))))))))))))) ++ wsX20 ++ wsX30 ++ wsX10 ++ wsX00 ++ ([] : List Cond)
theorem inlX0 : ∀ w ∈ wsX00, w ∈ wsL_law := fun _ h => List.mem_append_left _ (List.mem_append_right _ h)
theorem inlX1 : ∀ w ∈ wsX10, w ∈ wsL_law := fun _ h => List.mem_append_left _ (List.mem_append_left _ (List.mem_append_right _ h))
theorem inlX2 : ∀ w ∈ wsX20, w ∈ wsL_law := fun _ h => List.mem_append_left _ (List.mem_append_left _ (List.mem_append_left _ (List.mem_append_left _ (List.mem_append_right _ h))))
theorem inlX3 : ∀ w ∈ wsX30, w ∈ wsL_law := fun _ h => List.mem_append_left _ (List.mem_append_left _ (List.mem_append_left _ (List.mem_append_right _ h)))
theorem inJ9 : ∀ w ∈ wsJ90, w ∈ lw_tbl := by decide +kernel
set_option maxRecDepth 20000 in
theorem ggX0_startPair_X1_areaOf : GoodIn wsX0_startPair wsX1_areaOf := goodIn_r _ [4, 5, 6, 7, 8, 9, 2, 10, 11, 24, 25, 26, 27, 28, 29] rfl (by decide +kernel)
set_option maxRecDepth 20000 in
theorem gX0_startPair_X1_areaOf_n25 : GoodIn wsX0_startPair (wsX1_areaOf) := ggX0_startPair_X1_areaOf
set_option maxRecDepth 20000 in
theorem ggX0_startPair_X0_start : GoodIn wsX0_startPair wsX0_start := goodIn_r _ [16, 17, 18, 19, 20, 21, 22, 23, 30, 31, 32, 33, 34, 24, 25, 26, 27, 28, 29] rfl (by decide +kernel)
set_option maxRecDepth 20000 in
theorem gX0_startPair_X0_start : GoodIn wsX0_startPair (wsV RX0 31 RX0 yX0_start wsX0_start) := goodIn_app (goodIn_of _ (by decide +kernel)) ggX0_startPair_X0_start
set_option maxRecDepth 20000 in
theorem ggX0_start_X2_divided : GoodIn wsX0_start wsX2_divided := goodIn_r _ [7] rfl (by decide +kernel)
set_option maxRecDepth 20000 in
theorem gX0_start_X2_divided_n45 : GoodIn wsX0_start (wsX2_divided) := ggX0_start_X2_divided
set_option maxRecDepth 20000 in
theorem ggX0_fillPair_X0_startPair : GoodIn wsX0_fillPair wsX0_startPair := goodIn_r _ [5, 6, 7, 8, 9, 10, 11, 12, 13, 14, 15, 16, 17, 18, 19, 4, 20, 21, 22, 23, 24, 25, 26, 27, 47, 48, 49, 50, 51, 52, 53, 54, 55, 56, 57] rfl (by decide +kernel)
set_option maxRecDepth 20000 in
theorem gX0_fillPair_X0_startPair : GoodIn wsX0_fillPair (wsV RX0 49 RX0 yX0_startPair wsX0_startPair) := goodIn_app (goodIn_of _ (by decide +kernel)) ggX0_fillPair_X0_startPair
set_option maxRecDepth 20000 in
theorem ggX0_fillPair_X0_addAllFor : GoodIn wsX0_fillPair wsX0_addAllFor := goodIn_r _ [31, 32, 7, 33, 34, 10, 12, 13, 14, 15, 16, 35, 36, 37, 11, 38, 26, 39, 40, 41, 42, 43, 44, 4, 45, 21, 46, 47, 48, 49, 50, 51, 52, 53, 54, 55, 56, 57] rfl (by decide +kernel)
set_option maxRecDepth 20000 in
theorem gX0_fillPair_X0_addAllFor : GoodIn wsX0_fillPair (wsV RX0 56 RX0 yX0_addAllFor wsX0_addAllFor) := goodIn_app (goodIn_of _ (by decide +kernel)) ggX0_fillPair_X0_addAllFor
set_option maxRecDepth 20000 in
theorem ggX0_addAllFor_X1_pOf : GoodIn wsX0_addAllFor wsX1_pOf := goodIn_r _ [4, 5, 6, 7, 8, 2, 9, 10, 27, 28, 29, 30, 31, 32] rfl (by decide +kernel)
set_option maxRecDepth 20000 in
theorem gX0_addAllFor_X1_pOf_n60 : GoodIn wsX0_addAllFor (wsX1_pOf) := ggX0_addAllFor_X1_pOf
set_option maxRecDepth 20000 in
theorem ggX0_addAllFor_X1_qOf : GoodIn wsX0_addAllFor wsX1_qOf := goodIn_r _ [13, 14, 6, 7, 8, 2, 9, 10, 27, 28, 29, 30, 31, 32] rfl (by decide +kernel)
set_option maxRecDepth 20000 in
theorem gX0_addAllFor_X1_qOf_n63 : GoodIn wsX0_addAllFor (wsX1_qOf) := ggX0_addAllFor_X1_qOf
set_option maxRecDepth 20000 in
theorem ggX0_addAllFor_X2_realPart : GoodIn wsX0_addAllFor wsX2_realPart := goodIn_r _ [17] rfl (by decide +kernel)
set_option maxRecDepth 20000 in
theorem gX0_addAllFor_X2_realPart_n66 : GoodIn wsX0_addAllFor (wsX2_realPart) := ggX0_addAllFor_X2_realPart
set_option maxRecDepth 20000 in
theorem ggX0_addAllFor_X2_imaginaryPart : GoodIn wsX0_addAllFor wsX2_imaginaryPart := goodIn_r _ [19] rfl (by decide +kernel)
set_option maxRecDepth 20000 in
theorem gX0_addAllFor_X2_imaginaryPart_n70 : GoodIn wsX0_addAllFor (wsX2_imaginaryPart) := ggX0_addAllFor_X2_imaginaryPart
set_option maxRecDepth 20000 in
theorem ggX0_addAllFor_X0_add : GoodIn wsX0_addAllFor wsX0_add := goodIn_r _ [24, 25, 26, 33, 34, 35, 36, 37] rfl (by decide +kernel)
set_option maxRecDepth 20000 in
theorem gX0_addAllFor_X0_add : GoodIn wsX0_addAllFor (wsV RX0 73 RX0 yX0_add wsX0_add) := goodIn_app (goodIn_of _ (by decide +kernel)) ggX0_addAllFor_X0_add
set_option maxRecDepth 20000 in
theorem ggX0_fillTriple_X1_areaOf : GoodIn wsX0_fillTriple wsX1_areaOf := goodIn_r _ [4, 5, 6, 7, 8, 9, 2, 10, 11, 41, 42, 43, 44, 45, 46] rfl (by decide +kernel)
set_option maxRecDepth 20000 in
theorem gX0_fillTriple_X1_areaOf_n25 : GoodIn wsX0_fillTriple (wsX1_areaOf) := ggX0_fillTriple_X1_areaOf
set_option maxRecDepth 20000 in
theorem ggX0_fillTriple_X0_start : GoodIn wsX0_fillTriple wsX0_start := goodIn_r _ [16, 17, 18, 19, 20, 21, 22, 23, 47, 48, 49, 50, 51, 41, 42, 43, 44, 45, 46] rfl (by decide +kernel)
set_option maxRecDepth 20000 in
theorem gX0_fillTriple_X0_start : GoodIn wsX0_fillTriple (wsV RX0 31 RX0 yX0_start wsX0_start) := goodIn_app (goodIn_of _ (by decide +kernel)) ggX0_fillTriple_X0_start
set_option maxRecDepth 20000 in
theorem ggX0_fillTriple_X0_productReal : GoodIn wsX0_fillTriple wsX0_productReal := goodIn_r _ [26, 27, 2, 28, 29, 5, 7, 8, 9, 10, 11, 30, 31, 32, 6, 41, 42, 43, 44, 45, 46] rfl (by decide +kernel)
set_option maxRecDepth 20000 in
theorem gX0_fillTriple_X0_productReal : GoodIn wsX0_fillTriple (va_wsS RX0 77 yX0_productReal wsX0_productReal) := goodIn_app (goodIn_of _ (by decide +kernel)) ggX0_fillTriple_X0_productReal
set_option maxRecDepth 20000 in
theorem ggX0_fillTriple_X0_productImaginary : GoodIn wsX0_fillTriple wsX0_productImaginary := goodIn_r _ [35, 27, 2, 28, 29, 5, 7, 8, 9, 10, 11, 30, 31, 32, 6, 41, 42, 43, 44, 45, 46] rfl (by decide +kernel)
set_option maxRecDepth 20000 in
theorem gX0_fillTriple_X0_productImaginary : GoodIn wsX0_fillTriple (va_wsS RX0 81 yX0_productImaginary wsX0_productImaginary) := goodIn_app (goodIn_of _ (by decide +kernel)) ggX0_fillTriple_X0_productImaginary
set_option maxRecDepth 20000 in
theorem ggX0_fillTriple_X0_add : GoodIn wsX0_fillTriple wsX0_add := goodIn_r _ [39, 17, 40, 47, 48, 49, 50, 51] rfl (by decide +kernel)
set_option maxRecDepth 20000 in
theorem gX0_fillTriple_X0_add : GoodIn wsX0_fillTriple (wsV RX0 73 RX0 yX0_add wsX0_add) := goodIn_app (goodIn_of _ (by decide +kernel)) ggX0_fillTriple_X0_add
set_option maxRecDepth 20000 in
theorem ggX0_productReal_X1_pOf : GoodIn wsX0_productReal wsX1_pOf := goodIn_r _ [4, 5, 6, 7, 8, 2, 9, 10, 15, 16, 17, 18, 19, 20] rfl (by decide +kernel)
set_option maxRecDepth 20000 in
theorem gX0_productReal_X1_pOf_n60 : GoodIn wsX0_productReal (wsX1_pOf) := ggX0_productReal_X1_pOf
set_option maxRecDepth 20000 in
theorem ggX0_productReal_X1_qOf : GoodIn wsX0_productReal wsX1_qOf := goodIn_r _ [13, 14, 6, 7, 8, 2, 9, 10, 15, 16, 17, 18, 19, 20] rfl (by decide +kernel)
set_option maxRecDepth 20000 in
theorem gX0_productReal_X1_qOf_n63 : GoodIn wsX0_productReal (wsX1_qOf) := ggX0_productReal_X1_qOf
set_option maxRecDepth 20000 in
theorem ggX0_productImaginary_X1_pOf : GoodIn wsX0_productImaginary wsX1_pOf := goodIn_r _ [4, 5, 6, 7, 8, 2, 9, 10, 15, 16, 17, 18, 19, 20] rfl (by decide +kernel)
set_option maxRecDepth 20000 in
theorem gX0_productImaginary_X1_pOf_n60 : GoodIn wsX0_productImaginary (wsX1_pOf) := ggX0_productImaginary_X1_pOf
set_option maxRecDepth 20000 in
theorem ggX0_productImaginary_X1_qOf : GoodIn wsX0_productImaginary wsX1_qOf := goodIn_r _ [13, 14, 6, 7, 8, 2, 9, 10, 15, 16, 17, 18, 19, 20] rfl (by decide +kernel)
set_option maxRecDepth 20000 in
theorem gX0_productImaginary_X1_qOf_n63 : GoodIn wsX0_productImaginary (wsX1_qOf) := ggX0_productImaginary_X1_qOf
set_option maxRecDepth 20000 in
theorem ggX0_fillPlates_X0_firstPlate : GoodIn wsX0_fillPlates wsX0_firstPlate := goodIn_r _ [4] rfl (by decide +kernel)
set_option maxRecDepth 20000 in
theorem gX0_fillPlates_X0_firstPlate : GoodIn wsX0_fillPlates (va_wsS RX0 84 yX0_firstPlate wsX0_firstPlate) := goodIn_app (goodIn_of _ (by decide +kernel)) ggX0_fillPlates_X0_firstPlate
set_option maxRecDepth 20000 in
theorem ggX0_fillPlates_X0_fillTriple : GoodIn wsX0_fillPlates wsX0_fillTriple := goodIn_r _ [8, 9, 10, 11, 12, 13, 14, 15, 16, 17, 18, 19, 20, 21, 22, 3, 23, 24, 25, 26, 27, 28, 29, 30, 31, 32, 33, 34, 35, 36, 37, 38, 39, 40, 41, 42, 43, 44, 45, 46, 47, 64, 65, 66, 67, 68, 69, 70, 71, 72, 73, 74] rfl (by decide +kernel)
set_option maxRecDepth 20000 in
theorem gX0_fillPlates_X0_fillTriple : GoodIn wsX0_fillPlates (wsV RX0 88 RX0 yX0_fillTriple wsX0_fillTriple) := goodIn_app (goodIn_of _ (by decide +kernel)) ggX0_fillPlates_X0_fillTriple
set_option maxRecDepth 20000 in
theorem ggX0_fillPlates_X0_fillPair : GoodIn wsX0_fillPlates wsX0_fillPair := goodIn_r _ [51, 52, 53, 54, 3, 55, 9, 10, 11, 12, 13, 14, 15, 16, 17, 18, 19, 20, 21, 22, 23, 24, 25, 26, 27, 28, 29, 30, 56, 57, 58, 59, 34, 35, 36, 37, 38, 39, 60, 61, 62, 63, 43, 44, 45, 46, 47, 64, 65, 66, 67, 68, 69, 70, 71, 72, 73, 74] rfl (by decide +kernel)
set_option maxRecDepth 20000 in
theorem gX0_fillPlates_X0_fillPair : GoodIn wsX0_fillPlates (wsV RX0 92 RX0 yX0_fillPair wsX0_fillPair) := goodIn_app (goodIn_of _ (by decide +kernel)) ggX0_fillPlates_X0_fillPair
set_option maxRecDepth 20000 in
theorem ggX0_bandCount_X0_kindOf : GoodIn wsX0_bandCount wsX0_kindOf := goodIn_r _ [7, 8, 9, 10, 11, 12, 13, 14] rfl (by decide +kernel)
set_option maxRecDepth 20000 in
theorem gX0_bandCount_X0_kindOf : GoodIn wsX0_bandCount (wsV RX0 95 RX0 yX0_kindOf wsX0_kindOf) := goodIn_app (goodIn_of _ (by decide +kernel)) ggX0_bandCount_X0_kindOf
set_option maxRecDepth 20000 in
theorem ggX0_worstPeriodFound_X0_kindOf : GoodIn wsX0_worstPeriodFound wsX0_kindOf := goodIn_r _ [7, 8, 9, 20, 21, 22, 23, 24] rfl (by decide +kernel)
set_option maxRecDepth 20000 in
theorem gX0_worstPeriodFound_X0_kindOf : GoodIn wsX0_worstPeriodFound (wsV RX0 95 RX0 yX0_kindOf wsX0_kindOf) := goodIn_app (goodIn_of _ (by decide +kernel)) ggX0_worstPeriodFound_X0_kindOf
set_option maxRecDepth 20000 in
theorem ggX0_worstPeriodFound_X0_period : GoodIn wsX0_worstPeriodFound wsX0_period := goodIn_r _ [13, 14, 15, 16, 17, 18, 19, 20, 21, 22, 23, 24] rfl (by decide +kernel)
set_option maxRecDepth 20000 in
theorem gX0_worstPeriodFound_X0_period : GoodIn wsX0_worstPeriodFound (wsV RX0 98 RX0 yX0_period wsX0_period) := goodIn_app (goodIn_of _ (by decide +kernel)) ggX0_worstPeriodFound_X0_period
set_option maxRecDepth 20000 in
theorem ggX0_numerator_X2_gcd : GoodIn wsX0_numerator wsX2_gcd := goodIn_r _ [4] rfl (by decide +kernel)
set_option maxRecDepth 20000 in
theorem gX0_numerator_X2_gcd_n101 : GoodIn wsX0_numerator (wsX2_gcd) := ggX0_numerator_X2_gcd
set_option maxRecDepth 20000 in
theorem ggX0_numerator_X2_divided : GoodIn wsX0_numerator wsX2_divided := goodIn_r _ [6] rfl (by decide +kernel)
set_option maxRecDepth 20000 in
theorem gX0_numerator_X2_divided_n45 : GoodIn wsX0_numerator (wsX2_divided) := ggX0_numerator_X2_divided
set_option maxRecDepth 20000 in
theorem ggX0_denominator_X2_gcd : GoodIn wsX0_denominator wsX2_gcd := goodIn_r _ [4] rfl (by decide +kernel)
set_option maxRecDepth 20000 in
theorem gX0_denominator_X2_gcd_n101 : GoodIn wsX0_denominator (wsX2_gcd) := ggX0_denominator_X2_gcd
set_option maxRecDepth 20000 in
theorem ggX0_denominator_X2_divided : GoodIn wsX0_denominator wsX2_divided := goodIn_r _ [6] rfl (by decide +kernel)
set_option maxRecDepth 20000 in
theorem gX0_denominator_X2_divided_n45 : GoodIn wsX0_denominator (wsX2_divided) := ggX0_denominator_X2_divided
set_option maxRecDepth 20000 in
theorem ggX0_period_X2_divided : GoodIn wsX0_period wsX2_divided := goodIn_r _ [4] rfl (by decide +kernel)
set_option maxRecDepth 20000 in
theorem gX0_period_X2_divided_n45 : GoodIn wsX0_period (wsX2_divided) := ggX0_period_X2_divided
set_option maxRecDepth 20000 in
theorem ggX0_period_X2_root : GoodIn wsX0_period wsX2_root := goodIn_r _ [6] rfl (by decide +kernel)
set_option maxRecDepth 20000 in
theorem gX0_period_X2_root_n104 : GoodIn wsX0_period (wsX2_root) := ggX0_period_X2_root
set_option maxRecDepth 20000 in
theorem ggX1_hasPair_X1_has : GoodIn wsX1_hasPair wsX1_has := goodIn_r _ [5, 6, 7, 8, 9, 10, 11, 12] rfl (by decide +kernel)
set_option maxRecDepth 20000 in
theorem gX1_hasPair_X1_has : GoodIn wsX1_hasPair (wsV RX1 31 RX1 yX1_has wsX1_has) := goodIn_app (goodIn_of _ (by decide +kernel)) ggX1_hasPair_X1_has
set_option maxRecDepth 20000 in
theorem ggX1_pOf_X1_has : GoodIn wsX1_pOf wsX1_has := goodIn_r _ [6, 7, 8, 9, 10, 11, 12, 13] rfl (by decide +kernel)
set_option maxRecDepth 20000 in
theorem gX1_pOf_X1_has : GoodIn wsX1_pOf (wsV RX1 31 RX1 yX1_has wsX1_has) := goodIn_app (goodIn_of _ (by decide +kernel)) ggX1_pOf_X1_has
set_option maxRecDepth 20000 in
theorem ggX1_qOf_X1_has : GoodIn wsX1_qOf wsX1_has := goodIn_r _ [6, 7, 8, 9, 10, 11, 12, 13] rfl (by decide +kernel)
set_option maxRecDepth 20000 in
theorem gX1_qOf_X1_has : GoodIn wsX1_qOf (wsV RX1 31 RX1 yX1_has wsX1_has) := goodIn_app (goodIn_of _ (by decide +kernel)) ggX1_qOf_X1_has
set_option maxRecDepth 20000 in
theorem ggX1_areaOf_X1_has : GoodIn wsX1_areaOf wsX1_has := goodIn_r _ [7, 8, 9, 10, 11, 12, 13, 14] rfl (by decide +kernel)
set_option maxRecDepth 20000 in
theorem gX1_areaOf_X1_has : GoodIn wsX1_areaOf (wsV RX1 31 RX1 yX1_has wsX1_has) := goodIn_app (goodIn_of _ (by decide +kernel)) ggX1_areaOf_X1_has
set_option maxRecDepth 20000 in
theorem ggX1_put_X1_has : GoodIn wsX1_put wsX1_has := goodIn_r _ [7, 8, 9, 10, 11, 12, 13, 14] rfl (by decide +kernel)
set_option maxRecDepth 20000 in
theorem gX1_put_X1_has : GoodIn wsX1_put (wsV RX1 31 RX1 yX1_has wsX1_has) := goodIn_app (goodIn_of _ (by decide +kernel)) ggX1_put_X1_has
set_option maxRecDepth 20000 in
theorem ggX1_append_X1_put : GoodIn wsX1_append wsX1_put := goodIn_r _ [6, 7, 8, 9, 10, 11, 5, 12, 1, 13, 14, 15, 16, 17, 18] rfl (by decide +kernel)
set_option maxRecDepth 20000 in
theorem gX1_append_X1_put : GoodIn wsX1_append (wsV RX1 35 RX1 yX1_put wsX1_put) := goodIn_app (goodIn_of _ (by decide +kernel)) ggX1_append_X1_put
set_option maxRecDepth 20000 in
theorem ggX1_drop_X1_has : GoodIn wsX1_drop wsX1_has := goodIn_r _ [6, 1, 21, 22, 23, 24, 25, 26] rfl (by decide +kernel)
set_option maxRecDepth 20000 in
theorem gX1_drop_X1_has : GoodIn wsX1_drop (wsV RX1 31 RX1 yX1_has wsX1_has) := goodIn_app (goodIn_of _ (by decide +kernel)) ggX1_drop_X1_has
set_option maxRecDepth 20000 in
theorem ggX1_drop_X1_pOf : GoodIn wsX1_drop wsX1_pOf := goodIn_r _ [10, 11, 2, 3, 4, 5, 6, 1, 21, 22, 23, 24, 25, 26] rfl (by decide +kernel)
set_option maxRecDepth 20000 in
theorem gX1_drop_X1_pOf : GoodIn wsX1_drop (wsV RX1 39 RX1 yX1_pOf wsX1_pOf) := goodIn_app (goodIn_of _ (by decide +kernel)) ggX1_drop_X1_pOf
set_option maxRecDepth 20000 in
theorem ggX1_drop_X1_qOf : GoodIn wsX1_drop wsX1_qOf := goodIn_r _ [15, 16, 2, 3, 4, 5, 6, 1, 21, 22, 23, 24, 25, 26] rfl (by decide +kernel)
set_option maxRecDepth 20000 in
theorem gX1_drop_X1_qOf : GoodIn wsX1_drop (wsV RX1 43 RX1 yX1_qOf wsX1_qOf) := goodIn_app (goodIn_of _ (by decide +kernel)) ggX1_drop_X1_qOf
set_option maxRecDepth 20000 in
theorem ggX1_drop_X1_put : GoodIn wsX1_drop wsX1_put := goodIn_r _ [20, 11, 16, 2, 3, 4, 5, 6, 1, 21, 22, 23, 24, 25, 26] rfl (by decide +kernel)
set_option maxRecDepth 20000 in
theorem gX1_drop_X1_put : GoodIn wsX1_drop (wsV RX1 35 RX1 yX1_put wsX1_put) := goodIn_app (goodIn_of _ (by decide +kernel)) ggX1_drop_X1_put
set_option maxRecDepth 20000 in
theorem ggX1_pairNorm_X1_pOf : GoodIn wsX1_pairNorm wsX1_pOf := goodIn_r _ [5, 6, 7, 8, 9, 4, 10, 11, 22, 23, 24, 25, 26, 27] rfl (by decide +kernel)
set_option maxRecDepth 20000 in
theorem gX1_pairNorm_X1_pOf : GoodIn wsX1_pairNorm (wsV RX1 39 RX1 yX1_pOf wsX1_pOf) := goodIn_app (goodIn_of _ (by decide +kernel)) ggX1_pairNorm_X1_pOf
set_option maxRecDepth 20000 in
theorem ggX1_pairNorm_X1_qOf : GoodIn wsX1_pairNorm wsX1_qOf := goodIn_r _ [15, 16, 7, 8, 9, 4, 10, 11, 22, 23, 24, 25, 26, 27] rfl (by decide +kernel)
set_option maxRecDepth 20000 in
theorem gX1_pairNorm_X1_qOf : GoodIn wsX1_pairNorm (wsV RX1 43 RX1 yX1_qOf wsX1_qOf) := goodIn_app (goodIn_of _ (by decide +kernel)) ggX1_pairNorm_X1_qOf
set_option maxRecDepth 20000 in
theorem ggX1_pairNorm_X2_realPart : GoodIn wsX1_pairNorm wsX2_realPart := goodIn_r _ [19] rfl (by decide +kernel)
set_option maxRecDepth 20000 in
theorem gX1_pairNorm_X2_realPart_n46 : GoodIn wsX1_pairNorm (wsX2_realPart) := ggX1_pairNorm_X2_realPart
set_option maxRecDepth 20000 in
theorem ggX1_pairNorm_X2_imaginaryPart : GoodIn wsX1_pairNorm wsX2_imaginaryPart := goodIn_r _ [21] rfl (by decide +kernel)
set_option maxRecDepth 20000 in
theorem gX1_pairNorm_X2_imaginaryPart_n50 : GoodIn wsX1_pairNorm (wsX2_imaginaryPart) := ggX1_pairNorm_X2_imaginaryPart
set_option maxRecDepth 20000 in
theorem ggX2_init_X1_init : GoodIn wsX2_init wsX1_init := goodIn_r _ [18, 19, 2, 3, 20, 21, 22, 23, 24, 25, 26, 34, 35, 36, 37, 38, 39] rfl (by decide +kernel)
set_option maxRecDepth 20000 in
theorem gX2_init_X1_init_n9 : GoodIn wsX2_init (wsX1_init) := ggX2_init_X1_init
set_option maxRecDepth 20000 in
theorem ggX2_init_X0_init : GoodIn wsX2_init wsX0_init := goodIn_r _ [28, 29, 2, 3, 20, 30, 31, 32, 33, 47, 48, 49, 50, 51] rfl (by decide +kernel)
set_option maxRecDepth 20000 in
theorem gX2_init_X0_init_n32 : GoodIn wsX2_init (wsX0_init) := ggX2_init_X0_init
set_option maxRecDepth 20000 in
theorem ggX2_addPlate_X2_isScreen : GoodIn wsX2_addPlate wsX2_isScreen := goodIn_r _ [5] rfl (by decide +kernel)
set_option maxRecDepth 20000 in
theorem gX2_addPlate_X2_isScreen : GoodIn wsX2_addPlate (va_wsS RX2 37 yX2_isScreen wsX2_isScreen) := goodIn_app (goodIn_of _ (by decide +kernel)) ggX2_addPlate_X2_isScreen
set_option maxRecDepth 20000 in
theorem ggX2_addPlate_X2_record : GoodIn wsX2_addPlate wsX2_record := goodIn_r _ [9, 10, 1, 11, 12, 13, 14, 4, 15, 16, 17, 18, 34, 35, 36, 37, 38, 39, 40, 41, 42, 43, 44, 45, 46] rfl (by decide +kernel)
set_option maxRecDepth 20000 in
theorem gX2_addPlate_X2_record : GoodIn wsX2_addPlate (wsV RX2 45 RX2 yX2_record wsX2_record) := goodIn_app (goodIn_of _ (by decide +kernel)) ggX2_addPlate_X2_record
set_option maxRecDepth 20000 in
theorem ggX2_addPlate_X1_append : GoodIn wsX2_addPlate wsX1_append := goodIn_r _ [22, 23, 24, 25, 26, 20, 27, 28, 29, 30, 31, 32, 33, 41, 42, 43, 44, 45, 46] rfl (by decide +kernel)
set_option maxRecDepth 20000 in
theorem gX2_addPlate_X1_append_n48 : GoodIn wsX2_addPlate (wsX1_append) := ggX2_addPlate_X1_append
set_option maxRecDepth 20000 in
theorem ggX2_setScreen_X1_has : GoodIn wsX2_setScreen wsX1_has := goodIn_r _ [5, 6, 40, 41, 42, 43, 44, 45] rfl (by decide +kernel)
set_option maxRecDepth 20000 in
theorem gX2_setScreen_X1_has_n52 : GoodIn wsX2_setScreen (wsX1_has) := ggX2_setScreen_X1_has
set_option maxRecDepth 20000 in
theorem ggX2_setScreen_X2_isScreen : GoodIn wsX2_setScreen wsX2_isScreen := goodIn_r _ [10] rfl (by decide +kernel)
set_option maxRecDepth 20000 in
theorem gX2_setScreen_X2_isScreen : GoodIn wsX2_setScreen (va_wsS RX2 37 yX2_isScreen wsX2_isScreen) := goodIn_app (goodIn_of _ (by decide +kernel)) ggX2_setScreen_X2_isScreen
set_option maxRecDepth 20000 in
theorem ggX2_setScreen_X2_record : GoodIn wsX2_setScreen wsX2_record := goodIn_r _ [14, 15, 1, 16, 17, 18, 19, 9, 20, 21, 22, 23, 33, 34, 35, 36, 37, 38, 39, 40, 41, 42, 43, 44, 45] rfl (by decide +kernel)
set_option maxRecDepth 20000 in
theorem gX2_setScreen_X2_record : GoodIn wsX2_setScreen (wsV RX2 45 RX2 yX2_record wsX2_record) := goodIn_app (goodIn_of _ (by decide +kernel)) ggX2_setScreen_X2_record
set_option maxRecDepth 20000 in
theorem ggX2_setScreen_X1_areaOf : GoodIn wsX2_setScreen wsX1_areaOf := goodIn_r _ [26, 27, 28, 29, 2, 4, 3, 5, 6, 40, 41, 42, 43, 44, 45] rfl (by decide +kernel)
set_option maxRecDepth 20000 in
theorem gX2_setScreen_X1_areaOf_n56 : GoodIn wsX2_setScreen (wsX1_areaOf) := ggX2_setScreen_X1_areaOf
set_option maxRecDepth 20000 in
theorem ggX2_setScreen_X1_put : GoodIn wsX2_setScreen wsX1_put := goodIn_r _ [32, 27, 28, 29, 2, 4, 3, 5, 6, 40, 41, 42, 43, 44, 45] rfl (by decide +kernel)
set_option maxRecDepth 20000 in
theorem gX2_setScreen_X1_put_n60 : GoodIn wsX2_setScreen (wsX1_put) := ggX2_setScreen_X1_put
set_option maxRecDepth 20000 in
theorem ggX2_removePlate_X1_has : GoodIn wsX2_removePlate wsX1_has := goodIn_r _ [5, 6, 46, 47, 48, 49, 50, 51] rfl (by decide +kernel)
set_option maxRecDepth 20000 in
theorem gX2_removePlate_X1_has_n52 : GoodIn wsX2_removePlate (wsX1_has) := ggX2_removePlate_X1_has
set_option maxRecDepth 20000 in
theorem ggX2_removePlate_X2_record : GoodIn wsX2_removePlate wsX2_record := goodIn_r _ [11, 12, 1, 13, 14, 15, 16, 10, 17, 18, 19, 20, 39, 40, 41, 42, 43, 44, 45, 46, 47, 48, 49, 50, 51] rfl (by decide +kernel)
set_option maxRecDepth 20000 in
theorem gX2_removePlate_X2_record : GoodIn wsX2_removePlate (wsV RX2 45 RX2 yX2_record wsX2_record) := goodIn_app (goodIn_of _ (by decide +kernel)) ggX2_removePlate_X2_record
set_option maxRecDepth 20000 in
theorem ggX2_removePlate_X1_drop : GoodIn wsX2_removePlate wsX1_drop := goodIn_r _ [23, 6, 24, 2, 4, 3, 5, 25, 26, 27, 28, 29, 30, 31, 32, 33, 34, 35, 36, 37, 38, 46, 47, 48, 49, 50, 51] rfl (by decide +kernel)
set_option maxRecDepth 20000 in
theorem gX2_removePlate_X1_drop_n64 : GoodIn wsX2_removePlate (wsX1_drop) := ggX2_removePlate_X1_drop
set_option maxRecDepth 20000 in
theorem ggX2_cellP_X1_has : GoodIn wsX2_cellP wsX1_has := goodIn_r _ [5, 6, 19, 20, 21, 22, 23, 24] rfl (by decide +kernel)
set_option maxRecDepth 20000 in
theorem gX2_cellP_X1_has_n52 : GoodIn wsX2_cellP (wsX1_has) := ggX2_cellP_X1_has
set_option maxRecDepth 20000 in
theorem ggX2_cellP_X1_pOf : GoodIn wsX2_cellP wsX1_pOf := goodIn_r _ [9, 10, 11, 2, 4, 3, 5, 6, 19, 20, 21, 22, 23, 24] rfl (by decide +kernel)
set_option maxRecDepth 20000 in
theorem gX2_cellP_X1_pOf_n68 : GoodIn wsX2_cellP (wsX1_pOf) := ggX2_cellP_X1_pOf
set_option maxRecDepth 20000 in
theorem ggX2_cellQ_X1_has : GoodIn wsX2_cellQ wsX1_has := goodIn_r _ [5, 6, 19, 20, 21, 22, 23, 24] rfl (by decide +kernel)
set_option maxRecDepth 20000 in
theorem gX2_cellQ_X1_has_n52 : GoodIn wsX2_cellQ (wsX1_has) := ggX2_cellQ_X1_has
set_option maxRecDepth 20000 in
theorem ggX2_cellQ_X1_qOf : GoodIn wsX2_cellQ wsX1_qOf := goodIn_r _ [9, 10, 11, 2, 4, 3, 5, 6, 19, 20, 21, 22, 23, 24] rfl (by decide +kernel)
set_option maxRecDepth 20000 in
theorem gX2_cellQ_X1_qOf_n71 : GoodIn wsX2_cellQ (wsX1_qOf) := ggX2_cellQ_X1_qOf
set_option maxRecDepth 20000 in
theorem ggX2_cellArea_X1_has : GoodIn wsX2_cellArea wsX1_has := goodIn_r _ [5, 6, 20, 21, 22, 23, 24, 25] rfl (by decide +kernel)
set_option maxRecDepth 20000 in
theorem gX2_cellArea_X1_has_n52 : GoodIn wsX2_cellArea (wsX1_has) := ggX2_cellArea_X1_has
set_option maxRecDepth 20000 in
theorem ggX2_cellArea_X1_areaOf : GoodIn wsX2_cellArea wsX1_areaOf := goodIn_r _ [9, 10, 11, 12, 2, 4, 3, 5, 6, 20, 21, 22, 23, 24, 25] rfl (by decide +kernel)
set_option maxRecDepth 20000 in
theorem gX2_cellArea_X1_areaOf_n56 : GoodIn wsX2_cellArea (wsX1_areaOf) := ggX2_cellArea_X1_areaOf
set_option maxRecDepth 20000 in
theorem ggX2_tile_X1_has : GoodIn wsX2_tile wsX1_has := goodIn_r _ [5, 6, 37, 38, 39, 40, 41, 42] rfl (by decide +kernel)
set_option maxRecDepth 20000 in
theorem gX2_tile_X1_has_n52 : GoodIn wsX2_tile (wsX1_has) := ggX2_tile_X1_has
set_option maxRecDepth 20000 in
theorem ggX2_tile_X2_tileOf : GoodIn wsX2_tile wsX2_tileOf := goodIn_r _ [11, 1, 12, 3, 13, 14, 15, 16, 17, 2, 4, 5, 6, 18, 19, 20, 21, 22, 23, 24, 25, 10, 26, 27, 28, 29, 30, 31, 32, 33, 34, 35, 36, 37, 38, 39, 40, 41, 42] rfl (by decide +kernel)
set_option maxRecDepth 20000 in
theorem gX2_tile_X2_tileOf : GoodIn wsX2_tile (wsV RX2 74 RX2 yX2_tileOf wsX2_tileOf) := goodIn_app (goodIn_of _ (by decide +kernel)) ggX2_tile_X2_tileOf
set_option maxRecDepth 20000 in
theorem ggX2_commonTile_X2_tileOf : GoodIn wsX2_commonTile wsX2_tileOf := goodIn_r _ [6, 1, 7, 8, 9, 10, 11, 12, 13, 14, 15, 16, 17, 18, 19, 20, 21, 22, 23, 24, 25, 5, 26, 27, 28, 29, 30, 31, 32, 33, 34, 35, 36, 37, 38, 39, 40, 41, 42] rfl (by decide +kernel)
set_option maxRecDepth 20000 in
theorem gX2_commonTile_X2_tileOf : GoodIn wsX2_commonTile (wsV RX2 74 RX2 yX2_tileOf wsX2_tileOf) := goodIn_app (goodIn_of _ (by decide +kernel)) ggX2_commonTile_X2_tileOf
set_option maxRecDepth 20000 in
theorem ggX2_commonTile_X2_gcd : GoodIn wsX2_commonTile wsX2_gcd := goodIn_r _ [26] rfl (by decide +kernel)
set_option maxRecDepth 20000 in
theorem gX2_commonTile_X2_gcd : GoodIn wsX2_commonTile (va_wsS RX2 78 yX2_gcd wsX2_gcd) := goodIn_app (goodIn_of _ (by decide +kernel)) ggX2_commonTile_X2_gcd
set_option maxRecDepth 20000 in
theorem ggX2_commonTile_X2_divided : GoodIn wsX2_commonTile wsX2_divided := goodIn_r _ [29] rfl (by decide +kernel)
set_option maxRecDepth 20000 in
theorem gX2_commonTile_X2_divided : GoodIn wsX2_commonTile (va_wsS RX2 82 yX2_divided wsX2_divided) := goodIn_app (goodIn_of _ (by decide +kernel)) ggX2_commonTile_X2_divided
set_option maxRecDepth 20000 in
theorem ggX2_byAngle_X2_platesBefore : GoodIn wsX2_byAngle wsX2_platesBefore := goodIn_r _ [6, 1, 7, 8, 9, 10, 11, 12, 13, 14, 15, 16, 17, 18, 19, 20, 21, 22, 23, 24, 25, 26, 27, 28, 29, 30, 31, 32, 33] rfl (by decide +kernel)
set_option maxRecDepth 20000 in
theorem gX2_byAngle_X2_platesBefore : GoodIn wsX2_byAngle (wsV RX2 85 RX2 yX2_platesBefore wsX2_platesBefore) := goodIn_app (goodIn_of _ (by decide +kernel)) ggX2_byAngle_X2_platesBefore
set_option maxRecDepth 20000 in
theorem ggX2_tileOf_X1_areaOf : GoodIn wsX2_tileOf wsX1_areaOf := goodIn_r _ [5, 6, 7, 8, 9, 10, 3, 11, 12, 33, 34, 35, 36, 37, 38] rfl (by decide +kernel)
set_option maxRecDepth 20000 in
theorem gX2_tileOf_X1_areaOf_n56 : GoodIn wsX2_tileOf (wsX1_areaOf) := ggX2_tileOf_X1_areaOf
set_option maxRecDepth 20000 in
theorem ggX2_tileOf_X1_pOf : GoodIn wsX2_tileOf wsX1_pOf := goodIn_r _ [15, 6, 8, 9, 10, 3, 11, 12, 33, 34, 35, 36, 37, 38] rfl (by decide +kernel)
set_option maxRecDepth 20000 in
theorem gX2_tileOf_X1_pOf_n68 : GoodIn wsX2_tileOf (wsX1_pOf) := ggX2_tileOf_X1_pOf
set_option maxRecDepth 20000 in
theorem ggX2_tileOf_X1_qOf : GoodIn wsX2_tileOf wsX1_qOf := goodIn_r _ [18, 7, 8, 9, 10, 3, 11, 12, 33, 34, 35, 36, 37, 38] rfl (by decide +kernel)
set_option maxRecDepth 20000 in
theorem gX2_tileOf_X1_qOf_n71 : GoodIn wsX2_tileOf (wsX1_qOf) := ggX2_tileOf_X1_qOf
set_option maxRecDepth 20000 in
theorem ggX2_tileOf_X2_gcd : GoodIn wsX2_tileOf wsX2_gcd := goodIn_r _ [22] rfl (by decide +kernel)
set_option maxRecDepth 20000 in
theorem gX2_tileOf_X2_gcd : GoodIn wsX2_tileOf (va_wsS RX2 78 yX2_gcd wsX2_gcd) := goodIn_app (goodIn_of _ (by decide +kernel)) ggX2_tileOf_X2_gcd
set_option maxRecDepth 20000 in
theorem ggX2_tileOf_X2_divided : GoodIn wsX2_tileOf wsX2_divided := goodIn_r _ [25] rfl (by decide +kernel)
set_option maxRecDepth 20000 in
theorem gX2_tileOf_X2_divided : GoodIn wsX2_tileOf (va_wsS RX2 82 yX2_divided wsX2_divided) := goodIn_app (goodIn_of _ (by decide +kernel)) ggX2_tileOf_X2_divided
set_option maxRecDepth 20000 in
theorem ggX2_platesBefore_X1_qOf : GoodIn wsX2_platesBefore wsX1_qOf := goodIn_r _ [5, 6, 7, 8, 9, 3, 10, 11, 23, 24, 25, 26, 27, 28] rfl (by decide +kernel)
set_option maxRecDepth 20000 in
theorem gX2_platesBefore_X1_qOf_n71 : GoodIn wsX2_platesBefore (wsX1_qOf) := ggX2_platesBefore_X1_qOf
set_option maxRecDepth 20000 in
theorem ggX2_platesBefore_X1_pOf : GoodIn wsX2_platesBefore wsX1_pOf := goodIn_r _ [14, 15, 7, 8, 9, 3, 10, 11, 23, 24, 25, 26, 27, 28] rfl (by decide +kernel)
set_option maxRecDepth 20000 in
theorem gX2_platesBefore_X1_pOf_n68 : GoodIn wsX2_platesBefore (wsX1_pOf) := ggX2_platesBefore_X1_pOf
set_option maxRecDepth 20000 in
theorem ggX2_setOrder_X2_record : GoodIn wsX2_setOrder wsX2_record := goodIn_r _ [6, 7, 1, 8, 9, 10, 11, 5, 12, 13, 14, 15, 16, 17, 18, 19, 20, 21, 22, 23, 24, 25, 26, 27, 28] rfl (by decide +kernel)
set_option maxRecDepth 20000 in
theorem gX2_setOrder_X2_record : GoodIn wsX2_setOrder (wsV RX2 45 RX2 yX2_record wsX2_record) := goodIn_app (goodIn_of _ (by decide +kernel)) ggX2_setOrder_X2_record
set_option maxRecDepth 20000 in
theorem ggX2_setLimits_X2_record : GoodIn wsX2_setLimits wsX2_record := goodIn_r _ [6, 7, 1, 8, 9, 10, 11, 5, 12, 13, 14, 15, 16, 17, 18, 19, 20, 21, 22, 23, 24, 25, 26, 27, 28] rfl (by decide +kernel)
set_option maxRecDepth 20000 in
theorem gX2_setLimits_X2_record : GoodIn wsX2_setLimits (wsV RX2 45 RX2 yX2_record wsX2_record) := goodIn_app (goodIn_of _ (by decide +kernel)) ggX2_setLimits_X2_record
set_option maxRecDepth 20000 in
theorem ggX2_squareNumerator_X2_isCombination : GoodIn wsX2_squareNumerator wsX2_isCombination := goodIn_r _ [8, 3, 9, 10, 11, 12, 13, 14, 15, 16, 17, 18, 19, 20, 21, 61, 62, 63, 64, 65, 66, 67, 68, 69, 70, 71, 72, 73] rfl (by decide +kernel)
set_option maxRecDepth 20000 in
theorem gX2_squareNumerator_X2_isCombination : GoodIn wsX2_squareNumerator (wsV RX2 97 RX2 yX2_isCombination wsX2_isCombination) := goodIn_app (goodIn_of _ (by decide +kernel)) ggX2_squareNumerator_X2_isCombination
set_option maxRecDepth 20000 in
theorem ggX2_squareNumerator_X0_startPair : GoodIn wsX2_squareNumerator wsX0_startPair := goodIn_r _ [25, 26, 10, 27, 28, 29, 30, 13, 14, 15, 16, 17, 31, 32, 33, 23, 34, 35, 36, 37, 38, 39, 7, 40, 68, 69, 70, 71, 72, 73, 74, 75, 76, 77, 78] rfl (by decide +kernel)
set_option maxRecDepth 20000 in
theorem gX2_squareNumerator_X0_startPair_n103 : GoodIn wsX2_squareNumerator (wsX0_startPair) := ggX2_squareNumerator_X0_startPair
set_option maxRecDepth 20000 in
theorem ggX2_squareNumerator_X1_pairNorm : GoodIn wsX2_squareNumerator wsX1_pairNorm := goodIn_r _ [43, 44, 45, 46, 10, 47, 29, 13, 14, 15, 16, 17, 48, 49, 50, 51, 30, 52, 7, 53, 54, 55, 68, 69, 70, 71, 72, 73] rfl (by decide +kernel)
set_option maxRecDepth 20000 in
theorem gX2_squareNumerator_X1_pairNorm_n107 : GoodIn wsX2_squareNumerator (wsX1_pairNorm) := ggX2_squareNumerator_X1_pairNorm
set_option maxRecDepth 20000 in
theorem ggX2_squareNumerator_X0_numerator : GoodIn wsX2_squareNumerator wsX0_numerator := goodIn_r _ [58, 36, 59, 7, 60, 39, 40, 74, 75, 76, 77, 78] rfl (by decide +kernel)
set_option maxRecDepth 20000 in
theorem gX2_squareNumerator_X0_numerator_n111 : GoodIn wsX2_squareNumerator (wsX0_numerator) := ggX2_squareNumerator_X0_numerator
set_option maxRecDepth 20000 in
theorem ggX2_squareDenominator_X2_isCombination : GoodIn wsX2_squareDenominator wsX2_isCombination := goodIn_r _ [8, 3, 9, 10, 11, 12, 13, 14, 15, 16, 17, 18, 19, 20, 21, 61, 62, 63, 64, 65, 66, 67, 68, 69, 70, 71, 72, 73] rfl (by decide +kernel)
set_option maxRecDepth 20000 in
theorem gX2_squareDenominator_X2_isCombination : GoodIn wsX2_squareDenominator (wsV RX2 97 RX2 yX2_isCombination wsX2_isCombination) := goodIn_app (goodIn_of _ (by decide +kernel)) ggX2_squareDenominator_X2_isCombination
set_option maxRecDepth 20000 in
theorem ggX2_squareDenominator_X0_startPair : GoodIn wsX2_squareDenominator wsX0_startPair := goodIn_r _ [25, 26, 10, 27, 28, 29, 30, 13, 14, 15, 16, 17, 31, 32, 33, 23, 34, 35, 36, 37, 38, 39, 7, 40, 68, 69, 70, 71, 72, 73, 74, 75, 76, 77, 78] rfl (by decide +kernel)
set_option maxRecDepth 20000 in
theorem gX2_squareDenominator_X0_startPair_n103 : GoodIn wsX2_squareDenominator (wsX0_startPair) := ggX2_squareDenominator_X0_startPair
set_option maxRecDepth 20000 in
theorem ggX2_squareDenominator_X1_pairNorm : GoodIn wsX2_squareDenominator wsX1_pairNorm := goodIn_r _ [43, 44, 45, 46, 10, 47, 29, 13, 14, 15, 16, 17, 48, 49, 50, 51, 30, 52, 7, 53, 54, 55, 68, 69, 70, 71, 72, 73] rfl (by decide +kernel)
set_option maxRecDepth 20000 in
theorem gX2_squareDenominator_X1_pairNorm_n107 : GoodIn wsX2_squareDenominator (wsX1_pairNorm) := ggX2_squareDenominator_X1_pairNorm
set_option maxRecDepth 20000 in
theorem ggX2_squareDenominator_X0_denominator : GoodIn wsX2_squareDenominator wsX0_denominator := goodIn_r _ [58, 36, 59, 7, 60, 39, 40, 74, 75, 76, 77, 78] rfl (by decide +kernel)
set_option maxRecDepth 20000 in
theorem gX2_squareDenominator_X0_denominator_n114 : GoodIn wsX2_squareDenominator (wsX0_denominator) := ggX2_squareDenominator_X0_denominator
set_option maxRecDepth 20000 in
theorem ggX2_kind_X2_isCombination : GoodIn wsX2_kind wsX2_isCombination := goodIn_r _ [7, 2, 8, 9, 10, 11, 12, 13, 14, 15, 16, 17, 18, 19, 20, 58, 59, 60, 61, 62, 63, 64, 65, 66, 67, 68, 69, 70] rfl (by decide +kernel)
set_option maxRecDepth 20000 in
theorem gX2_kind_X2_isCombination : GoodIn wsX2_kind (wsV RX2 97 RX2 yX2_isCombination wsX2_isCombination) := goodIn_app (goodIn_of _ (by decide +kernel)) ggX2_kind_X2_isCombination
set_option maxRecDepth 20000 in
theorem ggX2_kind_X0_startPair : GoodIn wsX2_kind wsX0_startPair := goodIn_r _ [24, 25, 9, 26, 27, 28, 29, 12, 13, 14, 15, 16, 30, 31, 32, 22, 33, 34, 35, 36, 37, 38, 6, 39, 65, 66, 67, 68, 69, 70, 71, 72, 73, 74, 75] rfl (by decide +kernel)
set_option maxRecDepth 20000 in
theorem gX2_kind_X0_startPair_n103 : GoodIn wsX2_kind (wsX0_startPair) := ggX2_kind_X0_startPair
set_option maxRecDepth 20000 in
theorem ggX2_kind_X1_pairNorm : GoodIn wsX2_kind wsX1_pairNorm := goodIn_r _ [42, 43, 44, 45, 9, 46, 28, 12, 13, 14, 15, 16, 47, 48, 49, 50, 29, 51, 6, 52, 53, 54, 65, 66, 67, 68, 69, 70] rfl (by decide +kernel)
set_option maxRecDepth 20000 in
theorem gX2_kind_X1_pairNorm_n107 : GoodIn wsX2_kind (wsX1_pairNorm) := ggX2_kind_X1_pairNorm
set_option maxRecDepth 20000 in
theorem ggX2_kind_X0_kindOf : GoodIn wsX2_kind wsX0_kindOf := goodIn_r _ [57, 36, 37, 71, 72, 73, 74, 75] rfl (by decide +kernel)
set_option maxRecDepth 20000 in
theorem gX2_kind_X0_kindOf_n117 : GoodIn wsX2_kind (wsX0_kindOf) := ggX2_kind_X0_kindOf
set_option maxRecDepth 20000 in
theorem ggX2_beatCount_X1_hasPair : GoodIn wsX2_beatCount wsX1_hasPair := goodIn_r _ [6, 7, 8, 9, 4, 10, 11, 68, 69, 70, 71, 72, 73] rfl (by decide +kernel)
set_option maxRecDepth 20000 in
theorem gX2_beatCount_X1_hasPair_n120 : GoodIn wsX2_beatCount (wsX1_hasPair) := ggX2_beatCount_X1_hasPair
set_option maxRecDepth 20000 in
theorem ggX2_beatCount_X0_fillPair : GoodIn wsX2_beatCount wsX0_fillPair := goodIn_r _ [15, 16, 17, 18, 13, 19, 20, 4, 21, 22, 23, 24, 7, 8, 9, 10, 11, 25, 26, 27, 28, 29, 30, 31, 32, 33, 34, 35, 36, 37, 38, 39, 40, 41, 42, 43, 44, 45, 46, 47, 48, 49, 50, 51, 52, 53, 54, 68, 69, 70, 71, 72, 73, 74, 75, 76, 77, 78] rfl (by decide +kernel)
set_option maxRecDepth 20000 in
theorem gX2_beatCount_X0_fillPair_n123 : GoodIn wsX2_beatCount (wsX0_fillPair) := ggX2_beatCount_X0_fillPair
set_option maxRecDepth 20000 in
theorem ggX2_beatCount_X0_sort : GoodIn wsX2_beatCount wsX0_sort := goodIn_r _ [57, 29, 54, 74, 75, 76, 77, 78] rfl (by decide +kernel)
set_option maxRecDepth 20000 in
theorem gX2_beatCount_X0_sort_n126 : GoodIn wsX2_beatCount (wsX0_sort) := ggX2_beatCount_X0_sort
set_option maxRecDepth 20000 in
theorem ggX2_beatCount_X0_differentNorms : GoodIn wsX2_beatCount wsX0_differentNorms := goodIn_r _ [60, 29, 54, 74, 75, 76, 77, 78] rfl (by decide +kernel)
set_option maxRecDepth 20000 in
theorem gX2_beatCount_X0_differentNorms_n129 : GoodIn wsX2_beatCount (wsX0_differentNorms) := ggX2_beatCount_X0_differentNorms
set_option maxRecDepth 20000 in
theorem ggX2_beatNumerator_X2_normOfRank : GoodIn wsX2_beatNumerator wsX2_normOfRank := goodIn_r _ [6, 7, 1, 8, 9, 10, 11, 12, 13, 14, 15, 16, 17, 18, 19, 20, 21, 22, 23, 24, 25, 26, 27, 28, 29, 30, 31, 32, 33, 34, 35, 36, 37, 38, 5, 39, 40, 41, 42, 43, 44, 45, 46, 47, 48, 49, 50, 51, 52, 53, 54, 55, 56, 57, 58, 59, 60, 61, 62, 63, 64, 70, 71, 72, 73, 74, 75, 76, 77, 78, 79, 80, 81, 82, 83, 84, 85, 86, 87] rfl (by decide +kernel)
set_option maxRecDepth 20000 in
theorem gX2_beatNumerator_X2_normOfRank : GoodIn wsX2_beatNumerator (wsV RX2 133 RX2 yX2_normOfRank wsX2_normOfRank) := goodIn_app (goodIn_of _ (by decide +kernel)) ggX2_beatNumerator_X2_normOfRank
set_option maxRecDepth 20000 in
theorem ggX2_beatNumerator_X0_numerator : GoodIn wsX2_beatNumerator wsX0_numerator := goodIn_r _ [67, 35, 68, 5, 69, 38, 39, 83, 84, 85, 86, 87] rfl (by decide +kernel)
set_option maxRecDepth 20000 in
theorem gX2_beatNumerator_X0_numerator_n111 : GoodIn wsX2_beatNumerator (wsX0_numerator) := ggX2_beatNumerator_X0_numerator
set_option maxRecDepth 20000 in
theorem ggX2_beatDenominator_X2_normOfRank : GoodIn wsX2_beatDenominator wsX2_normOfRank := goodIn_r _ [6, 7, 1, 8, 9, 10, 11, 12, 13, 14, 15, 16, 17, 18, 19, 20, 21, 22, 23, 24, 25, 26, 27, 28, 29, 30, 31, 32, 33, 34, 35, 36, 37, 38, 5, 39, 40, 41, 42, 43, 44, 45, 46, 47, 48, 49, 50, 51, 52, 53, 54, 55, 56, 57, 58, 59, 60, 61, 62, 63, 64, 70, 71, 72, 73, 74, 75, 76, 77, 78, 79, 80, 81, 82, 83, 84, 85, 86, 87] rfl (by decide +kernel)
set_option maxRecDepth 20000 in
theorem gX2_beatDenominator_X2_normOfRank : GoodIn wsX2_beatDenominator (wsV RX2 133 RX2 yX2_normOfRank wsX2_normOfRank) := goodIn_app (goodIn_of _ (by decide +kernel)) ggX2_beatDenominator_X2_normOfRank
set_option maxRecDepth 20000 in
theorem ggX2_beatDenominator_X0_denominator : GoodIn wsX2_beatDenominator wsX0_denominator := goodIn_r _ [67, 35, 68, 5, 69, 38, 39, 83, 84, 85, 86, 87] rfl (by decide +kernel)
set_option maxRecDepth 20000 in
theorem gX2_beatDenominator_X0_denominator_n114 : GoodIn wsX2_beatDenominator (wsX0_denominator) := ggX2_beatDenominator_X0_denominator
set_option maxRecDepth 20000 in
theorem ggX2_beatFrequency_X2_normOfRank : GoodIn wsX2_beatFrequency wsX2_normOfRank := goodIn_r _ [6, 7, 1, 8, 9, 10, 11, 12, 13, 14, 15, 16, 17, 18, 19, 20, 21, 22, 23, 24, 25, 26, 27, 28, 29, 30, 31, 32, 33, 34, 35, 36, 37, 38, 5, 39, 40, 41, 42, 43, 44, 45, 46, 47, 48, 49, 50, 51, 52, 53, 54, 55, 56, 57, 58, 59, 60, 61, 62, 63, 64, 68, 69, 70, 71, 72, 73, 74, 75, 76, 77, 78, 79, 80, 81, 82, 83, 84, 85] rfl (by decide +kernel)
set_option maxRecDepth 20000 in
theorem gX2_beatFrequency_X2_normOfRank : GoodIn wsX2_beatFrequency (wsV RX2 133 RX2 yX2_normOfRank wsX2_normOfRank) := goodIn_app (goodIn_of _ (by decide +kernel)) ggX2_beatFrequency_X2_normOfRank
set_option maxRecDepth 20000 in
theorem ggX2_beatFrequency_X0_combinationsWith : GoodIn wsX2_beatFrequency wsX0_combinationsWith := goodIn_r _ [67, 34, 58, 81, 82, 83, 84, 85] rfl (by decide +kernel)
set_option maxRecDepth 20000 in
theorem gX2_beatFrequency_X0_combinationsWith_n137 : GoodIn wsX2_beatFrequency (wsX0_combinationsWith) := ggX2_beatFrequency_X0_combinationsWith
set_option maxRecDepth 20000 in
theorem ggX2_beatPeriod_X2_normOfRank : GoodIn wsX2_beatPeriod wsX2_normOfRank := goodIn_r _ [6, 7, 1, 8, 9, 10, 11, 12, 13, 14, 15, 16, 17, 18, 19, 20, 21, 22, 23, 24, 25, 26, 27, 28, 29, 30, 31, 32, 33, 34, 35, 36, 37, 38, 5, 39, 40, 41, 42, 43, 44, 45, 46, 47, 48, 49, 50, 51, 52, 53, 54, 55, 56, 57, 58, 59, 60, 61, 62, 63, 64, 70, 71, 72, 73, 74, 75, 76, 77, 78, 79, 80, 81, 82, 83, 84, 85, 86, 87] rfl (by decide +kernel)
set_option maxRecDepth 20000 in
theorem gX2_beatPeriod_X2_normOfRank : GoodIn wsX2_beatPeriod (wsV RX2 133 RX2 yX2_normOfRank wsX2_normOfRank) := goodIn_app (goodIn_of _ (by decide +kernel)) ggX2_beatPeriod_X2_normOfRank
set_option maxRecDepth 20000 in
theorem ggX2_beatPeriod_X0_period : GoodIn wsX2_beatPeriod wsX0_period := goodIn_r _ [67, 35, 38, 5, 39, 68, 69, 83, 84, 85, 86, 87] rfl (by decide +kernel)
set_option maxRecDepth 20000 in
theorem gX2_beatPeriod_X0_period_n140 : GoodIn wsX2_beatPeriod (wsX0_period) := ggX2_beatPeriod_X0_period
set_option maxRecDepth 20000 in
theorem ggX2_locked_X1_hasPair : GoodIn wsX2_locked wsX1_hasPair := goodIn_r _ [6, 7, 8, 9, 4, 10, 11, 65, 66, 67, 68, 69, 70] rfl (by decide +kernel)
set_option maxRecDepth 20000 in
theorem gX2_locked_X1_hasPair_n120 : GoodIn wsX2_locked (wsX1_hasPair) := ggX2_locked_X1_hasPair
set_option maxRecDepth 20000 in
theorem ggX2_locked_X0_fillPair : GoodIn wsX2_locked wsX0_fillPair := goodIn_r _ [15, 16, 17, 18, 13, 19, 20, 4, 21, 22, 23, 24, 7, 8, 9, 10, 11, 25, 26, 27, 28, 29, 30, 31, 32, 33, 34, 35, 36, 37, 38, 39, 40, 41, 42, 43, 44, 45, 46, 47, 48, 49, 50, 51, 52, 53, 54, 65, 66, 67, 68, 69, 70, 71, 72, 73, 74, 75] rfl (by decide +kernel)
set_option maxRecDepth 20000 in
theorem gX2_locked_X0_fillPair_n123 : GoodIn wsX2_locked (wsX0_fillPair) := ggX2_locked_X0_fillPair
set_option maxRecDepth 20000 in
theorem ggX2_locked_X0_combinationsWith : GoodIn wsX2_locked wsX0_combinationsWith := goodIn_r _ [57, 29, 54, 71, 72, 73, 74, 75] rfl (by decide +kernel)
set_option maxRecDepth 20000 in
theorem gX2_locked_X0_combinationsWith_n137 : GoodIn wsX2_locked (wsX0_combinationsWith) := ggX2_locked_X0_combinationsWith
set_option maxRecDepth 20000 in
theorem ggX2_bands_X1_hasPair : GoodIn wsX2_bands wsX1_hasPair := goodIn_r _ [5, 6, 7, 8, 3, 9, 10, 73, 74, 75, 76, 77, 78] rfl (by decide +kernel)
set_option maxRecDepth 20000 in
theorem gX2_bands_X1_hasPair_n120 : GoodIn wsX2_bands (wsX1_hasPair) := ggX2_bands_X1_hasPair
set_option maxRecDepth 20000 in
theorem ggX2_bands_X2_pairBands : GoodIn wsX2_bands wsX2_pairBands := goodIn_r _ [15, 16, 1, 17, 18, 19, 20, 21, 22, 23, 24, 25, 3, 26, 27, 28, 29, 6, 7, 8, 9, 10, 30, 31, 32, 33, 34, 35, 36, 37, 38, 14, 39, 40, 41, 42, 43, 44, 45, 46, 47, 48, 49, 50, 51, 52, 53, 54, 55, 56, 57, 58, 59, 60, 61, 62, 63, 64, 65, 66, 67, 68, 69, 70, 71, 72, 73, 74, 75, 76, 77, 78, 79, 80, 81, 82, 83] rfl (by decide +kernel)
set_option maxRecDepth 20000 in
theorem gX2_bands_X2_pairBands : GoodIn wsX2_bands (wsV RX2 143 RX2 yX2_pairBands wsX2_pairBands) := goodIn_app (goodIn_of _ (by decide +kernel)) ggX2_bands_X2_pairBands
set_option maxRecDepth 20000 in
theorem ggX2_isCombination_X1_hasPair : GoodIn wsX2_isCombination wsX1_hasPair := goodIn_r _ [5, 6, 7, 8, 3, 9, 10, 22, 23, 24, 25, 26, 27] rfl (by decide +kernel)
set_option maxRecDepth 20000 in
theorem gX2_isCombination_X1_hasPair_n120 : GoodIn wsX2_isCombination (wsX1_hasPair) := ggX2_isCombination_X1_hasPair
set_option maxRecDepth 20000 in
theorem ggX2_isCombination_X1_isFactorPair : GoodIn wsX2_isCombination wsX1_isFactorPair := goodIn_r _ [13, 14, 22, 23, 24, 25, 26, 27] rfl (by decide +kernel)
set_option maxRecDepth 20000 in
theorem gX2_isCombination_X1_isFactorPair_n147 : GoodIn wsX2_isCombination (wsX1_isFactorPair) := ggX2_isCombination_X1_isFactorPair
set_option maxRecDepth 20000 in
theorem ggX2_normOfRank_X1_hasPair : GoodIn wsX2_normOfRank wsX1_hasPair := goodIn_r _ [6, 7, 8, 9, 4, 10, 11, 68, 69, 70, 71, 72, 73] rfl (by decide +kernel)
set_option maxRecDepth 20000 in
theorem gX2_normOfRank_X1_hasPair_n120 : GoodIn wsX2_normOfRank (wsX1_hasPair) := ggX2_normOfRank_X1_hasPair
set_option maxRecDepth 20000 in
theorem ggX2_normOfRank_X0_fillPair : GoodIn wsX2_normOfRank wsX0_fillPair := goodIn_r _ [15, 16, 17, 18, 13, 19, 20, 4, 21, 22, 23, 24, 7, 8, 9, 10, 11, 25, 26, 27, 28, 29, 30, 31, 32, 33, 34, 35, 36, 37, 38, 39, 40, 41, 42, 43, 44, 45, 46, 47, 48, 49, 50, 51, 52, 53, 54, 68, 69, 70, 71, 72, 73, 74, 75, 76, 77, 78] rfl (by decide +kernel)
set_option maxRecDepth 20000 in
theorem gX2_normOfRank_X0_fillPair_n123 : GoodIn wsX2_normOfRank (wsX0_fillPair) := ggX2_normOfRank_X0_fillPair
set_option maxRecDepth 20000 in
theorem ggX2_normOfRank_X0_sort : GoodIn wsX2_normOfRank wsX0_sort := goodIn_r _ [57, 29, 54, 74, 75, 76, 77, 78] rfl (by decide +kernel)
set_option maxRecDepth 20000 in
theorem gX2_normOfRank_X0_sort_n126 : GoodIn wsX2_normOfRank (wsX0_sort) := ggX2_normOfRank_X0_sort
set_option maxRecDepth 20000 in
theorem ggX2_normOfRank_X0_normAt : GoodIn wsX2_normOfRank wsX0_normAt := goodIn_r _ [60, 29, 54, 74, 75, 76, 77, 78] rfl (by decide +kernel)
set_option maxRecDepth 20000 in
theorem gX2_normOfRank_X0_normAt_n150 : GoodIn wsX2_normOfRank (wsX0_normAt) := ggX2_normOfRank_X0_normAt
set_option maxRecDepth 20000 in
theorem ggX2_pairBands_X0_fillPair : GoodIn wsX2_pairBands wsX0_fillPair := goodIn_r _ [6, 7, 8, 9, 4, 10, 11, 12, 13, 14, 15, 16, 17, 18, 19, 20, 21, 22, 23, 24, 25, 26, 27, 28, 29, 30, 31, 32, 33, 34, 35, 36, 37, 38, 39, 40, 41, 42, 43, 44, 45, 46, 47, 48, 49, 50, 51, 66, 67, 68, 69, 70, 71, 72, 73, 74, 75, 76] rfl (by decide +kernel)
set_option maxRecDepth 20000 in
theorem gX2_pairBands_X0_fillPair_n123 : GoodIn wsX2_pairBands (wsX0_fillPair) := ggX2_pairBands_X0_fillPair
set_option maxRecDepth 20000 in
theorem ggX2_pairBands_X0_bandCount : GoodIn wsX2_pairBands wsX0_bandCount := goodIn_r _ [54, 26, 51, 55, 56, 57, 4, 58, 28, 29, 72, 73, 74, 75, 76] rfl (by decide +kernel)
set_option maxRecDepth 20000 in
theorem gX2_pairBands_X0_bandCount_n153 : GoodIn wsX2_pairBands (wsX0_bandCount) := ggX2_pairBands_X0_bandCount
set_option maxRecDepth 20000 in
theorem ggX2_tripleBands_X1_hasPair : GoodIn wsX2_tripleBands wsX1_hasPair := goodIn_r _ [6, 7, 8, 9, 4, 10, 11, 63, 64, 65, 66, 67, 68] rfl (by decide +kernel)
set_option maxRecDepth 20000 in
theorem gX2_tripleBands_X1_hasPair_n120 : GoodIn wsX2_tripleBands (wsX1_hasPair) := ggX2_tripleBands_X1_hasPair
set_option maxRecDepth 20000 in
theorem ggX2_tripleBands_X0_fillTriple : GoodIn wsX2_tripleBands wsX0_fillTriple := goodIn_r _ [15, 16, 4, 17, 18, 19, 20, 7, 8, 9, 10, 11, 21, 22, 23, 13, 24, 25, 26, 27, 28, 29, 30, 31, 32, 33, 34, 35, 36, 37, 38, 39, 40, 41, 42, 43, 44, 45, 46, 47, 48, 63, 64, 65, 66, 67, 68, 69, 70, 71, 72, 73] rfl (by decide +kernel)
set_option maxRecDepth 20000 in
theorem gX2_tripleBands_X0_fillTriple_n156 : GoodIn wsX2_tripleBands (wsX0_fillTriple) := ggX2_tripleBands_X0_fillTriple
set_option maxRecDepth 20000 in
theorem ggX2_tripleBands_X0_bandCount : GoodIn wsX2_tripleBands wsX0_bandCount := goodIn_r _ [51, 25, 48, 52, 53, 54, 13, 55, 27, 28, 69, 70, 71, 72, 73] rfl (by decide +kernel)
set_option maxRecDepth 20000 in
theorem gX2_tripleBands_X0_bandCount_n153 : GoodIn wsX2_tripleBands (wsX0_bandCount) := ggX2_tripleBands_X0_bandCount
set_option maxRecDepth 20000 in
theorem ggX2_allBands_X2_bandsOfGroups : GoodIn wsX2_allBands wsX2_bandsOfGroups := goodIn_r _ [6, 7, 8, 9, 10, 11, 12, 13, 14, 15, 16, 17, 18, 19, 20, 21, 22, 23, 24, 25, 26, 27, 28, 29, 30, 31, 32, 33, 34, 35, 36, 37, 38, 39, 40, 41, 42, 5, 43, 44, 45, 46, 47, 48, 49, 50, 51, 52, 53, 54, 55, 56, 57, 58, 59, 60, 61, 62, 63, 64, 65, 66, 67, 68, 69, 70, 71, 72, 73, 74, 75, 76, 77, 78, 79, 80, 81, 82, 83, 84, 85, 86, 87, 88, 89, 90, 91, 92, 93, 94, 95, 96, 97, 98, 99, 100, 101] rfl (by decide +kernel)
set_option maxRecDepth 20000 in
theorem gX2_allBands_X2_bandsOfGroups : GoodIn wsX2_allBands (wsV RX2 160 RX2 yX2_bandsOfGroups wsX2_bandsOfGroups) := goodIn_app (goodIn_of _ (by decide +kernel)) ggX2_allBands_X2_bandsOfGroups
set_option maxRecDepth 20000 in
theorem ggX2_worstPlates_X2_worstPeriodOf : GoodIn wsX2_worstPlates wsX2_worstPeriodOf := goodIn_r _ [6, 7, 8, 9, 10, 11, 12, 13, 14, 15, 16, 17, 18, 19, 20, 21, 22, 23, 24, 25, 26, 27, 28, 29, 30, 31, 32, 33, 34, 35, 36, 37, 38, 39, 40, 41, 42, 5, 43, 44, 45, 46, 47, 48, 49, 50, 51, 52, 53, 54, 55, 56, 57, 58, 59, 60, 61, 62, 63, 64, 65, 66, 67, 68, 69, 70, 71, 72, 73, 74, 75, 76, 77, 78, 79, 80, 81, 82, 83, 84, 85, 86, 87, 88, 89, 90, 91, 92, 93, 94, 95, 96, 97, 98, 99, 100, 101, 102, 103, 104, 105, 106, 107] rfl (by decide +kernel)
set_option maxRecDepth 20000 in
theorem gX2_worstPlates_X2_worstPeriodOf : GoodIn wsX2_worstPlates (wsV RX2 168 RX2 yX2_worstPeriodOf wsX2_worstPeriodOf) := goodIn_app (goodIn_of _ (by decide +kernel)) ggX2_worstPlates_X2_worstPeriodOf
set_option maxRecDepth 20000 in
theorem ggX2_worstPeriod_X2_worstPlates : GoodIn wsX2_worstPeriod wsX2_worstPlates := goodIn_r _ [5, 6, 7, 8, 9, 4, 10, 11, 12, 13, 14, 15, 16, 17, 18, 19, 20, 21, 22, 23, 24, 25, 26, 27, 28, 29, 30, 31, 32, 33, 34, 35, 36, 37, 38, 39, 40, 41, 42, 43, 44, 45, 46, 47, 48, 49, 50, 51, 52, 53, 54, 55, 56, 57, 58, 59, 60, 61, 62, 63, 64, 65, 66, 67, 68, 69, 70, 71, 72, 73, 74, 75, 76, 77, 78, 79, 80, 81, 82, 83, 84, 85, 86, 87, 88, 89, 90, 91, 92, 93, 94, 95, 96, 97, 98, 99, 100, 101, 102, 103, 104, 105, 106, 107, 108, 109, 110, 111] rfl (by decide +kernel)
set_option maxRecDepth 20000 in
theorem gX2_worstPeriod_X2_worstPlates : GoodIn wsX2_worstPeriod (wsV RX2 171 RX2 yX2_worstPlates wsX2_worstPlates) := goodIn_app (goodIn_of _ (by decide +kernel)) ggX2_worstPeriod_X2_worstPlates
set_option maxRecDepth 20000 in
theorem ggX2_worstPeriod_X2_worstPeriodOf : GoodIn wsX2_worstPeriod wsX2_worstPeriodOf := goodIn_r _ [10, 11, 12, 13, 14, 15, 16, 17, 18, 19, 20, 21, 22, 23, 24, 25, 26, 27, 28, 29, 30, 31, 32, 33, 34, 35, 36, 37, 38, 39, 40, 41, 42, 43, 44, 45, 46, 4, 47, 48, 49, 50, 51, 52, 53, 54, 55, 56, 57, 58, 59, 60, 61, 62, 63, 64, 65, 66, 67, 68, 69, 70, 71, 72, 73, 74, 75, 76, 77, 78, 79, 80, 81, 82, 83, 84, 85, 86, 87, 88, 89, 90, 91, 92, 93, 94, 95, 96, 97, 98, 99, 100, 101, 102, 103, 104, 105, 106, 107, 108, 109, 110, 111] rfl (by decide +kernel)
set_option maxRecDepth 20000 in
theorem gX2_worstPeriod_X2_worstPeriodOf : GoodIn wsX2_worstPeriod (wsV RX2 168 RX2 yX2_worstPeriodOf wsX2_worstPeriodOf) := goodIn_app (goodIn_of _ (by decide +kernel)) ggX2_worstPeriod_X2_worstPeriodOf
set_option maxRecDepth 20000 in
theorem ggX2_worstPair_X2_pairBands : GoodIn wsX2_worstPair wsX2_pairBands := goodIn_r _ [6, 7, 1, 8, 9, 10, 11, 12, 13, 14, 15, 16, 17, 18, 19, 20, 21, 22, 23, 24, 25, 26, 27, 28, 29, 30, 31, 32, 33, 34, 35, 5, 36, 37, 38, 39, 40, 41, 42, 43, 44, 45, 46, 47, 48, 49, 50, 51, 52, 53, 54, 55, 56, 57, 58, 59, 60, 61, 62, 63, 64, 65, 66, 67, 68, 69, 70, 71, 72, 73, 74, 75, 76, 77, 78, 79, 80] rfl (by decide +kernel)
set_option maxRecDepth 20000 in
theorem gX2_worstPair_X2_pairBands : GoodIn wsX2_worstPair (wsV RX2 143 RX2 yX2_pairBands wsX2_pairBands) := goodIn_app (goodIn_of _ (by decide +kernel)) ggX2_worstPair_X2_pairBands
set_option maxRecDepth 20000 in
theorem ggX2_worstPeriodOf_X1_hasAll : GoodIn wsX2_worstPeriodOf wsX1_hasAll := goodIn_r _ [6, 7, 92, 93, 94, 95, 96, 97] rfl (by decide +kernel)
set_option maxRecDepth 20000 in
theorem gX2_worstPeriodOf_X1_hasAll_n174 : GoodIn wsX2_worstPeriodOf (wsX1_hasAll) := ggX2_worstPeriodOf_X1_hasAll
set_option maxRecDepth 20000 in
theorem ggX2_worstPeriodOf_X0_fillPlates : GoodIn wsX2_worstPeriodOf wsX0_fillPlates := goodIn_r _ [11, 12, 13, 9, 14, 15, 16, 17, 18, 19, 4, 20, 21, 22, 23, 24, 25, 26, 27, 7, 28, 29, 30, 31, 32, 33, 34, 35, 36, 37, 38, 39, 40, 41, 42, 43, 44, 45, 46, 47, 48, 49, 50, 51, 52, 53, 54, 55, 56, 57, 58, 59, 60, 61, 62, 63, 64, 65, 66, 67, 68, 69, 70, 71, 92, 93, 94, 95, 96, 97, 98, 99, 100, 101, 102] rfl (by decide +kernel)
set_option maxRecDepth 20000 in
theorem gX2_worstPeriodOf_X0_fillPlates_n177 : GoodIn wsX2_worstPeriodOf (wsX0_fillPlates) := ggX2_worstPeriodOf_X0_fillPlates
set_option maxRecDepth 20000 in
theorem ggX2_worstPeriodOf_X0_worstPeriodFound : GoodIn wsX2_worstPeriodOf wsX0_worstPeriodFound := goodIn_r _ [74, 32, 55, 75, 76, 77, 9, 78, 34, 35, 79, 80, 81, 82, 33, 36, 37, 38, 83, 84, 98, 99, 100, 101, 102] rfl (by decide +kernel)
set_option maxRecDepth 20000 in
theorem gX2_worstPeriodOf_X0_worstPeriodFound_n181 : GoodIn wsX2_worstPeriodOf (wsX0_worstPeriodFound) := ggX2_worstPeriodOf_X0_worstPeriodFound
set_option maxRecDepth 20000 in
theorem ggX2_bandsOfGroups_X1_hasAll : GoodIn wsX2_bandsOfGroups wsX1_hasAll := goodIn_r _ [6, 7, 86, 87, 88, 89, 90, 91] rfl (by decide +kernel)
set_option maxRecDepth 20000 in
theorem gX2_bandsOfGroups_X1_hasAll_n174 : GoodIn wsX2_bandsOfGroups (wsX1_hasAll) := ggX2_bandsOfGroups_X1_hasAll
set_option maxRecDepth 20000 in
theorem ggX2_bandsOfGroups_X0_fillPlates : GoodIn wsX2_bandsOfGroups wsX0_fillPlates := goodIn_r _ [11, 12, 13, 9, 14, 15, 16, 17, 18, 19, 4, 20, 21, 22, 23, 24, 25, 26, 27, 7, 28, 29, 30, 31, 32, 33, 34, 35, 36, 37, 38, 39, 40, 41, 42, 43, 44, 45, 46, 47, 48, 49, 50, 51, 52, 53, 54, 55, 56, 57, 58, 59, 60, 61, 62, 63, 64, 65, 66, 67, 68, 69, 70, 71, 86, 87, 88, 89, 90, 91, 92, 93, 94, 95, 96] rfl (by decide +kernel)
set_option maxRecDepth 20000 in
theorem gX2_bandsOfGroups_X0_fillPlates_n177 : GoodIn wsX2_bandsOfGroups (wsX0_fillPlates) := ggX2_bandsOfGroups_X0_fillPlates
set_option maxRecDepth 20000 in
theorem ggX2_bandsOfGroups_X0_bandCount : GoodIn wsX2_bandsOfGroups wsX0_bandCount := goodIn_r _ [74, 32, 55, 75, 76, 77, 9, 78, 34, 35, 92, 93, 94, 95, 96] rfl (by decide +kernel)
set_option maxRecDepth 20000 in
theorem gX2_bandsOfGroups_X0_bandCount_n153 : GoodIn wsX2_bandsOfGroups (wsX0_bandCount) := ggX2_bandsOfGroups_X0_bandCount
set_option maxRecDepth 20000 in
theorem ggX2_bestScreen_X1_has : GoodIn wsX2_bestScreen wsX1_has := goodIn_r _ [5, 6, 109, 110, 111, 112, 113, 114] rfl (by decide +kernel)
set_option maxRecDepth 20000 in
theorem gX2_bestScreen_X1_has_n52 : GoodIn wsX2_bestScreen (wsX1_has) := ggX2_bestScreen_X1_has
set_option maxRecDepth 20000 in
theorem ggX2_bestScreen_X2_isRange : GoodIn wsX2_bestScreen wsX2_isRange := goodIn_r _ [10] rfl (by decide +kernel)
set_option maxRecDepth 20000 in
theorem gX2_bestScreen_X2_isRange : GoodIn wsX2_bestScreen (va_wsS RX2 184 yX2_isRange wsX2_isRange) := goodIn_app (goodIn_of _ (by decide +kernel)) ggX2_bestScreen_X2_isRange
set_option maxRecDepth 20000 in
theorem ggX2_bestScreen_X2_search : GoodIn wsX2_bestScreen wsX2_search := goodIn_r _ [14, 1, 15, 16, 17, 18, 19, 20, 21, 9, 22, 23, 3, 24, 25, 26, 27, 28, 2, 4, 5, 6, 29, 30, 31, 32, 33, 34, 35, 36, 37, 38, 39, 40, 41, 42, 43, 44, 45, 46, 47, 48, 49, 50, 51, 52, 53, 54, 55, 56, 57, 58, 59, 60, 61, 62, 63, 64, 65, 66, 67, 68, 69, 70, 71, 72, 73, 74, 75, 76, 77, 78, 79, 80, 81, 82, 83, 84, 85, 86, 87, 88, 89, 90, 91, 92, 93, 94, 95, 96, 97, 98, 99, 100, 101, 102, 103, 104, 105, 106, 107, 108, 109, 110, 111, 112, 113, 114, 115, 116, 117, 118, 119] rfl (by decide +kernel)
set_option maxRecDepth 20000 in
theorem gX2_bestScreen_X2_search : GoodIn wsX2_bestScreen (wsV RX2 187 RX2 yX2_search wsX2_search) := goodIn_app (goodIn_of _ (by decide +kernel)) ggX2_bestScreen_X2_search
set_option maxRecDepth 20000 in
theorem ggX2_bandsWithBest_X1_has : GoodIn wsX2_bandsWithBest wsX1_has := goodIn_r _ [6, 7, 109, 110, 111, 112, 113, 114] rfl (by decide +kernel)
set_option maxRecDepth 20000 in
theorem gX2_bandsWithBest_X1_has_n52 : GoodIn wsX2_bandsWithBest (wsX1_has) := ggX2_bandsWithBest_X1_has
set_option maxRecDepth 20000 in
theorem ggX2_bandsWithBest_X2_isRange : GoodIn wsX2_bandsWithBest wsX2_isRange := goodIn_r _ [11] rfl (by decide +kernel)
set_option maxRecDepth 20000 in
theorem gX2_bandsWithBest_X2_isRange : GoodIn wsX2_bandsWithBest (va_wsS RX2 184 yX2_isRange wsX2_isRange) := goodIn_app (goodIn_of _ (by decide +kernel)) ggX2_bandsWithBest_X2_isRange
set_option maxRecDepth 20000 in
theorem ggX2_bandsWithBest_X2_search : GoodIn wsX2_bandsWithBest wsX2_search := goodIn_r _ [15, 1, 2, 16, 17, 18, 19, 20, 21, 10, 22, 23, 4, 24, 25, 26, 27, 28, 3, 5, 6, 7, 29, 30, 31, 32, 33, 34, 35, 36, 37, 38, 39, 40, 41, 42, 43, 44, 45, 46, 47, 48, 49, 50, 51, 52, 53, 54, 55, 56, 57, 58, 59, 60, 61, 62, 63, 64, 65, 66, 67, 68, 69, 70, 71, 72, 73, 74, 75, 76, 77, 78, 79, 80, 81, 82, 83, 84, 85, 86, 87, 88, 89, 90, 91, 92, 93, 94, 95, 96, 97, 98, 99, 100, 101, 102, 103, 104, 105, 106, 107, 108, 109, 110, 111, 112, 113, 114, 115, 116, 117, 118, 119] rfl (by decide +kernel)
set_option maxRecDepth 20000 in
theorem gX2_bandsWithBest_X2_search : GoodIn wsX2_bandsWithBest (wsV RX2 187 RX2 yX2_search wsX2_search) := goodIn_app (goodIn_of _ (by decide +kernel)) ggX2_bandsWithBest_X2_search
set_option maxRecDepth 20000 in
theorem ggX2_bandsWithBest_X2_copy : GoodIn wsX2_bandsWithBest wsX2_copy := goodIn_r _ [22, 109, 110, 111, 112, 113, 114] rfl (by decide +kernel)
set_option maxRecDepth 20000 in
theorem gX2_bandsWithBest_X2_copy : GoodIn wsX2_bandsWithBest (va_wsS RX2 190 yX2_copy wsX2_copy) := goodIn_app (goodIn_of _ (by decide +kernel)) ggX2_bandsWithBest_X2_copy
set_option maxRecDepth 20000 in
theorem ggX2_bandsWithBest_X1_put : GoodIn wsX2_bandsWithBest wsX1_put := goodIn_r _ [25, 26, 27, 28, 3, 5, 4, 6, 7, 109, 110, 111, 112, 113, 114] rfl (by decide +kernel)
set_option maxRecDepth 20000 in
theorem gX2_bandsWithBest_X1_put_n60 : GoodIn wsX2_bandsWithBest (wsX1_put) := ggX2_bandsWithBest_X1_put
set_option maxRecDepth 20000 in
theorem ggX2_bandsWithBest_X2_bandsOfGroups : GoodIn wsX2_bandsWithBest wsX2_bandsOfGroups := goodIn_r _ [32, 33, 34, 35, 4, 36, 37, 7, 38, 39, 40, 41, 42, 43, 44, 45, 46, 47, 48, 49, 50, 51, 26, 27, 28, 3, 5, 6, 52, 53, 54, 55, 56, 57, 58, 59, 60, 10, 61, 62, 63, 64, 65, 66, 67, 68, 69, 70, 71, 72, 73, 74, 75, 76, 77, 78, 79, 80, 81, 82, 83, 84, 85, 86, 87, 88, 89, 90, 91, 92, 93, 94, 95, 96, 97, 98, 99, 100, 101, 102, 103, 104, 105, 106, 107, 108, 109, 110, 111, 112, 113, 114, 115, 116, 117, 118, 119] rfl (by decide +kernel)
set_option maxRecDepth 20000 in
theorem gX2_bandsWithBest_X2_bandsOfGroups : GoodIn wsX2_bandsWithBest (wsV RX2 160 RX2 yX2_bandsOfGroups wsX2_bandsOfGroups) := goodIn_app (goodIn_of _ (by decide +kernel)) ggX2_bandsWithBest_X2_bandsOfGroups
set_option maxRecDepth 20000 in
theorem ggX2_search_X2_copy : GoodIn wsX2_search wsX2_copy := goodIn_r _ [10, 102, 103, 104, 105, 106, 107] rfl (by decide +kernel)
set_option maxRecDepth 20000 in
theorem gX2_search_X2_copy : GoodIn wsX2_search (va_wsS RX2 190 yX2_copy wsX2_copy) := goodIn_app (goodIn_of _ (by decide +kernel)) ggX2_search_X2_copy
set_option maxRecDepth 20000 in
theorem ggX2_search_X1_put : GoodIn wsX2_search wsX1_put := goodIn_r _ [14, 15, 16, 17, 18, 19, 12, 20, 21, 102, 103, 104, 105, 106, 107] rfl (by decide +kernel)
set_option maxRecDepth 20000 in
theorem gX2_search_X1_put_n60 : GoodIn wsX2_search (wsX1_put) := ggX2_search_X1_put
set_option maxRecDepth 20000 in
theorem ggX2_search_X2_bandsOfGroups : GoodIn wsX2_search wsX2_bandsOfGroups := goodIn_r _ [25, 26, 27, 28, 12, 29, 30, 21, 31, 32, 33, 34, 35, 36, 37, 38, 39, 40, 41, 42, 43, 44, 15, 16, 17, 18, 19, 20, 45, 46, 47, 48, 49, 50, 51, 52, 53, 9, 54, 55, 56, 57, 58, 59, 60, 61, 62, 63, 64, 65, 66, 67, 68, 69, 70, 71, 72, 73, 74, 75, 76, 77, 78, 79, 80, 81, 82, 83, 84, 85, 86, 87, 88, 89, 90, 91, 92, 93, 94, 95, 96, 97, 98, 99, 100, 101, 102, 103, 104, 105, 106, 107, 108, 109, 110, 111, 112] rfl (by decide +kernel)
set_option maxRecDepth 20000 in
theorem gX2_search_X2_bandsOfGroups : GoodIn wsX2_search (wsV RX2 160 RX2 yX2_bandsOfGroups wsX2_bandsOfGroups) := goodIn_app (goodIn_of _ (by decide +kernel)) ggX2_search_X2_bandsOfGroups
set_option maxRecDepth 20000 in
theorem ggX2_search_X1_areaOf : GoodIn wsX2_search wsX1_areaOf := goodIn_r _ [44, 15, 16, 17, 18, 19, 12, 20, 21, 102, 103, 104, 105, 106, 107] rfl (by decide +kernel)
set_option maxRecDepth 20000 in
theorem gX2_search_X1_areaOf_n56 : GoodIn wsX2_search (wsX1_areaOf) := ggX2_search_X1_areaOf
set_option maxRecDepth 20000 in
theorem ggX2_save_X2_isSlot : GoodIn wsX2_save wsX2_isSlot := goodIn_r _ [7] rfl (by decide +kernel)
set_option maxRecDepth 20000 in
theorem gX2_save_X2_isSlot : GoodIn wsX2_save (va_wsS RX2 199 yX2_isSlot wsX2_isSlot) := goodIn_app (goodIn_of _ (by decide +kernel)) ggX2_save_X2_isSlot
set_option maxRecDepth 20000 in
theorem ggX2_save_X2_copy : GoodIn wsX2_save wsX2_copy := goodIn_r _ [10, 18, 19, 20, 21, 22, 23] rfl (by decide +kernel)
set_option maxRecDepth 20000 in
theorem gX2_save_X2_copy : GoodIn wsX2_save (va_wsS RX2 190 yX2_copy wsX2_copy) := goodIn_app (goodIn_of _ (by decide +kernel)) ggX2_save_X2_copy
set_option maxRecDepth 20000 in
theorem ggX2_restore_X2_isSlot : GoodIn wsX2_restore wsX2_isSlot := goodIn_r _ [7] rfl (by decide +kernel)
set_option maxRecDepth 20000 in
theorem gX2_restore_X2_isSlot : GoodIn wsX2_restore (va_wsS RX2 199 yX2_isSlot wsX2_isSlot) := goodIn_app (goodIn_of _ (by decide +kernel)) ggX2_restore_X2_isSlot
set_option maxRecDepth 20000 in
theorem ggX2_restore_X2_record : GoodIn wsX2_restore wsX2_record := goodIn_r _ [11, 12, 3, 13, 14, 15, 16, 6, 17, 18, 19, 20, 21, 22, 23, 24, 25, 26, 27, 28, 29, 30, 31, 32, 33] rfl (by decide +kernel)
set_option maxRecDepth 20000 in
theorem gX2_restore_X2_record : GoodIn wsX2_restore (wsV RX2 45 RX2 yX2_record wsX2_record) := goodIn_app (goodIn_of _ (by decide +kernel)) ggX2_restore_X2_record
set_option maxRecDepth 20000 in
theorem ggX2_restore_X2_copy : GoodIn wsX2_restore wsX2_copy := goodIn_r _ [20, 28, 29, 30, 31, 32, 33] rfl (by decide +kernel)
set_option maxRecDepth 20000 in
theorem gX2_restore_X2_copy : GoodIn wsX2_restore (va_wsS RX2 190 yX2_copy wsX2_copy) := goodIn_app (goodIn_of _ (by decide +kernel)) ggX2_restore_X2_copy
set_option maxRecDepth 20000 in
theorem ggX2_undo_X2_copy : GoodIn wsX2_undo wsX2_copy := goodIn_r _ [7, 15, 16, 17, 18, 19, 20] rfl (by decide +kernel)
set_option maxRecDepth 20000 in
theorem gX2_undo_X2_copy : GoodIn wsX2_undo (va_wsS RX2 190 yX2_copy wsX2_copy) := goodIn_app (goodIn_of _ (by decide +kernel)) ggX2_undo_X2_copy
set_option maxRecDepth 20000 in
theorem ggX2_record_X2_dropOldest : GoodIn wsX2_record wsX2_dropOldest := goodIn_r _ [8, 3, 1, 12, 13, 14, 15, 16, 17, 18] rfl (by decide +kernel)
set_option maxRecDepth 20000 in
theorem gX2_record_X2_dropOldest : GoodIn wsX2_record (wsV RX2 205 RX2 yX2_dropOldest wsX2_dropOldest) := goodIn_app (goodIn_of _ (by decide +kernel)) ggX2_record_X2_dropOldest
set_option maxRecDepth 20000 in
theorem ggX2_record_X2_copy : GoodIn wsX2_record wsX2_copy := goodIn_r _ [11, 19, 20, 21, 22, 23, 24] rfl (by decide +kernel)
set_option maxRecDepth 20000 in
theorem gX2_record_X2_copy : GoodIn wsX2_record (va_wsS RX2 190 yX2_copy wsX2_copy) := goodIn_app (goodIn_of _ (by decide +kernel)) ggX2_record_X2_copy
set_option maxRecDepth 20000 in
theorem ggX3_isPlate_X3_in : GoodIn wsX3_isPlate wsX3_in := goodIn_r _ [5] rfl (by decide +kernel)
set_option maxRecDepth 20000 in
theorem gX3_isPlate_X3_in : GoodIn wsX3_isPlate (va_wsS RX3 27 yX3_in wsX3_in) := goodIn_app (goodIn_of _ (by decide +kernel)) ggX3_isPlate_X3_in
set_option maxRecDepth 20000 in
theorem ggX3_isPair_X3_isPlate : GoodIn wsX3_isPair wsX3_isPlate := goodIn_r _ [5, 6, 7, 8, 4, 9, 10, 11, 12, 13, 14, 15, 16, 17, 18, 19] rfl (by decide +kernel)
set_option maxRecDepth 20000 in
theorem gX3_isPair_X3_isPlate : GoodIn wsX3_isPair (wsV RX3 31 RX3 yX3_isPlate wsX3_isPlate) := goodIn_app (goodIn_of _ (by decide +kernel)) ggX3_isPair_X3_isPlate
set_option maxRecDepth 20000 in
theorem ggX3_isVector_X3_in : GoodIn wsX3_isVector wsX3_in := goodIn_r _ [4] rfl (by decide +kernel)
set_option maxRecDepth 20000 in
theorem gX3_isVector_X3_in : GoodIn wsX3_isVector (va_wsS RX3 27 yX3_in wsX3_in) := goodIn_app (goodIn_of _ (by decide +kernel)) ggX3_isVector_X3_in
set_option maxRecDepth 20000 in
theorem ggX3_areaOf_X3_firstOf : GoodIn wsX3_areaOf wsX3_firstOf := goodIn_r _ [5, 6, 11, 12, 13, 14, 15, 16, 17, 18, 19, 20] rfl (by decide +kernel)
set_option maxRecDepth 20000 in
theorem gX3_areaOf_X3_firstOf : GoodIn wsX3_areaOf (wsV RX3 35 RX3 yX3_firstOf wsX3_firstOf) := goodIn_app (goodIn_of _ (by decide +kernel)) ggX3_areaOf_X3_firstOf
set_option maxRecDepth 20000 in
theorem ggX3_areaOf_X3_secondOf : GoodIn wsX3_areaOf wsX3_secondOf := goodIn_r _ [10, 6, 11, 12, 13, 14, 15, 16, 17, 18, 19, 20] rfl (by decide +kernel)
set_option maxRecDepth 20000 in
theorem gX3_areaOf_X3_secondOf : GoodIn wsX3_areaOf (wsV RX3 39 RX3 yX3_secondOf wsX3_secondOf) := goodIn_app (goodIn_of _ (by decide +kernel)) ggX3_areaOf_X3_secondOf
set_option maxRecDepth 20000 in
theorem ggX3_addPlate_X3_isVector : GoodIn wsX3_addPlate wsX3_isVector := goodIn_r _ [5, 6, 7, 4, 8] rfl (by decide +kernel)
set_option maxRecDepth 20000 in
theorem gX3_addPlate_X3_isVector : GoodIn wsX3_addPlate (va_wsS RX3 42 yX3_isVector wsX3_isVector) := goodIn_app (goodIn_of _ (by decide +kernel)) ggX3_addPlate_X3_isVector
set_option maxRecDepth 20000 in
theorem ggX3_addPlate_X3_records : GoodIn wsX3_addPlate wsX3_records := goodIn_r _ [12, 13, 14, 1, 15, 16, 17, 18, 19, 20, 21, 22, 23, 24] rfl (by decide +kernel)
set_option maxRecDepth 20000 in
theorem gX3_addPlate_X3_records : GoodIn wsX3_addPlate (wsV RX3 46 RX3 yX3_records wsX3_records) := goodIn_app (goodIn_of _ (by decide +kernel)) ggX3_addPlate_X3_records
set_option maxRecDepth 20000 in
theorem ggX3_setScreen_X3_isPlate : GoodIn wsX3_setScreen wsX3_isPlate := goodIn_r _ [6, 1, 7, 8, 5, 9, 31, 32, 33, 34, 35, 36, 37, 38, 39, 40] rfl (by decide +kernel)
set_option maxRecDepth 20000 in
theorem gX3_setScreen_X3_isPlate : GoodIn wsX3_setScreen (wsV RX3 31 RX3 yX3_isPlate wsX3_isPlate) := goodIn_app (goodIn_of _ (by decide +kernel)) ggX3_setScreen_X3_isPlate
set_option maxRecDepth 20000 in
theorem ggX3_setScreen_X3_isVector : GoodIn wsX3_setScreen wsX3_isVector := goodIn_r _ [12, 7, 8, 5, 9] rfl (by decide +kernel)
set_option maxRecDepth 20000 in
theorem gX3_setScreen_X3_isVector : GoodIn wsX3_setScreen (va_wsS RX3 42 yX3_isVector wsX3_isVector) := goodIn_app (goodIn_of _ (by decide +kernel)) ggX3_setScreen_X3_isVector
set_option maxRecDepth 20000 in
theorem ggX3_setScreen_X3_records : GoodIn wsX3_setScreen wsX3_records := goodIn_r _ [16, 17, 18, 1, 31, 32, 33, 34, 35, 36, 37, 38, 39, 40] rfl (by decide +kernel)
set_option maxRecDepth 20000 in
theorem gX3_setScreen_X3_records : GoodIn wsX3_setScreen (wsV RX3 46 RX3 yX3_records wsX3_records) := goodIn_app (goodIn_of _ (by decide +kernel)) ggX3_setScreen_X3_records
set_option maxRecDepth 20000 in
theorem ggX3_setScreen_X3_areaOf : GoodIn wsX3_setScreen wsX3_areaOf := goodIn_r _ [22, 23, 24, 25, 5, 26, 1, 27, 28, 29, 30, 31, 32, 33, 34, 35, 36, 37, 38, 39, 40] rfl (by decide +kernel)
set_option maxRecDepth 20000 in
theorem gX3_setScreen_X3_areaOf : GoodIn wsX3_setScreen (wsV RX3 49 RX3 yX3_areaOf wsX3_areaOf) := goodIn_app (goodIn_of _ (by decide +kernel)) ggX3_setScreen_X3_areaOf
set_option maxRecDepth 20000 in
theorem ggX3_removePlate_X3_isPlate : GoodIn wsX3_removePlate wsX3_isPlate := goodIn_r _ [6, 1, 7, 8, 5, 9, 16, 17, 18, 19, 20, 21, 22, 23, 24, 25] rfl (by decide +kernel)
set_option maxRecDepth 20000 in
theorem gX3_removePlate_X3_isPlate : GoodIn wsX3_removePlate (wsV RX3 31 RX3 yX3_isPlate wsX3_isPlate) := goodIn_app (goodIn_of _ (by decide +kernel)) ggX3_removePlate_X3_isPlate
set_option maxRecDepth 20000 in
theorem ggX3_removePlate_X3_records : GoodIn wsX3_removePlate wsX3_records := goodIn_r _ [13, 14, 15, 1, 16, 17, 18, 19, 20, 21, 22, 23, 24, 25] rfl (by decide +kernel)
set_option maxRecDepth 20000 in
theorem gX3_removePlate_X3_records : GoodIn wsX3_removePlate (wsV RX3 46 RX3 yX3_records wsX3_records) := goodIn_app (goodIn_of _ (by decide +kernel)) ggX3_removePlate_X3_records
set_option maxRecDepth 20000 in
theorem ggX3_cellP_X3_isPlate : GoodIn wsX3_cellP wsX3_isPlate := goodIn_r _ [5, 6, 7, 8, 4, 9, 14, 15, 16, 17, 18, 19, 20, 21, 22, 23] rfl (by decide +kernel)
set_option maxRecDepth 20000 in
theorem gX3_cellP_X3_isPlate : GoodIn wsX3_cellP (wsV RX3 31 RX3 yX3_isPlate wsX3_isPlate) := goodIn_app (goodIn_of _ (by decide +kernel)) ggX3_cellP_X3_isPlate
set_option maxRecDepth 20000 in
theorem ggX3_cellP_X3_firstOf : GoodIn wsX3_cellP wsX3_firstOf := goodIn_r _ [13, 6, 14, 15, 16, 17, 18, 19, 20, 21, 22, 23] rfl (by decide +kernel)
set_option maxRecDepth 20000 in
theorem gX3_cellP_X3_firstOf : GoodIn wsX3_cellP (wsV RX3 35 RX3 yX3_firstOf wsX3_firstOf) := goodIn_app (goodIn_of _ (by decide +kernel)) ggX3_cellP_X3_firstOf
set_option maxRecDepth 20000 in
theorem ggX3_cellQ_X3_isPlate : GoodIn wsX3_cellQ wsX3_isPlate := goodIn_r _ [5, 6, 7, 8, 4, 9, 14, 15, 16, 17, 18, 19, 20, 21, 22, 23] rfl (by decide +kernel)
set_option maxRecDepth 20000 in
theorem gX3_cellQ_X3_isPlate : GoodIn wsX3_cellQ (wsV RX3 31 RX3 yX3_isPlate wsX3_isPlate) := goodIn_app (goodIn_of _ (by decide +kernel)) ggX3_cellQ_X3_isPlate
set_option maxRecDepth 20000 in
theorem ggX3_cellQ_X3_secondOf : GoodIn wsX3_cellQ wsX3_secondOf := goodIn_r _ [13, 6, 14, 15, 16, 17, 18, 19, 20, 21, 22, 23] rfl (by decide +kernel)
set_option maxRecDepth 20000 in
theorem gX3_cellQ_X3_secondOf : GoodIn wsX3_cellQ (wsV RX3 39 RX3 yX3_secondOf wsX3_secondOf) := goodIn_app (goodIn_of _ (by decide +kernel)) ggX3_cellQ_X3_secondOf
set_option maxRecDepth 20000 in
theorem ggX3_cellArea_X3_isPlate : GoodIn wsX3_cellArea wsX3_isPlate := goodIn_r _ [5, 6, 7, 8, 4, 9, 22, 23, 24, 25, 26, 27, 28, 29, 30, 31] rfl (by decide +kernel)
set_option maxRecDepth 20000 in
theorem gX3_cellArea_X3_isPlate : GoodIn wsX3_cellArea (wsV RX3 31 RX3 yX3_isPlate wsX3_isPlate) := goodIn_app (goodIn_of _ (by decide +kernel)) ggX3_cellArea_X3_isPlate
set_option maxRecDepth 20000 in
theorem ggX3_cellArea_X3_areaOf : GoodIn wsX3_cellArea wsX3_areaOf := goodIn_r _ [13, 14, 15, 16, 4, 17, 6, 18, 19, 20, 21, 22, 23, 24, 25, 26, 27, 28, 29, 30, 31] rfl (by decide +kernel)
set_option maxRecDepth 20000 in
theorem gX3_cellArea_X3_areaOf : GoodIn wsX3_cellArea (wsV RX3 49 RX3 yX3_areaOf wsX3_areaOf) := goodIn_app (goodIn_of _ (by decide +kernel)) ggX3_cellArea_X3_areaOf
set_option maxRecDepth 20000 in
theorem ggX3_tileOf_X3_areaOf : GoodIn wsX3_tileOf wsX3_areaOf := goodIn_r _ [5, 6, 7, 8, 4, 9, 10, 11, 12, 13, 14, 18, 19, 20, 21, 22, 23, 24, 25, 26, 27] rfl (by decide +kernel)
set_option maxRecDepth 20000 in
theorem gX3_tileOf_X3_areaOf : GoodIn wsX3_tileOf (wsV RX3 49 RX3 yX3_areaOf wsX3_areaOf) := goodIn_app (goodIn_of _ (by decide +kernel)) ggX3_tileOf_X3_areaOf
set_option maxRecDepth 20000 in
theorem ggX3_tileOf_X3_firstOf : GoodIn wsX3_tileOf wsX3_firstOf := goodIn_r _ [9, 10, 18, 19, 20, 21, 22, 23, 24, 25, 26, 27] rfl (by decide +kernel)
set_option maxRecDepth 20000 in
theorem gX3_tileOf_X3_firstOf : GoodIn wsX3_tileOf (wsV RX3 35 RX3 yX3_firstOf wsX3_firstOf) := goodIn_app (goodIn_of _ (by decide +kernel)) ggX3_tileOf_X3_firstOf
set_option maxRecDepth 20000 in
theorem ggX3_tileOf_X3_secondOf : GoodIn wsX3_tileOf wsX3_secondOf := goodIn_r _ [14, 10, 18, 19, 20, 21, 22, 23, 24, 25, 26, 27] rfl (by decide +kernel)
set_option maxRecDepth 20000 in
theorem gX3_tileOf_X3_secondOf : GoodIn wsX3_tileOf (wsV RX3 39 RX3 yX3_secondOf wsX3_secondOf) := goodIn_app (goodIn_of _ (by decide +kernel)) ggX3_tileOf_X3_secondOf
set_option maxRecDepth 20000 in
theorem ggX3_tileOf_X3_common : GoodIn wsX3_tileOf wsX3_common := goodIn_r _ [17] rfl (by decide +kernel)
set_option maxRecDepth 20000 in
theorem gX3_tileOf_X3_common : GoodIn wsX3_tileOf (va_wsS RX3 52 yX3_common wsX3_common) := goodIn_app (goodIn_of _ (by decide +kernel)) ggX3_tileOf_X3_common
set_option maxRecDepth 20000 in
theorem ggX3_tile_X3_isPlate : GoodIn wsX3_tile wsX3_isPlate := goodIn_r _ [5, 6, 7, 8, 4, 9, 29, 30, 31, 32, 33, 34, 35, 36, 37, 38] rfl (by decide +kernel)
set_option maxRecDepth 20000 in
theorem gX3_tile_X3_isPlate : GoodIn wsX3_tile (wsV RX3 31 RX3 yX3_isPlate wsX3_isPlate) := goodIn_app (goodIn_of _ (by decide +kernel)) ggX3_tile_X3_isPlate
set_option maxRecDepth 20000 in
theorem ggX3_tile_X3_tileOf : GoodIn wsX3_tile wsX3_tileOf := goodIn_r _ [13, 14, 15, 16, 4, 17, 18, 19, 20, 21, 6, 22, 23, 24, 25, 26, 27, 28, 29, 30, 31, 32, 33, 34, 35, 36, 37, 38] rfl (by decide +kernel)
set_option maxRecDepth 20000 in
theorem gX3_tile_X3_tileOf : GoodIn wsX3_tile (wsV RX3 56 RX3 yX3_tileOf wsX3_tileOf) := goodIn_app (goodIn_of _ (by decide +kernel)) ggX3_tile_X3_tileOf
set_option maxRecDepth 20000 in
theorem ggX3_commonTile_X3_tileOf : GoodIn wsX3_commonTile wsX3_tileOf := goodIn_r _ [6, 7, 8, 9, 5, 10, 11, 12, 13, 14, 1, 15, 16, 17, 18, 19, 20, 21, 22, 23, 24, 25, 26, 27, 28, 29, 30, 31] rfl (by decide +kernel)
set_option maxRecDepth 20000 in
theorem gX3_commonTile_X3_tileOf : GoodIn wsX3_commonTile (wsV RX3 56 RX3 yX3_tileOf wsX3_tileOf) := goodIn_app (goodIn_of _ (by decide +kernel)) ggX3_commonTile_X3_tileOf
set_option maxRecDepth 20000 in
theorem ggX3_commonTile_X3_common : GoodIn wsX3_commonTile wsX3_common := goodIn_r _ [21] rfl (by decide +kernel)
set_option maxRecDepth 20000 in
theorem gX3_commonTile_X3_common : GoodIn wsX3_commonTile (va_wsS RX3 52 yX3_common wsX3_common) := goodIn_app (goodIn_of _ (by decide +kernel)) ggX3_commonTile_X3_common
set_option maxRecDepth 20000 in
theorem ggX3_isAhead_X3_secondOf : GoodIn wsX3_isAhead wsX3_secondOf := goodIn_r _ [5, 6, 11, 12, 13, 14, 15, 16, 17, 18, 19, 20] rfl (by decide +kernel)
set_option maxRecDepth 20000 in
theorem gX3_isAhead_X3_secondOf : GoodIn wsX3_isAhead (wsV RX3 39 RX3 yX3_secondOf wsX3_secondOf) := goodIn_app (goodIn_of _ (by decide +kernel)) ggX3_isAhead_X3_secondOf
set_option maxRecDepth 20000 in
theorem ggX3_isAhead_X3_firstOf : GoodIn wsX3_isAhead wsX3_firstOf := goodIn_r _ [10, 6, 11, 12, 13, 14, 15, 16, 17, 18, 19, 20] rfl (by decide +kernel)
set_option maxRecDepth 20000 in
theorem gX3_isAhead_X3_firstOf : GoodIn wsX3_isAhead (wsV RX3 35 RX3 yX3_firstOf wsX3_firstOf) := goodIn_app (goodIn_of _ (by decide +kernel)) ggX3_isAhead_X3_firstOf
set_option maxRecDepth 20000 in
theorem ggX3_byAngle_X3_isAhead : GoodIn wsX3_byAngle wsX3_isAhead := goodIn_r _ [6, 7, 8, 9, 5, 10, 1, 11, 12, 13, 14, 15, 16, 17, 18, 19, 20, 21, 22, 23, 24] rfl (by decide +kernel)
set_option maxRecDepth 20000 in
theorem gX3_byAngle_X3_isAhead : GoodIn wsX3_byAngle (wsV RX3 59 RX3 yX3_isAhead wsX3_isAhead) := goodIn_app (goodIn_of _ (by decide +kernel)) ggX3_byAngle_X3_isAhead
set_option maxRecDepth 20000 in
theorem ggX3_setOrder_X3_in : GoodIn wsX3_setOrder wsX3_in := goodIn_r _ [5] rfl (by decide +kernel)
set_option maxRecDepth 20000 in
theorem gX3_setOrder_X3_in : GoodIn wsX3_setOrder (va_wsS RX3 27 yX3_in wsX3_in) := goodIn_app (goodIn_of _ (by decide +kernel)) ggX3_setOrder_X3_in
set_option maxRecDepth 20000 in
theorem ggX3_setOrder_X3_records : GoodIn wsX3_setOrder wsX3_records := goodIn_r _ [9, 10, 11, 1, 12, 13, 14, 15, 16, 17, 18, 19, 20, 21] rfl (by decide +kernel)
set_option maxRecDepth 20000 in
theorem gX3_setOrder_X3_records : GoodIn wsX3_setOrder (wsV RX3 46 RX3 yX3_records wsX3_records) := goodIn_app (goodIn_of _ (by decide +kernel)) ggX3_setOrder_X3_records
set_option maxRecDepth 20000 in
theorem ggX3_setLimits_X3_in : GoodIn wsX3_setLimits wsX3_in := goodIn_r _ [5] rfl (by decide +kernel)
set_option maxRecDepth 20000 in
theorem gX3_setLimits_X3_in : GoodIn wsX3_setLimits (va_wsS RX3 27 yX3_in wsX3_in) := goodIn_app (goodIn_of _ (by decide +kernel)) ggX3_setLimits_X3_in
set_option maxRecDepth 20000 in
theorem ggX3_setLimits_X3_records : GoodIn wsX3_setLimits wsX3_records := goodIn_r _ [9, 10, 11, 1, 12, 13, 14, 15, 16, 17, 18, 19, 20, 21] rfl (by decide +kernel)
set_option maxRecDepth 20000 in
theorem gX3_setLimits_X3_records : GoodIn wsX3_setLimits (wsV RX3 46 RX3 yX3_records wsX3_records) := goodIn_app (goodIn_of _ (by decide +kernel)) ggX3_setLimits_X3_records
set_option maxRecDepth 20000 in
theorem ggX3_pairSquare_X3_areaOf : GoodIn wsX3_pairSquare wsX3_areaOf := goodIn_r _ [5, 6, 7, 8, 4, 9, 10, 11, 12, 13, 14, 15, 16, 17, 18, 19, 20, 21, 22, 23, 24] rfl (by decide +kernel)
set_option maxRecDepth 20000 in
theorem gX3_pairSquare_X3_areaOf : GoodIn wsX3_pairSquare (wsV RX3 49 RX3 yX3_areaOf wsX3_areaOf) := goodIn_app (goodIn_of _ (by decide +kernel)) ggX3_pairSquare_X3_areaOf
set_option maxRecDepth 20000 in
theorem ggX3_pairSquare_X3_firstOf : GoodIn wsX3_pairSquare wsX3_firstOf := goodIn_r _ [9, 10, 15, 16, 17, 18, 19, 20, 21, 22, 23, 24] rfl (by decide +kernel)
set_option maxRecDepth 20000 in
theorem gX3_pairSquare_X3_firstOf : GoodIn wsX3_pairSquare (wsV RX3 35 RX3 yX3_firstOf wsX3_firstOf) := goodIn_app (goodIn_of _ (by decide +kernel)) ggX3_pairSquare_X3_firstOf
set_option maxRecDepth 20000 in
theorem ggX3_pairSquare_X3_secondOf : GoodIn wsX3_pairSquare wsX3_secondOf := goodIn_r _ [14, 10, 15, 16, 17, 18, 19, 20, 21, 22, 23, 24] rfl (by decide +kernel)
set_option maxRecDepth 20000 in
theorem gX3_pairSquare_X3_secondOf : GoodIn wsX3_pairSquare (wsV RX3 39 RX3 yX3_secondOf wsX3_secondOf) := goodIn_app (goodIn_of _ (by decide +kernel)) ggX3_pairSquare_X3_secondOf
set_option maxRecDepth 20000 in
theorem ggX3_pairBase_X3_areaOf : GoodIn wsX3_pairBase wsX3_areaOf := goodIn_r _ [5, 6, 7, 8, 4, 9, 10, 11, 12, 13, 14, 15, 16, 17, 18, 19, 20, 21, 22, 23, 24] rfl (by decide +kernel)
set_option maxRecDepth 20000 in
theorem gX3_pairBase_X3_areaOf : GoodIn wsX3_pairBase (wsV RX3 49 RX3 yX3_areaOf wsX3_areaOf) := goodIn_app (goodIn_of _ (by decide +kernel)) ggX3_pairBase_X3_areaOf
set_option maxRecDepth 20000 in
theorem ggX3_part_X3_secondOf : GoodIn wsX3_part wsX3_secondOf := goodIn_r _ [5, 6, 11, 12, 13, 14, 15, 16, 17, 18, 19, 20] rfl (by decide +kernel)
set_option maxRecDepth 20000 in
theorem gX3_part_X3_secondOf : GoodIn wsX3_part (wsV RX3 39 RX3 yX3_secondOf wsX3_secondOf) := goodIn_app (goodIn_of _ (by decide +kernel)) ggX3_part_X3_secondOf
set_option maxRecDepth 20000 in
theorem ggX3_part_X3_firstOf : GoodIn wsX3_part wsX3_firstOf := goodIn_r _ [10, 6, 11, 12, 13, 14, 15, 16, 17, 18, 19, 20] rfl (by decide +kernel)
set_option maxRecDepth 20000 in
theorem gX3_part_X3_firstOf : GoodIn wsX3_part (wsV RX3 35 RX3 yX3_firstOf wsX3_firstOf) := goodIn_app (goodIn_of _ (by decide +kernel)) ggX3_part_X3_firstOf
set_option maxRecDepth 20000 in
theorem ggX3_tripleSquare_X3_areaOf : GoodIn wsX3_tripleSquare wsX3_areaOf := goodIn_r _ [5, 6, 7, 8, 4, 9, 10, 11, 12, 13, 14, 19, 20, 21, 22, 23, 24, 25, 26, 27, 28] rfl (by decide +kernel)
set_option maxRecDepth 20000 in
theorem gX3_tripleSquare_X3_areaOf : GoodIn wsX3_tripleSquare (wsV RX3 49 RX3 yX3_areaOf wsX3_areaOf) := goodIn_app (goodIn_of _ (by decide +kernel)) ggX3_tripleSquare_X3_areaOf
set_option maxRecDepth 20000 in
theorem ggX3_tripleSquare_X3_part : GoodIn wsX3_tripleSquare wsX3_part := goodIn_r _ [18, 11, 12, 13, 4, 14, 10, 6, 7, 8, 9, 19, 20, 21, 22, 23, 24, 25, 26, 27, 28] rfl (by decide +kernel)
set_option maxRecDepth 20000 in
theorem gX3_tripleSquare_X3_part : GoodIn wsX3_tripleSquare (wsV RX3 62 RX3 yX3_part wsX3_part) := goodIn_app (goodIn_of _ (by decide +kernel)) ggX3_tripleSquare_X3_part
set_option maxRecDepth 20000 in
theorem ggX3_tripleBase_X3_areaOf : GoodIn wsX3_tripleBase wsX3_areaOf := goodIn_r _ [5, 6, 7, 8, 4, 9, 10, 11, 12, 13, 14, 15, 16, 17, 18, 19, 20, 21, 22, 23, 24] rfl (by decide +kernel)
set_option maxRecDepth 20000 in
theorem gX3_tripleBase_X3_areaOf : GoodIn wsX3_tripleBase (wsV RX3 49 RX3 yX3_areaOf wsX3_areaOf) := goodIn_app (goodIn_of _ (by decide +kernel)) ggX3_tripleBase_X3_areaOf
set_option maxRecDepth 20000 in
theorem ggX3_isPart_X3_in : GoodIn wsX3_isPart wsX3_in := goodIn_r _ [5] rfl (by decide +kernel)
set_option maxRecDepth 20000 in
theorem gX3_isPart_X3_in : GoodIn wsX3_isPart (va_wsS RX3 27 yX3_in wsX3_in) := goodIn_app (goodIn_of _ (by decide +kernel)) ggX3_isPart_X3_in
set_option maxRecDepth 20000 in
theorem ggX3_isCombination_X3_isPair : GoodIn wsX3_isCombination wsX3_isPair := goodIn_r _ [5, 6, 7, 8, 4, 9, 10, 11, 12, 13, 18, 19, 20, 21, 22, 23, 24, 25, 26, 27] rfl (by decide +kernel)
set_option maxRecDepth 20000 in
theorem gX3_isCombination_X3_isPair : GoodIn wsX3_isCombination (wsV RX3 70 RX3 yX3_isPair wsX3_isPair) := goodIn_app (goodIn_of _ (by decide +kernel)) ggX3_isCombination_X3_isPair
set_option maxRecDepth 20000 in
theorem ggX3_isCombination_X3_isPart : GoodIn wsX3_isCombination wsX3_isPart := goodIn_r _ [17, 10, 11, 12, 4, 13, 18, 19, 20, 21, 22, 23, 24, 25, 26, 27] rfl (by decide +kernel)
set_option maxRecDepth 20000 in
theorem gX3_isCombination_X3_isPart : GoodIn wsX3_isCombination (wsV RX3 73 RX3 yX3_isPart wsX3_isPart) := goodIn_app (goodIn_of _ (by decide +kernel)) ggX3_isCombination_X3_isPart
set_option maxRecDepth 20000 in
theorem ggX3_squareNumerator_X3_isCombination : GoodIn wsX3_squareNumerator wsX3_isCombination := goodIn_r _ [6, 7, 8, 9, 5, 10, 11, 12, 13, 14, 15, 16, 17, 18, 19, 20, 21, 22, 46, 47, 48, 49, 50, 51, 52, 53, 54, 55] rfl (by decide +kernel)
set_option maxRecDepth 20000 in
theorem gX3_squareNumerator_X3_isCombination : GoodIn wsX3_squareNumerator (wsV RX3 76 RX3 yX3_isCombination wsX3_isCombination) := goodIn_app (goodIn_of _ (by decide +kernel)) ggX3_squareNumerator_X3_isCombination
set_option maxRecDepth 20000 in
theorem ggX3_squareNumerator_X3_pairSquare : GoodIn wsX3_squareNumerator wsX3_pairSquare := goodIn_r _ [26, 27, 28, 29, 5, 30, 31, 32, 33, 34, 15, 35, 36, 37, 38, 46, 47, 48, 49, 50, 51, 52, 53, 54, 55] rfl (by decide +kernel)
set_option maxRecDepth 20000 in
theorem gX3_squareNumerator_X3_pairSquare : GoodIn wsX3_squareNumerator (wsV RX3 82 RX3 yX3_pairSquare wsX3_pairSquare) := goodIn_app (goodIn_of _ (by decide +kernel)) ggX3_squareNumerator_X3_pairSquare
set_option maxRecDepth 20000 in
theorem ggX3_squareNumerator_X3_pairBase : GoodIn wsX3_squareNumerator wsX3_pairBase := goodIn_r _ [42, 27, 28, 29, 5, 30, 31, 32, 33, 34, 15, 35, 36, 37, 38, 46, 47, 48, 49, 50, 51, 52, 53, 54, 55] rfl (by decide +kernel)
set_option maxRecDepth 20000 in
theorem gX3_squareNumerator_X3_pairBase : GoodIn wsX3_squareNumerator (wsV RX3 86 RX3 yX3_pairBase wsX3_pairBase) := goodIn_app (goodIn_of _ (by decide +kernel)) ggX3_squareNumerator_X3_pairBase
set_option maxRecDepth 20000 in
theorem ggX3_squareNumerator_X3_common : GoodIn wsX3_squareNumerator wsX3_common := goodIn_r _ [45] rfl (by decide +kernel)
set_option maxRecDepth 20000 in
theorem gX3_squareNumerator_X3_common : GoodIn wsX3_squareNumerator (va_wsS RX3 52 yX3_common wsX3_common) := goodIn_app (goodIn_of _ (by decide +kernel)) ggX3_squareNumerator_X3_common
set_option maxRecDepth 20000 in
theorem ggX3_squareDenominator_X3_isCombination : GoodIn wsX3_squareDenominator wsX3_isCombination := goodIn_r _ [6, 7, 8, 9, 5, 10, 11, 12, 13, 14, 15, 16, 17, 18, 19, 20, 21, 22, 46, 47, 48, 49, 50, 51, 52, 53, 54, 55] rfl (by decide +kernel)
set_option maxRecDepth 20000 in
theorem gX3_squareDenominator_X3_isCombination : GoodIn wsX3_squareDenominator (wsV RX3 76 RX3 yX3_isCombination wsX3_isCombination) := goodIn_app (goodIn_of _ (by decide +kernel)) ggX3_squareDenominator_X3_isCombination
set_option maxRecDepth 20000 in
theorem ggX3_squareDenominator_X3_pairBase : GoodIn wsX3_squareDenominator wsX3_pairBase := goodIn_r _ [26, 27, 28, 29, 5, 30, 31, 32, 33, 34, 15, 35, 36, 37, 38, 46, 47, 48, 49, 50, 51, 52, 53, 54, 55] rfl (by decide +kernel)
set_option maxRecDepth 20000 in
theorem gX3_squareDenominator_X3_pairBase : GoodIn wsX3_squareDenominator (wsV RX3 86 RX3 yX3_pairBase wsX3_pairBase) := goodIn_app (goodIn_of _ (by decide +kernel)) ggX3_squareDenominator_X3_pairBase
set_option maxRecDepth 20000 in
theorem ggX3_squareDenominator_X3_pairSquare : GoodIn wsX3_squareDenominator wsX3_pairSquare := goodIn_r _ [42, 27, 28, 29, 5, 30, 31, 32, 33, 34, 15, 35, 36, 37, 38, 46, 47, 48, 49, 50, 51, 52, 53, 54, 55] rfl (by decide +kernel)
set_option maxRecDepth 20000 in
theorem gX3_squareDenominator_X3_pairSquare : GoodIn wsX3_squareDenominator (wsV RX3 82 RX3 yX3_pairSquare wsX3_pairSquare) := goodIn_app (goodIn_of _ (by decide +kernel)) ggX3_squareDenominator_X3_pairSquare
set_option maxRecDepth 20000 in
theorem ggX3_squareDenominator_X3_common : GoodIn wsX3_squareDenominator wsX3_common := goodIn_r _ [45] rfl (by decide +kernel)
set_option maxRecDepth 20000 in
theorem gX3_squareDenominator_X3_common : GoodIn wsX3_squareDenominator (va_wsS RX3 52 yX3_common wsX3_common) := goodIn_app (goodIn_of _ (by decide +kernel)) ggX3_squareDenominator_X3_common
set_option maxRecDepth 20000 in
theorem ggX3_kind_X3_isCombination : GoodIn wsX3_kind wsX3_isCombination := goodIn_r _ [5, 6, 7, 8, 4, 9, 10, 11, 12, 13, 14, 15, 16, 17, 18, 19, 20, 21, 46, 47, 48, 49, 50, 51, 52, 53, 54, 55] rfl (by decide +kernel)
set_option maxRecDepth 20000 in
theorem gX3_kind_X3_isCombination : GoodIn wsX3_kind (wsV RX3 76 RX3 yX3_isCombination wsX3_isCombination) := goodIn_app (goodIn_of _ (by decide +kernel)) ggX3_kind_X3_isCombination
set_option maxRecDepth 20000 in
theorem ggX3_kind_X3_pairSquare : GoodIn wsX3_kind wsX3_pairSquare := goodIn_r _ [25, 26, 27, 28, 4, 29, 30, 31, 32, 33, 14, 34, 35, 36, 37, 46, 47, 48, 49, 50, 51, 52, 53, 54, 55] rfl (by decide +kernel)
set_option maxRecDepth 20000 in
theorem gX3_kind_X3_pairSquare : GoodIn wsX3_kind (wsV RX3 82 RX3 yX3_pairSquare wsX3_pairSquare) := goodIn_app (goodIn_of _ (by decide +kernel)) ggX3_kind_X3_pairSquare
set_option maxRecDepth 20000 in
theorem ggX3_kind_X3_pairBase : GoodIn wsX3_kind wsX3_pairBase := goodIn_r _ [41, 26, 27, 28, 4, 29, 30, 31, 32, 33, 14, 34, 35, 36, 37, 46, 47, 48, 49, 50, 51, 52, 53, 54, 55] rfl (by decide +kernel)
set_option maxRecDepth 20000 in
theorem gX3_kind_X3_pairBase : GoodIn wsX3_kind (wsV RX3 86 RX3 yX3_pairBase wsX3_pairBase) := goodIn_app (goodIn_of _ (by decide +kernel)) ggX3_kind_X3_pairBase
set_option maxRecDepth 20000 in
theorem ggX3_kind_X3_kindOf : GoodIn wsX3_kind wsX3_kindOf := goodIn_r _ [45, 14, 46, 47, 48, 49, 50, 51, 52, 53, 54, 55] rfl (by decide +kernel)
set_option maxRecDepth 20000 in
theorem gX3_kind_X3_kindOf : GoodIn wsX3_kind (wsV RX3 90 RX3 yX3_kindOf wsX3_kindOf) := goodIn_app (goodIn_of _ (by decide +kernel)) ggX3_kind_X3_kindOf
set_option maxRecDepth 20000 in
theorem ggX3_laySquares_X3_layWith : GoodIn wsX3_laySquares wsX3_layWith := goodIn_r _ [7, 2, 8, 9, 10, 6, 11, 12, 13, 14, 15, 16, 17, 18, 19, 20, 21, 22, 23, 24, 25, 26, 27, 1, 28, 29, 30, 31, 32, 33, 34, 35, 36, 37, 38] rfl (by decide +kernel)
set_option maxRecDepth 20000 in
theorem gX3_laySquares_X3_layWith : GoodIn wsX3_laySquares (wsV RX3 97 RX3 yX3_layWith wsX3_layWith) := goodIn_app (goodIn_of _ (by decide +kernel)) ggX3_laySquares_X3_layWith
set_option maxRecDepth 20000 in
theorem ggX3_layWith_X3_pairSquare : GoodIn wsX3_layWith wsX3_pairSquare := goodIn_r _ [6, 7, 8, 9, 5, 10, 11, 12, 13, 14, 1, 15, 16, 17, 18, 25, 26, 27, 28, 29, 30, 31, 32, 33, 34] rfl (by decide +kernel)
set_option maxRecDepth 20000 in
theorem gX3_layWith_X3_pairSquare : GoodIn wsX3_layWith (wsV RX3 82 RX3 yX3_pairSquare wsX3_pairSquare) := goodIn_app (goodIn_of _ (by decide +kernel)) ggX3_layWith_X3_pairSquare
set_option maxRecDepth 20000 in
theorem ggX3_layWith_X3_insert : GoodIn wsX3_layWith wsX3_insert := goodIn_r _ [22, 23, 24, 25, 26, 27, 28, 29, 30, 31, 32, 33, 34] rfl (by decide +kernel)
set_option maxRecDepth 20000 in
theorem gX3_layWith_X3_insert : GoodIn wsX3_layWith (wsV RX3 101 RX3 yX3_insert wsX3_insert) := goodIn_app (goodIn_of _ (by decide +kernel)) ggX3_layWith_X3_insert
set_option maxRecDepth 20000 in
theorem ggX3_placeOf_X3_behind : GoodIn wsX3_placeOf wsX3_behind := goodIn_r _ [6, 1, 7, 8, 9, 10, 11, 12, 13, 14, 15, 16, 17] rfl (by decide +kernel)
set_option maxRecDepth 20000 in
theorem gX3_placeOf_X3_behind : GoodIn wsX3_placeOf (wsV RX3 105 RX3 yX3_behind wsX3_behind) := goodIn_app (goodIn_of _ (by decide +kernel)) ggX3_placeOf_X3_behind
set_option maxRecDepth 20000 in
theorem ggX3_beatCount_X3_isPair : GoodIn wsX3_beatCount wsX3_isPair := goodIn_r _ [6, 7, 8, 9, 5, 10, 11, 12, 13, 14, 48, 49, 50, 51, 52, 53, 54, 55, 56, 57] rfl (by decide +kernel)
set_option maxRecDepth 20000 in
theorem gX3_beatCount_X3_isPair : GoodIn wsX3_beatCount (wsV RX3 70 RX3 yX3_isPair wsX3_isPair) := goodIn_app (goodIn_of _ (by decide +kernel)) ggX3_beatCount_X3_isPair
set_option maxRecDepth 20000 in
theorem ggX3_beatCount_X3_laySquares : GoodIn wsX3_beatCount wsX3_laySquares := goodIn_r _ [18, 1, 11, 19, 20, 21, 5, 22, 23, 24, 25, 26, 27, 28, 29, 30, 31, 32, 33, 34, 35, 36, 37, 38, 39, 40, 41, 42, 43, 48, 49, 50, 51, 52, 53, 54, 55, 56, 57] rfl (by decide +kernel)
set_option maxRecDepth 20000 in
theorem gX3_beatCount_X3_laySquares : GoodIn wsX3_beatCount (wsV RX3 108 RX3 yX3_laySquares wsX3_laySquares) := goodIn_app (goodIn_of _ (by decide +kernel)) ggX3_beatCount_X3_laySquares
set_option maxRecDepth 20000 in
theorem ggX3_beatCount_X3_behind : GoodIn wsX3_beatCount wsX3_behind := goodIn_r _ [47, 1, 43, 48, 49, 50, 51, 52, 53, 54, 55, 56, 57] rfl (by decide +kernel)
set_option maxRecDepth 20000 in
theorem gX3_beatCount_X3_behind : GoodIn wsX3_beatCount (wsV RX3 105 RX3 yX3_behind wsX3_behind) := goodIn_app (goodIn_of _ (by decide +kernel)) ggX3_beatCount_X3_behind
set_option maxRecDepth 20000 in
theorem ggX3_beat_X3_isPair : GoodIn wsX3_beat wsX3_isPair := goodIn_r _ [9, 10, 11, 12, 8, 13, 14, 15, 16, 17, 66, 67, 68, 69, 70, 71, 72, 73, 74, 75] rfl (by decide +kernel)
set_option maxRecDepth 20000 in
theorem gX3_beat_X3_isPair : GoodIn wsX3_beat (wsV RX3 70 RX3 yX3_isPair wsX3_isPair) := goodIn_app (goodIn_of _ (by decide +kernel)) ggX3_beat_X3_isPair
set_option maxRecDepth 20000 in
theorem ggX3_beat_X3_laySquares : GoodIn wsX3_beat wsX3_laySquares := goodIn_r _ [21, 2, 14, 22, 23, 24, 8, 25, 26, 27, 28, 29, 30, 31, 32, 33, 34, 35, 36, 37, 38, 39, 40, 41, 42, 43, 44, 45, 4, 66, 67, 68, 69, 70, 71, 72, 73, 74, 75] rfl (by decide +kernel)
set_option maxRecDepth 20000 in
theorem gX3_beat_X3_laySquares : GoodIn wsX3_beat (wsV RX3 108 RX3 yX3_laySquares wsX3_laySquares) := goodIn_app (goodIn_of _ (by decide +kernel)) ggX3_beat_X3_laySquares
set_option maxRecDepth 20000 in
theorem ggX3_beat_X3_placeOf : GoodIn wsX3_beat wsX3_placeOf := goodIn_r _ [49, 2, 50, 51, 52, 8, 53, 4, 66, 67, 68, 69, 70, 71, 72, 73, 74, 75] rfl (by decide +kernel)
set_option maxRecDepth 20000 in
theorem gX3_beat_X3_placeOf : GoodIn wsX3_beat (wsV RX3 112 RX3 yX3_placeOf wsX3_placeOf) := goodIn_app (goodIn_of _ (by decide +kernel)) ggX3_beat_X3_placeOf
set_option maxRecDepth 20000 in
theorem ggX3_beat_X3_pairBase : GoodIn wsX3_beat wsX3_pairBase := goodIn_r _ [57, 30, 31, 32, 8, 33, 34, 35, 36, 37, 14, 38, 39, 40, 41, 66, 67, 68, 69, 70, 71, 72, 73, 74, 75] rfl (by decide +kernel)
set_option maxRecDepth 20000 in
theorem gX3_beat_X3_pairBase : GoodIn wsX3_beat (wsV RX3 86 RX3 yX3_pairBase wsX3_pairBase) := goodIn_app (goodIn_of _ (by decide +kernel)) ggX3_beat_X3_pairBase
set_option maxRecDepth 20000 in
theorem ggX3_beat_X3_common : GoodIn wsX3_beat wsX3_common := goodIn_r _ [60] rfl (by decide +kernel)
set_option maxRecDepth 20000 in
theorem gX3_beat_X3_common : GoodIn wsX3_beat (va_wsS RX3 52 yX3_common wsX3_common) := goodIn_app (goodIn_of _ (by decide +kernel)) ggX3_beat_X3_common
set_option maxRecDepth 20000 in
theorem ggX3_beat_X3_behind : GoodIn wsX3_beat wsX3_behind := goodIn_r _ [53, 2, 4, 66, 67, 68, 69, 70, 71, 72, 73, 74, 75] rfl (by decide +kernel)
set_option maxRecDepth 20000 in
theorem gX3_beat_X3_behind : GoodIn wsX3_beat (wsV RX3 105 RX3 yX3_behind wsX3_behind) := goodIn_app (goodIn_of _ (by decide +kernel)) ggX3_beat_X3_behind
set_option maxRecDepth 20000 in
theorem ggX3_beat_X3_periodOf : GoodIn wsX3_beat wsX3_periodOf := goodIn_r _ [63, 64, 65] rfl (by decide +kernel)
set_option maxRecDepth 20000 in
theorem gX3_beat_X3_periodOf : GoodIn wsX3_beat (va_wsS RX3 117 yX3_periodOf wsX3_periodOf) := goodIn_app (goodIn_of _ (by decide +kernel)) ggX3_beat_X3_periodOf
set_option maxRecDepth 20000 in
theorem ggX3_beatNumerator_X3_beat : GoodIn wsX3_beatNumerator wsX3_beat := goodIn_r _ [5, 6, 7, 8, 9, 10, 11, 12, 4, 13, 14, 15, 16, 17, 18, 19, 20, 21, 22, 23, 24, 25, 26, 27, 28, 29, 30, 31, 32, 33, 34, 35, 36, 37, 38, 39, 40, 41, 42, 43, 44, 45, 46, 47, 48, 49, 50, 51, 52, 53, 54, 55, 56, 57, 58, 59, 60, 61, 62, 63, 64, 65, 66, 67, 68, 69, 70, 71, 72, 73, 74, 75, 76, 77, 78, 79] rfl (by decide +kernel)
set_option maxRecDepth 20000 in
theorem gX3_beatNumerator_X3_beat : GoodIn wsX3_beatNumerator (wsV RX3 120 RX3 yX3_beat wsX3_beat) := goodIn_app (goodIn_of _ (by decide +kernel)) ggX3_beatNumerator_X3_beat
set_option maxRecDepth 20000 in
theorem ggX3_beatDenominator_X3_beat : GoodIn wsX3_beatDenominator wsX3_beat := goodIn_r _ [5, 6, 7, 8, 9, 10, 11, 12, 4, 13, 14, 15, 16, 17, 18, 19, 20, 21, 22, 23, 24, 25, 26, 27, 28, 29, 30, 31, 32, 33, 34, 35, 36, 37, 38, 39, 40, 41, 42, 43, 44, 45, 46, 47, 48, 49, 50, 51, 52, 53, 54, 55, 56, 57, 58, 59, 60, 61, 62, 63, 64, 65, 66, 67, 68, 69, 70, 71, 72, 73, 74, 75, 76, 77, 78, 79] rfl (by decide +kernel)
set_option maxRecDepth 20000 in
theorem gX3_beatDenominator_X3_beat : GoodIn wsX3_beatDenominator (wsV RX3 120 RX3 yX3_beat wsX3_beat) := goodIn_app (goodIn_of _ (by decide +kernel)) ggX3_beatDenominator_X3_beat
set_option maxRecDepth 20000 in
theorem ggX3_beatFrequency_X3_beat : GoodIn wsX3_beatFrequency wsX3_beat := goodIn_r _ [5, 6, 7, 8, 9, 10, 11, 12, 4, 13, 14, 15, 16, 17, 18, 19, 20, 21, 22, 23, 24, 25, 26, 27, 28, 29, 30, 31, 32, 33, 34, 35, 36, 37, 38, 39, 40, 41, 42, 43, 44, 45, 46, 47, 48, 49, 50, 51, 52, 53, 54, 55, 56, 57, 58, 59, 60, 61, 62, 63, 64, 65, 66, 67, 68, 69, 70, 71, 72, 73, 74, 75, 76, 77, 78, 79] rfl (by decide +kernel)
set_option maxRecDepth 20000 in
theorem gX3_beatFrequency_X3_beat : GoodIn wsX3_beatFrequency (wsV RX3 120 RX3 yX3_beat wsX3_beat) := goodIn_app (goodIn_of _ (by decide +kernel)) ggX3_beatFrequency_X3_beat
set_option maxRecDepth 20000 in
theorem ggX3_beatPeriod_X3_beat : GoodIn wsX3_beatPeriod wsX3_beat := goodIn_r _ [5, 6, 7, 8, 9, 10, 11, 12, 4, 13, 14, 15, 16, 17, 18, 19, 20, 21, 22, 23, 24, 25, 26, 27, 28, 29, 30, 31, 32, 33, 34, 35, 36, 37, 38, 39, 40, 41, 42, 43, 44, 45, 46, 47, 48, 49, 50, 51, 52, 53, 54, 55, 56, 57, 58, 59, 60, 61, 62, 63, 64, 65, 66, 67, 68, 69, 70, 71, 72, 73, 74, 75, 76, 77, 78, 79] rfl (by decide +kernel)
set_option maxRecDepth 20000 in
theorem gX3_beatPeriod_X3_beat : GoodIn wsX3_beatPeriod (wsV RX3 120 RX3 yX3_beat wsX3_beat) := goodIn_app (goodIn_of _ (by decide +kernel)) ggX3_beatPeriod_X3_beat
set_option maxRecDepth 20000 in
theorem ggX3_ofKind_X3_pairBase : GoodIn wsX3_ofKind wsX3_pairBase := goodIn_r _ [7, 8, 9, 10, 6, 11, 12, 13, 14, 15, 2, 16, 17, 18, 19, 28, 29, 30, 31, 32, 33, 34, 35, 36, 37] rfl (by decide +kernel)
set_option maxRecDepth 20000 in
theorem gX3_ofKind_X3_pairBase : GoodIn wsX3_ofKind (wsV RX3 86 RX3 yX3_pairBase wsX3_pairBase) := goodIn_app (goodIn_of _ (by decide +kernel)) ggX3_ofKind_X3_pairBase
set_option maxRecDepth 20000 in
theorem ggX3_ofKind_X3_pairSquare : GoodIn wsX3_ofKind wsX3_pairSquare := goodIn_r _ [23, 8, 9, 10, 6, 11, 12, 13, 14, 15, 2, 16, 17, 18, 19, 28, 29, 30, 31, 32, 33, 34, 35, 36, 37] rfl (by decide +kernel)
set_option maxRecDepth 20000 in
theorem gX3_ofKind_X3_pairSquare : GoodIn wsX3_ofKind (wsV RX3 82 RX3 yX3_pairSquare wsX3_pairSquare) := goodIn_app (goodIn_of _ (by decide +kernel)) ggX3_ofKind_X3_pairSquare
set_option maxRecDepth 20000 in
theorem ggX3_ofKind_X3_kindOf : GoodIn wsX3_ofKind wsX3_kindOf := goodIn_r _ [27, 2, 28, 29, 30, 31, 32, 33, 34, 35, 36, 37] rfl (by decide +kernel)
set_option maxRecDepth 20000 in
theorem gX3_ofKind_X3_kindOf : GoodIn wsX3_ofKind (wsV RX3 90 RX3 yX3_kindOf wsX3_kindOf) := goodIn_app (goodIn_of _ (by decide +kernel)) ggX3_ofKind_X3_kindOf
set_option maxRecDepth 20000 in
theorem ggX3_locked_X3_isPair : GoodIn wsX3_locked wsX3_isPair := goodIn_r _ [5, 6, 7, 8, 4, 9, 10, 11, 12, 13, 43, 44, 45, 46, 47, 48, 49, 50, 51, 52] rfl (by decide +kernel)
set_option maxRecDepth 20000 in
theorem gX3_locked_X3_isPair : GoodIn wsX3_locked (wsV RX3 70 RX3 yX3_isPair wsX3_isPair) := goodIn_app (goodIn_of _ (by decide +kernel)) ggX3_locked_X3_isPair
set_option maxRecDepth 20000 in
theorem ggX3_locked_X3_ofKind : GoodIn wsX3_locked wsX3_ofKind := goodIn_r _ [17, 18, 10, 19, 20, 21, 4, 22, 23, 24, 25, 26, 27, 28, 29, 30, 31, 32, 33, 34, 35, 36, 37, 38, 39, 40, 41, 42, 43, 44, 45, 46, 47, 48, 49, 50, 51, 52] rfl (by decide +kernel)
set_option maxRecDepth 20000 in
theorem gX3_locked_X3_ofKind : GoodIn wsX3_locked (wsV RX3 128 RX3 yX3_ofKind wsX3_ofKind) := goodIn_app (goodIn_of _ (by decide +kernel)) ggX3_locked_X3_ofKind
set_option maxRecDepth 20000 in
theorem ggX3_bands_X3_isPair : GoodIn wsX3_bands wsX3_isPair := goodIn_r _ [5, 6, 7, 8, 4, 9, 10, 11, 12, 13, 43, 44, 45, 46, 47, 48, 49, 50, 51, 52] rfl (by decide +kernel)
set_option maxRecDepth 20000 in
theorem gX3_bands_X3_isPair : GoodIn wsX3_bands (wsV RX3 70 RX3 yX3_isPair wsX3_isPair) := goodIn_app (goodIn_of _ (by decide +kernel)) ggX3_bands_X3_isPair
set_option maxRecDepth 20000 in
theorem ggX3_bands_X3_ofKind : GoodIn wsX3_bands wsX3_ofKind := goodIn_r _ [17, 18, 10, 19, 20, 21, 4, 22, 23, 24, 25, 26, 27, 28, 29, 30, 31, 32, 33, 34, 35, 36, 37, 38, 39, 40, 41, 42, 43, 44, 45, 46, 47, 48, 49, 50, 51, 52] rfl (by decide +kernel)
set_option maxRecDepth 20000 in
theorem gX3_bands_X3_ofKind : GoodIn wsX3_bands (wsV RX3 128 RX3 yX3_ofKind wsX3_ofKind) := goodIn_app (goodIn_of _ (by decide +kernel)) ggX3_bands_X3_ofKind
set_option maxRecDepth 20000 in
theorem ggX3_bandsOfThree_X3_tripleBase : GoodIn wsX3_bandsOfThree wsX3_tripleBase := goodIn_r _ [6, 7, 8, 9, 5, 10, 11, 12, 13, 14, 15, 16, 17, 18, 19, 32, 33, 34, 35, 36, 37, 38, 39, 40, 41] rfl (by decide +kernel)
set_option maxRecDepth 20000 in
theorem gX3_bandsOfThree_X3_tripleBase : GoodIn wsX3_bandsOfThree (wsV RX3 132 RX3 yX3_tripleBase wsX3_tripleBase) := goodIn_app (goodIn_of _ (by decide +kernel)) ggX3_bandsOfThree_X3_tripleBase
set_option maxRecDepth 20000 in
theorem ggX3_bandsOfThree_X3_tripleSquare : GoodIn wsX3_bandsOfThree wsX3_tripleSquare := goodIn_r _ [23, 7, 8, 9, 5, 10, 11, 12, 13, 14, 15, 16, 17, 18, 19, 24, 25, 26, 27, 32, 33, 34, 35, 36, 37, 38, 39, 40, 41] rfl (by decide +kernel)
set_option maxRecDepth 20000 in
theorem gX3_bandsOfThree_X3_tripleSquare : GoodIn wsX3_bandsOfThree (wsV RX3 136 RX3 yX3_tripleSquare wsX3_tripleSquare) := goodIn_app (goodIn_of _ (by decide +kernel)) ggX3_bandsOfThree_X3_tripleSquare
set_option maxRecDepth 20000 in
theorem ggX3_bandsOfThree_X3_kindOf : GoodIn wsX3_bandsOfThree wsX3_kindOf := goodIn_r _ [31, 15, 32, 33, 34, 35, 36, 37, 38, 39, 40, 41] rfl (by decide +kernel)
set_option maxRecDepth 20000 in
theorem gX3_bandsOfThree_X3_kindOf : GoodIn wsX3_bandsOfThree (wsV RX3 90 RX3 yX3_kindOf wsX3_kindOf) := goodIn_app (goodIn_of _ (by decide +kernel)) ggX3_bandsOfThree_X3_kindOf
set_option maxRecDepth 20000 in
theorem ggX3_tripleBands_X3_isPair : GoodIn wsX3_tripleBands wsX3_isPair := goodIn_r _ [5, 6, 7, 8, 4, 9, 10, 11, 12, 13, 47, 48, 49, 50, 51, 52, 53, 54, 55, 56] rfl (by decide +kernel)
set_option maxRecDepth 20000 in
theorem gX3_tripleBands_X3_isPair : GoodIn wsX3_tripleBands (wsV RX3 70 RX3 yX3_isPair wsX3_isPair) := goodIn_app (goodIn_of _ (by decide +kernel)) ggX3_tripleBands_X3_isPair
set_option maxRecDepth 20000 in
theorem ggX3_tripleBands_X3_bandsOfThree : GoodIn wsX3_tripleBands wsX3_bandsOfThree := goodIn_r _ [17, 18, 19, 20, 21, 4, 22, 23, 24, 25, 26, 27, 28, 29, 30, 10, 31, 32, 33, 34, 35, 36, 37, 38, 39, 40, 41, 42, 43, 44, 45, 46, 47, 48, 49, 50, 51, 52, 53, 54, 55, 56] rfl (by decide +kernel)
set_option maxRecDepth 20000 in
theorem gX3_tripleBands_X3_bandsOfThree : GoodIn wsX3_tripleBands (wsV RX3 139 RX3 yX3_bandsOfThree wsX3_bandsOfThree) := goodIn_app (goodIn_of _ (by decide +kernel)) ggX3_tripleBands_X3_bandsOfThree
set_option maxRecDepth 20000 in
theorem ggX3_findAll_X3_ofKind : GoodIn wsX3_findAll wsX3_ofKind := goodIn_r _ [8, 9, 3, 10, 11, 12, 7, 13, 14, 15, 16, 17, 18, 19, 20, 21, 22, 23, 24, 25, 26, 27, 28, 29, 30, 31, 32, 33, 70, 71, 72, 73, 74, 75, 76, 77, 78, 79] rfl (by decide +kernel)
set_option maxRecDepth 20000 in
theorem gX3_findAll_X3_ofKind : GoodIn wsX3_findAll (wsV RX3 128 RX3 yX3_ofKind wsX3_ofKind) := goodIn_app (goodIn_of _ (by decide +kernel)) ggX3_findAll_X3_ofKind
set_option maxRecDepth 20000 in
theorem ggX3_findAll_X3_note : GoodIn wsX3_findAll wsX3_note := goodIn_r _ [37, 9, 1, 2, 38, 39, 7, 40, 41, 42, 70, 71, 72, 73, 74, 75, 76, 77, 78, 79] rfl (by decide +kernel)
set_option maxRecDepth 20000 in
theorem gX3_findAll_X3_note : GoodIn wsX3_findAll (wsV RX3 148 RX3 yX3_note wsX3_note) := goodIn_app (goodIn_of _ (by decide +kernel)) ggX3_findAll_X3_note
set_option maxRecDepth 20000 in
theorem ggX3_findAll_X3_isPair : GoodIn wsX3_findAll wsX3_isPair := goodIn_r _ [46, 47, 48, 49, 7, 50, 3, 51, 52, 53, 70, 71, 72, 73, 74, 75, 76, 77, 78, 79] rfl (by decide +kernel)
set_option maxRecDepth 20000 in
theorem gX3_findAll_X3_isPair : GoodIn wsX3_findAll (wsV RX3 70 RX3 yX3_isPair wsX3_isPair) := goodIn_app (goodIn_of _ (by decide +kernel)) ggX3_findAll_X3_isPair
set_option maxRecDepth 20000 in
theorem ggX3_findAll_X3_bandsOfThree : GoodIn wsX3_findAll wsX3_bandsOfThree := goodIn_r _ [57, 9, 58, 59, 60, 7, 61, 14, 15, 16, 17, 18, 19, 20, 21, 3, 22, 23, 24, 25, 62, 63, 64, 65, 66, 67, 68, 69, 30, 31, 32, 33, 70, 71, 72, 73, 74, 75, 76, 77, 78, 79] rfl (by decide +kernel)
set_option maxRecDepth 20000 in
theorem gX3_findAll_X3_bandsOfThree : GoodIn wsX3_findAll (wsV RX3 139 RX3 yX3_bandsOfThree wsX3_bandsOfThree) := goodIn_app (goodIn_of _ (by decide +kernel)) ggX3_findAll_X3_bandsOfThree
set_option maxRecDepth 20000 in
theorem ggX3_note_X3_periodOf : GoodIn wsX3_note wsX3_periodOf := goodIn_r _ [7, 8, 9] rfl (by decide +kernel)
set_option maxRecDepth 20000 in
theorem gX3_note_X3_periodOf : GoodIn wsX3_note (va_wsS RX3 117 yX3_periodOf wsX3_periodOf) := goodIn_app (goodIn_of _ (by decide +kernel)) ggX3_note_X3_periodOf
set_option maxRecDepth 20000 in
theorem ggX3_allBands_X3_findAll : GoodIn wsX3_allBands wsX3_findAll := goodIn_r _ [5, 6, 7, 8, 9, 10, 11, 4, 12, 13, 14, 15, 16, 17, 18, 19, 20, 21, 22, 23, 24, 25, 26, 27, 28, 29, 30, 31, 32, 33, 34, 35, 36, 37, 38, 39, 40, 41, 42, 43, 44, 45, 46, 47, 48, 49, 50, 51, 52, 53, 54, 55, 56, 57, 58, 59, 60, 61, 62, 63, 64, 65, 66, 67, 68, 69, 70, 71, 72, 73, 74, 75, 76, 77, 78, 79, 80, 81, 82, 83] rfl (by decide +kernel)
set_option maxRecDepth 20000 in
theorem gX3_allBands_X3_findAll : GoodIn wsX3_allBands (wsV RX3 152 RX3 yX3_findAll wsX3_findAll) := goodIn_app (goodIn_of _ (by decide +kernel)) ggX3_allBands_X3_findAll
set_option maxRecDepth 20000 in
theorem ggX3_worstPlates_X3_findAll : GoodIn wsX3_worstPlates wsX3_findAll := goodIn_r _ [6, 7, 1, 8, 9, 10, 11, 5, 12, 13, 14, 15, 16, 17, 18, 19, 20, 21, 22, 23, 24, 25, 26, 27, 28, 29, 30, 31, 32, 33, 34, 35, 36, 37, 38, 39, 40, 41, 42, 43, 44, 45, 46, 47, 48, 49, 50, 51, 52, 53, 54, 55, 56, 57, 58, 59, 60, 61, 62, 63, 64, 65, 66, 67, 68, 69, 70, 71, 72, 73, 74, 75, 76, 77, 78, 79, 80, 81, 82, 83] rfl (by decide +kernel)
set_option maxRecDepth 20000 in
theorem gX3_worstPlates_X3_findAll : GoodIn wsX3_worstPlates (wsV RX3 152 RX3 yX3_findAll wsX3_findAll) := goodIn_app (goodIn_of _ (by decide +kernel)) ggX3_worstPlates_X3_findAll
set_option maxRecDepth 20000 in
theorem ggX3_worstPeriod_X3_findAll : GoodIn wsX3_worstPeriod wsX3_findAll := goodIn_r _ [6, 1, 7, 8, 9, 10, 11, 5, 12, 13, 14, 15, 16, 17, 18, 19, 20, 21, 22, 23, 24, 25, 26, 27, 28, 29, 30, 31, 32, 33, 34, 35, 36, 37, 38, 39, 40, 41, 42, 43, 44, 45, 46, 47, 48, 49, 50, 51, 52, 53, 54, 55, 56, 57, 58, 59, 60, 61, 62, 63, 64, 65, 66, 67, 68, 69, 70, 71, 72, 73, 74, 75, 76, 77, 78, 79, 80, 81, 82, 83] rfl (by decide +kernel)
set_option maxRecDepth 20000 in
theorem gX3_worstPeriod_X3_findAll : GoodIn wsX3_worstPeriod (wsV RX3 152 RX3 yX3_findAll wsX3_findAll) := goodIn_app (goodIn_of _ (by decide +kernel)) ggX3_worstPeriod_X3_findAll
set_option maxRecDepth 20000 in
theorem ggX3_worstPair_X3_ofKind : GoodIn wsX3_worstPair wsX3_ofKind := goodIn_r _ [6, 7, 1, 8, 9, 10, 5, 11, 12, 13, 14, 15, 16, 17, 18, 19, 20, 21, 22, 23, 24, 25, 26, 27, 28, 29, 30, 31, 32, 33, 34, 35, 36, 37, 38, 39, 40, 41] rfl (by decide +kernel)
set_option maxRecDepth 20000 in
theorem gX3_worstPair_X3_ofKind : GoodIn wsX3_worstPair (wsV RX3 128 RX3 yX3_ofKind wsX3_ofKind) := goodIn_app (goodIn_of _ (by decide +kernel)) ggX3_worstPair_X3_ofKind
set_option maxRecDepth 20000 in
theorem ggX3_search_X3_firstOf : GoodIn wsX3_search wsX3_firstOf := goodIn_r _ [7, 2, 78, 79, 80, 81, 82, 83, 84, 85, 86, 87] rfl (by decide +kernel)
set_option maxRecDepth 20000 in
theorem gX3_search_X3_firstOf : GoodIn wsX3_search (wsV RX3 35 RX3 yX3_firstOf wsX3_firstOf) := goodIn_app (goodIn_of _ (by decide +kernel)) ggX3_search_X3_firstOf
set_option maxRecDepth 20000 in
theorem ggX3_search_X3_secondOf : GoodIn wsX3_search wsX3_secondOf := goodIn_r _ [11, 2, 78, 79, 80, 81, 82, 83, 84, 85, 86, 87] rfl (by decide +kernel)
set_option maxRecDepth 20000 in
theorem gX3_search_X3_secondOf : GoodIn wsX3_search (wsV RX3 39 RX3 yX3_secondOf wsX3_secondOf) := goodIn_app (goodIn_of _ (by decide +kernel)) ggX3_search_X3_secondOf
set_option maxRecDepth 20000 in
theorem ggX3_search_X3_areaOf : GoodIn wsX3_search wsX3_areaOf := goodIn_r _ [15, 3, 4, 5, 6, 7, 2, 8, 9, 10, 11, 78, 79, 80, 81, 82, 83, 84, 85, 86, 87] rfl (by decide +kernel)
set_option maxRecDepth 20000 in
theorem gX3_search_X3_areaOf : GoodIn wsX3_search (wsV RX3 49 RX3 yX3_areaOf wsX3_areaOf) := goodIn_app (goodIn_of _ (by decide +kernel)) ggX3_search_X3_areaOf
set_option maxRecDepth 20000 in
theorem ggX3_search_X3_in : GoodIn wsX3_search wsX3_in := goodIn_r _ [18] rfl (by decide +kernel)
set_option maxRecDepth 20000 in
theorem gX3_search_X3_in : GoodIn wsX3_search (va_wsS RX3 27 yX3_in wsX3_in) := goodIn_app (goodIn_of _ (by decide +kernel)) ggX3_search_X3_in
set_option maxRecDepth 20000 in
theorem ggX3_search_X3_findAll : GoodIn wsX3_search wsX3_findAll := goodIn_r _ [22, 23, 24, 2, 25, 26, 27, 6, 28, 29, 30, 31, 32, 33, 12, 13, 14, 15, 3, 4, 5, 7, 8, 9, 10, 11, 34, 35, 36, 37, 38, 39, 40, 41, 42, 43, 44, 45, 46, 47, 48, 49, 50, 51, 52, 53, 54, 55, 56, 57, 58, 16, 17, 18, 59, 60, 61, 62, 63, 64, 65, 66, 67, 68, 69, 70, 71, 72, 73, 74, 78, 79, 80, 81, 82, 83, 84, 85, 86, 87] rfl (by decide +kernel)
set_option maxRecDepth 20000 in
theorem gX3_search_X3_findAll : GoodIn wsX3_search (wsV RX3 152 RX3 yX3_findAll wsX3_findAll) := goodIn_app (goodIn_of _ (by decide +kernel)) ggX3_search_X3_findAll
set_option maxRecDepth 20000 in
theorem ggX3_search_X3_size : GoodIn wsX3_search wsX3_size := goodIn_r _ [77] rfl (by decide +kernel)
set_option maxRecDepth 20000 in
theorem gX3_search_X3_size : GoodIn wsX3_search (va_wsS RX3 159 yX3_size wsX3_size) := goodIn_app (goodIn_of _ (by decide +kernel)) ggX3_search_X3_size
set_option maxRecDepth 20000 in
theorem ggX3_isRange_X3_isPlate : GoodIn wsX3_isRange wsX3_isPlate := goodIn_r _ [5, 6, 7, 8, 4, 9, 10, 11, 12, 13, 14, 15, 16, 17, 18, 19] rfl (by decide +kernel)
set_option maxRecDepth 20000 in
theorem gX3_isRange_X3_isPlate : GoodIn wsX3_isRange (wsV RX3 31 RX3 yX3_isPlate wsX3_isPlate) := goodIn_app (goodIn_of _ (by decide +kernel)) ggX3_isRange_X3_isPlate
set_option maxRecDepth 20000 in
theorem ggX3_isRange_X3_in : GoodIn wsX3_isRange wsX3_in := goodIn_r _ [9] rfl (by decide +kernel)
set_option maxRecDepth 20000 in
theorem gX3_isRange_X3_in : GoodIn wsX3_isRange (va_wsS RX3 27 yX3_in wsX3_in) := goodIn_app (goodIn_of _ (by decide +kernel)) ggX3_isRange_X3_in
set_option maxRecDepth 20000 in
theorem ggX3_bestScreen_X3_isRange : GoodIn wsX3_bestScreen wsX3_isRange := goodIn_r _ [5, 6, 7, 8, 4, 9, 10, 11, 12, 13, 86, 87, 88, 89, 90, 91, 92, 93, 94, 95] rfl (by decide +kernel)
set_option maxRecDepth 20000 in
theorem gX3_bestScreen_X3_isRange : GoodIn wsX3_bestScreen (wsV RX3 162 RX3 yX3_isRange wsX3_isRange) := goodIn_app (goodIn_of _ (by decide +kernel)) ggX3_bestScreen_X3_isRange
set_option maxRecDepth 20000 in
theorem ggX3_bestScreen_X3_search : GoodIn wsX3_bestScreen wsX3_search := goodIn_r _ [17, 18, 10, 19, 20, 21, 4, 22, 23, 24, 25, 26, 27, 28, 29, 30, 11, 12, 13, 31, 32, 33, 34, 35, 36, 37, 38, 39, 40, 41, 42, 43, 44, 45, 46, 47, 48, 49, 50, 51, 52, 53, 54, 55, 56, 57, 58, 59, 60, 61, 62, 63, 64, 65, 66, 6, 7, 8, 9, 67, 68, 69, 70, 71, 72, 73, 74, 75, 76, 77, 78, 79, 80, 81, 82, 83, 84, 85, 86, 87, 88, 89, 90, 91, 92, 93, 94, 95] rfl (by decide +kernel)
set_option maxRecDepth 20000 in
theorem gX3_bestScreen_X3_search : GoodIn wsX3_bestScreen (wsV RX3 165 RX3 yX3_search wsX3_search) := goodIn_app (goodIn_of _ (by decide +kernel)) ggX3_bestScreen_X3_search
set_option maxRecDepth 20000 in
theorem ggX3_bandsWithBest_X3_isRange : GoodIn wsX3_bandsWithBest wsX3_isRange := goodIn_r _ [6, 7, 8, 9, 5, 10, 11, 12, 13, 14, 86, 87, 88, 89, 90, 91, 92, 93, 94, 95] rfl (by decide +kernel)
set_option maxRecDepth 20000 in
theorem gX3_bandsWithBest_X3_isRange : GoodIn wsX3_bandsWithBest (wsV RX3 162 RX3 yX3_isRange wsX3_isRange) := goodIn_app (goodIn_of _ (by decide +kernel)) ggX3_bandsWithBest_X3_isRange
set_option maxRecDepth 20000 in
theorem ggX3_bandsWithBest_X3_search : GoodIn wsX3_bandsWithBest wsX3_search := goodIn_r _ [18, 1, 11, 19, 20, 21, 5, 22, 23, 24, 25, 26, 27, 28, 29, 30, 12, 13, 14, 31, 32, 33, 34, 35, 36, 37, 38, 39, 40, 41, 42, 43, 44, 45, 46, 47, 48, 49, 50, 51, 52, 53, 54, 55, 56, 57, 58, 59, 60, 61, 62, 63, 64, 65, 66, 7, 8, 9, 10, 67, 68, 69, 70, 71, 72, 73, 74, 75, 76, 77, 78, 79, 80, 81, 82, 83, 84, 85, 86, 87, 88, 89, 90, 91, 92, 93, 94, 95] rfl (by decide +kernel)
set_option maxRecDepth 20000 in
theorem gX3_bandsWithBest_X3_search : GoodIn wsX3_bandsWithBest (wsV RX3 165 RX3 yX3_search wsX3_search) := goodIn_app (goodIn_of _ (by decide +kernel)) ggX3_bandsWithBest_X3_search
set_option maxRecDepth 20000 in
theorem ggX3_save_X3_in : GoodIn wsX3_save wsX3_in := goodIn_r _ [6] rfl (by decide +kernel)
set_option maxRecDepth 20000 in
theorem gX3_save_X3_in : GoodIn wsX3_save (va_wsS RX3 27 yX3_in wsX3_in) := goodIn_app (goodIn_of _ (by decide +kernel)) ggX3_save_X3_in
set_option maxRecDepth 20000 in
theorem ggX3_restore_X3_in : GoodIn wsX3_restore wsX3_in := goodIn_r _ [6] rfl (by decide +kernel)
set_option maxRecDepth 20000 in
theorem gX3_restore_X3_in : GoodIn wsX3_restore (va_wsS RX3 27 yX3_in wsX3_in) := goodIn_app (goodIn_of _ (by decide +kernel)) ggX3_restore_X3_in
set_option maxRecDepth 20000 in
theorem ggX3_restore_X3_records : GoodIn wsX3_restore wsX3_records := goodIn_r _ [10, 11, 12, 2, 13, 14, 15, 16, 17, 18, 19, 20, 21, 22] rfl (by decide +kernel)
set_option maxRecDepth 20000 in
theorem gX3_restore_X3_records : GoodIn wsX3_restore (wsV RX3 46 RX3 yX3_records wsX3_records) := goodIn_app (goodIn_of _ (by decide +kernel)) ggX3_restore_X3_records
abbrev vwCl : List vw_C := [(RX0, TX0, 5), (RX1, TX1, 6), (RX2, TX2, 7), (RX3, TX3, 10)]
