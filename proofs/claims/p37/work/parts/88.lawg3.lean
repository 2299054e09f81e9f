/-! the law: call words, 3 -/
set_option maxRecDepth 20000 in
theorem gc_L_law_X2_init_r1 : GoodIn wsL_law wsX2_init_r1 := goodIn_r _ [7, 8, 9, 10, 11, 12, 13, 14, 15, 16, 17, 18, 19, 20, 21, 22, 23, 24, 25, 26, 27, 28, 29, 30] rfl (by decide +kernel)
set_option maxRecDepth 20000 in
theorem gc_L_law_X2_init_r2 : GoodIn wsL_law wsX2_init_r2 := goodIn_r _ [31, 32, 33, 34, 35, 36, 37, 38, 39] rfl (by decide +kernel)
set_option maxRecDepth 20000 in
theorem gc_L_law_X10 : GoodIn wsL_law wsX10 := goodIn_r _ [387, 388, 389, 390, 391, 392] rfl (by decide +kernel)
set_option maxRecDepth 20000 in
theorem gc_L_law_X20 : GoodIn wsL_law wsX20 := goodIn_r _ [380, 381, 382, 383, 384, 385, 386] rfl (by decide +kernel)
set_option maxRecDepth 20000 in
theorem gc_L_law_X00 : GoodIn wsL_law wsX00 := goodIn_r _ [393, 394, 395, 396, 397] rfl (by decide +kernel)
set_option maxRecDepth 20000 in
theorem ggL_law_X2_init : GoodIn wsL_law wsX2_init := goodIn_cons (goodIn_r _ [6] rfl (by decide +kernel)) (goodIn_app (goodIn_app (goodIn_app (goodIn_app gc_L_law_X2_init_r1 gc_L_law_X2_init_r2) gc_L_law_X10) gc_L_law_X20) gc_L_law_X00)
set_option maxRecDepth 20000 in
theorem gL_law_X2_init : GoodIn wsL_law (wsX2_init) := ggL_law_X2_init
set_option maxRecDepth 20000 in
theorem gc_L_law_L_whole_r1 : GoodIn wsL_law wsL_whole_r1 := goodIn_r _ [44, 45, 46, 2, 47, 13, 48, 49, 50, 51, 52, 12, 53, 54, 55, 56, 57, 58, 29, 59, 60, 61, 62, 22] rfl (by decide +kernel)
set_option maxRecDepth 20000 in
theorem gc_L_law_L_whole_r2 : GoodIn wsL_law wsL_whole_r2 := goodIn_r _ [63, 21, 64, 65, 66, 67, 68, 69, 70, 71, 72, 27, 28, 73, 74, 75, 76, 77, 37, 38, 39, 78, 79, 80] rfl (by decide +kernel)
set_option maxRecDepth 20000 in
theorem gc_L_law_L_whole_r3 : GoodIn wsL_law wsL_whole_r3 := goodIn_r _ [81, 82, 83, 84, 85, 86, 87, 88, 89, 90, 91, 92, 93, 94, 95, 96, 97, 36, 98, 99, 100, 101, 102, 103] rfl (by decide +kernel)
set_option maxRecDepth 20000 in
theorem gc_L_law_L_whole_r4 : GoodIn wsL_law wsL_whole_r4 := goodIn_r _ [104, 105, 106, 107, 108, 109, 110, 111, 112, 113, 114, 115, 116, 117, 118, 119, 120, 121, 122, 123, 124, 125, 126, 127] rfl (by decide +kernel)
set_option maxRecDepth 20000 in
theorem gc_L_law_L_whole_r5 : GoodIn wsL_law wsL_whole_r5 := goodIn_r _ [128, 129, 130, 131, 132, 133, 134, 135, 136, 137, 138, 139, 140, 141, 142, 143, 144, 145, 146, 147, 148, 149, 150, 151] rfl (by decide +kernel)
set_option maxRecDepth 20000 in
theorem gc_L_law_L_whole_r6 : GoodIn wsL_law wsL_whole_r6 := goodIn_r _ [152, 153, 154, 155, 156, 157, 158, 159, 160, 161, 162, 163, 164, 165, 166, 167, 168, 169, 170, 171, 172, 173, 174, 175] rfl (by decide +kernel)
set_option maxRecDepth 20000 in
theorem gc_L_law_L_whole_r7 : GoodIn wsL_law wsL_whole_r7 := goodIn_r _ [176, 177, 178, 179, 180, 181, 182, 183, 184, 185, 186, 187, 188, 189, 190, 191, 192, 193, 194, 195, 196, 197, 198, 199] rfl (by decide +kernel)
set_option maxRecDepth 20000 in
theorem gc_L_law_L_whole_r8 : GoodIn wsL_law wsL_whole_r8 := goodIn_r _ [200, 201, 202, 203] rfl (by decide +kernel)
set_option maxRecDepth 20000 in
theorem ggL_law_L_whole : GoodIn wsL_law wsL_whole := goodIn_cons (goodIn_r _ [43] rfl (by decide +kernel)) (goodIn_app (goodIn_app (goodIn_app (goodIn_app gc_L_law_L_whole_r1 (goodIn_app gc_L_law_L_whole_r2 (goodIn_app gc_L_law_L_whole_r3 (goodIn_app gc_L_law_L_whole_r4 (goodIn_app gc_L_law_L_whole_r5 (goodIn_app gc_L_law_L_whole_r6 (goodIn_app gc_L_law_L_whole_r7 gc_L_law_L_whole_r8))))))) gc_L_law_X20) gc_L_law_X10) gc_L_law_X00)
set_option maxRecDepth 20000 in
theorem gL_law_L_whole : GoodIn wsL_law (va_wsS RL 132 yL_whole wsL_whole) := goodIn_app (goodIn_of _ (by decide +kernel)) ggL_law_L_whole
set_option maxRecDepth 20000 in
theorem ggL_law_X2_undo : GoodIn wsL_law wsX2_undo := goodIn_r _ [207, 208, 15, 13, 209, 210, 2, 211, 380, 381, 382, 383, 384, 385, 386, 387, 388, 389, 390, 391, 392] rfl (by decide +kernel)
set_option maxRecDepth 20000 in
theorem gL_law_X2_undo : GoodIn wsL_law (wsV RL 106 RX2 yX2_undo wsX2_undo) := goodIn_app (goodIn_of _ (by decide +kernel)) ggL_law_X2_undo
set_option maxRecDepth 20000 in
theorem ggL_law_X2_restore : GoodIn wsL_law wsX2_restore := goodIn_cons (goodIn_r _ [215] rfl (by decide +kernel)) (goodIn_app (goodIn_app (goodIn_r _ [18, 16, 13, 216, 217, 2, 218, 219, 220, 221, 222, 208, 15, 223, 224, 225, 226, 209, 210, 211] rfl (by decide +kernel)) gc_L_law_X20) gc_L_law_X10)
set_option maxRecDepth 20000 in
theorem gL_law_X2_restore : GoodIn wsL_law (wsV RL 124 RX2 yX2_restore wsX2_restore) := goodIn_app (goodIn_of _ (by decide +kernel)) ggL_law_X2_restore
set_option maxRecDepth 20000 in
theorem ggL_law_L_lot : GoodIn wsL_law wsL_lot := goodIn_r _ [229, 230] rfl (by decide +kernel)
set_option maxRecDepth 20000 in
theorem gL_law_L_lot : GoodIn wsL_law (va_wsS RL 136 yL_lot wsL_lot) := goodIn_app (goodIn_of _ (by decide +kernel)) ggL_law_L_lot
set_option maxRecDepth 20000 in
theorem gc_L_law_L_acts_r1 : GoodIn wsL_law wsL_acts_r1 := goodIn_r _ [234, 235, 42, 236, 237, 44, 45, 46, 2, 47, 13, 238, 239, 240, 241, 208, 242, 243, 244, 245, 246, 247, 248, 219] rfl (by decide +kernel)
set_option maxRecDepth 20000 in
theorem gc_L_law_L_acts_r2 : GoodIn wsL_law wsL_acts_r2 := goodIn_r _ [220, 221, 222, 15, 223, 224, 225, 226, 209, 210, 211, 249, 12, 250, 251, 29, 252, 253, 254, 255, 27, 28, 55, 56] rfl (by decide +kernel)
set_option maxRecDepth 20000 in
theorem gc_L_law_L_acts_r3 : GoodIn wsL_law wsL_acts_r3 := goodIn_r _ [57, 58, 146, 147, 148, 149, 84, 85, 86, 150, 151, 152, 153, 87, 88, 89, 142, 143, 144, 145, 70, 71, 72, 256] rfl (by decide +kernel)
set_option maxRecDepth 20000 in
theorem gc_L_law_L_acts_r4 : GoodIn wsL_law wsL_acts_r4 := goodIn_r _ [257, 258, 259, 260, 261, 262, 263, 264, 265, 266, 267, 268, 188, 189, 190, 191, 192, 193, 194, 195, 162, 22, 167, 168] rfl (by decide +kernel)
set_option maxRecDepth 20000 in
theorem gc_L_law_L_acts_r5 : GoodIn wsL_law wsL_acts_r5 := goodIn_r _ [169, 170, 21, 171, 172, 173, 174, 175, 176, 109, 110, 111, 73, 74, 75, 76, 77, 37, 38, 39, 78, 79, 112, 113] rfl (by decide +kernel)
set_option maxRecDepth 20000 in
theorem gc_L_law_L_acts_r6 : GoodIn wsL_law wsL_acts_r6 := goodIn_r _ [114, 115, 116, 117, 94, 95, 96, 97, 36, 177, 63, 64, 65, 66, 67, 68, 69, 80, 81, 82, 83, 90, 91, 92] rfl (by decide +kernel)
set_option maxRecDepth 20000 in
theorem gc_L_law_L_acts_r7 : GoodIn wsL_law wsL_acts_r7 := goodIn_r _ [93, 98, 99, 100, 101, 102, 103, 104, 200, 201, 202, 203, 269, 270, 271, 272, 16, 18, 216, 217, 218, 273, 274, 275] rfl (by decide +kernel)
set_option maxRecDepth 20000 in
theorem gc_L_law_L_acts_r8 : GoodIn wsL_law wsL_acts_r8 := goodIn_r _ [276, 212, 213, 214, 215, 204, 205, 206, 207, 277, 278, 279, 280, 281, 282, 283, 284, 285, 286, 287, 14, 288, 289, 290] rfl (by decide +kernel)
set_option maxRecDepth 20000 in
theorem gc_L_law_L_acts_r9 : GoodIn wsL_law wsL_acts_r9 := goodIn_r _ [291, 292, 293, 294, 295, 296, 297, 298] rfl (by decide +kernel)
set_option maxRecDepth 20000 in
theorem ggL_law_L_acts : GoodIn wsL_law wsL_acts := goodIn_cons (goodIn_r _ [233] rfl (by decide +kernel)) (goodIn_app (goodIn_app (goodIn_app (goodIn_app gc_L_law_L_acts_r1 (goodIn_app gc_L_law_L_acts_r2 (goodIn_app gc_L_law_L_acts_r3 (goodIn_app gc_L_law_L_acts_r4 (goodIn_app gc_L_law_L_acts_r5 (goodIn_app gc_L_law_L_acts_r6 (goodIn_app gc_L_law_L_acts_r7 (goodIn_app gc_L_law_L_acts_r8 gc_L_law_L_acts_r9)))))))) gc_L_law_X20) gc_L_law_X10) gc_L_law_X00)
set_option maxRecDepth 20000 in
theorem gL_law_L_acts : GoodIn wsL_law (va_wsS RL 141 yL_acts wsL_acts) := goodIn_app (goodIn_of _ (by decide +kernel)) ggL_law_L_acts
set_option maxRecDepth 20000 in
theorem ggL_law_L_low : GoodIn wsL_law wsL_low := goodIn_r _ [236, 237] rfl (by decide +kernel)
set_option maxRecDepth 20000 in
theorem gL_law_L_low : GoodIn wsL_law (va_wsS RL 83 yL_low wsL_low) := goodIn_app (goodIn_of _ (by decide +kernel)) ggL_law_L_low
set_option maxRecDepth 20000 in
theorem ggL_law_X2_plateCount : GoodIn wsL_law wsX2_plateCount := goodIn_r _ [47, 13, 380, 381, 382, 383, 384, 385, 386, 387, 388, 389, 390, 391, 392] rfl (by decide +kernel)
set_option maxRecDepth 20000 in
theorem gL_law_X2_plateCount : GoodIn wsL_law (wsV RL 45 RX2 yX2_plateCount wsX2_plateCount) := goodIn_app (goodIn_of _ (by decide +kernel)) ggL_law_X2_plateCount
set_option maxRecDepth 20000 in
theorem gc_L_law_L_turned_r1 : GoodIn wsL_law wsL_turned_r1 := goodIn_r _ [302, 234, 235, 42, 236, 237, 303, 304, 305, 2, 306, 307, 22, 13, 308, 309, 310, 311, 52, 12, 53, 54, 55, 56] rfl (by decide +kernel)
set_option maxRecDepth 20000 in
theorem gc_L_law_L_turned_r2 : GoodIn wsL_law wsL_turned_r2 := goodIn_r _ [57, 58, 29, 312, 313, 314, 30, 67, 21, 68, 69, 70, 71, 72, 27, 28, 73, 74, 75, 76, 77, 37, 38, 39] rfl (by decide +kernel)
set_option maxRecDepth 20000 in
theorem gc_L_law_L_turned_r3 : GoodIn wsL_law wsL_turned_r3 := goodIn_r _ [78, 79, 315, 316, 317, 267, 84, 85, 86, 268, 87, 88, 89, 90, 91, 92, 93, 318, 319, 320, 135, 136, 321, 322] rfl (by decide +kernel)
set_option maxRecDepth 20000 in
theorem gc_L_law_L_turned_r4 : GoodIn wsL_law wsL_turned_r4 := goodIn_r _ [323, 324, 325, 326, 327, 328, 329, 330, 331, 102, 103, 104] rfl (by decide +kernel)
set_option maxRecDepth 20000 in
theorem ggL_law_L_turned : GoodIn wsL_law wsL_turned := goodIn_cons (goodIn_r _ [301] rfl (by decide +kernel)) (goodIn_app (goodIn_app (goodIn_app (goodIn_app gc_L_law_L_turned_r1 (goodIn_app gc_L_law_L_turned_r2 (goodIn_app gc_L_law_L_turned_r3 gc_L_law_L_turned_r4))) gc_L_law_X20) gc_L_law_X10) gc_L_law_X00)
set_option maxRecDepth 20000 in
theorem gL_law_L_turned : GoodIn wsL_law (va_wsS RL 144 yL_turned wsL_turned) := goodIn_app (goodIn_of _ (by decide +kernel)) ggL_law_L_turned
set_option maxRecDepth 20000 in
theorem gc_L_law_L_pair_r1 : GoodIn wsL_law wsL_pair_r1 := goodIn_r _ [302, 335, 336, 337, 338, 2, 339, 13, 22, 52, 12, 53, 54, 55, 56, 57, 58, 29, 63, 21, 64, 65, 66, 67] rfl (by decide +kernel)
set_option maxRecDepth 20000 in
theorem gc_L_law_L_pair_r2 : GoodIn wsL_law wsL_pair_r2 := goodIn_r _ [68, 69, 70, 71, 72, 27, 28, 73, 74, 75, 76, 77, 37, 38, 39, 78, 79, 80, 81, 82, 83, 84, 85, 86] rfl (by decide +kernel)
set_option maxRecDepth 20000 in
theorem gc_L_law_L_pair_r3 : GoodIn wsL_law wsL_pair_r3 := goodIn_r _ [87, 88, 89, 90, 91, 92, 93, 94, 95, 96, 97, 36, 340, 341, 342, 343, 344, 345, 142, 143, 144, 145, 346, 347] rfl (by decide +kernel)
set_option maxRecDepth 20000 in
theorem gc_L_law_L_pair_r4 : GoodIn wsL_law wsL_pair_r4 := goodIn_r _ [348, 349, 350, 351, 352, 353, 354, 355, 356, 318, 319, 320, 135, 136, 357, 358, 359, 360, 325, 326, 327, 361, 362, 363] rfl (by decide +kernel)
set_option maxRecDepth 20000 in
theorem gc_L_law_L_pair_r5 : GoodIn wsL_law wsL_pair_r5 := goodIn_r _ [364, 182, 183, 184, 185, 186, 365, 366, 367, 368, 369, 370, 371, 372, 373, 374, 375, 48, 49, 50, 51, 59, 60, 61] rfl (by decide +kernel)
set_option maxRecDepth 20000 in
theorem gc_L_law_L_pair_r6 : GoodIn wsL_law wsL_pair_r6 := goodIn_r _ [62, 98, 99, 100, 101, 102, 103, 104] rfl (by decide +kernel)
set_option maxRecDepth 20000 in
theorem ggL_law_L_pair : GoodIn wsL_law wsL_pair := goodIn_cons (goodIn_r _ [334] rfl (by decide +kernel)) (goodIn_app (goodIn_app (goodIn_app (goodIn_app gc_L_law_L_pair_r1 (goodIn_app gc_L_law_L_pair_r2 (goodIn_app gc_L_law_L_pair_r3 (goodIn_app gc_L_law_L_pair_r4 (goodIn_app gc_L_law_L_pair_r5 gc_L_law_L_pair_r6))))) gc_L_law_X20) gc_L_law_X10) gc_L_law_X00)
set_option maxRecDepth 20000 in
theorem gL_law_L_pair : GoodIn wsL_law (va_wsS RL 148 yL_pair wsL_pair) := goodIn_app (goodIn_of _ (by decide +kernel)) ggL_law_L_pair
set_option maxRecDepth 20000 in
theorem ggL_law_X2_setOrder : GoodIn wsL_law wsX2_setOrder := goodIn_cons (goodIn_r _ [379] rfl (by decide +kernel)) (goodIn_app (goodIn_app (goodIn_r _ [13, 219, 220, 221, 2, 222, 208, 15, 223, 224, 225, 226, 209, 210, 211] rfl (by decide +kernel)) gc_L_law_X20) gc_L_law_X10)
set_option maxRecDepth 20000 in
theorem gL_law_X2_setOrder : GoodIn wsL_law (wsV RL 152 RX2 yX2_setOrder wsX2_setOrder) := goodIn_app (goodIn_of _ (by decide +kernel)) ggL_law_X2_setOrder
