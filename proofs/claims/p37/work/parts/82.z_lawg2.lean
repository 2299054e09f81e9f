/-! the law: call words, 2 -/
set_option maxRecDepth 20000 in
theorem gc_L_searches_X2_allBands_r1 : GoodIn wsL_searches wsX2_allBands_r1 := goodIn_r _ [6, 7, 8, 9, 4, 10, 11, 12, 13, 14, 15, 16, 17, 18, 19, 20, 21, 22, 23, 24, 25, 26, 27, 28] rfl (by decide +kernel)
set_option maxRecDepth 20000 in
theorem gc_L_searches_X2_allBands_r2 : GoodIn wsL_searches wsX2_allBands_r2 := goodIn_r _ [29, 30, 31, 32, 33, 34, 35, 36, 37, 38, 39, 40, 41, 42, 43, 44, 45, 46, 47, 48, 49, 50, 51, 52] rfl (by decide +kernel)
set_option maxRecDepth 20000 in
theorem gc_L_searches_X2_allBands_r3 : GoodIn wsL_searches wsX2_allBands_r3 := goodIn_r _ [53, 54, 55, 56, 57, 58, 59, 60, 61, 62, 63, 64, 65, 66, 67, 68, 69, 70, 71, 72, 73, 74, 75, 76] rfl (by decide +kernel)
set_option maxRecDepth 20000 in
theorem gc_L_searches_X2_allBands_r4 : GoodIn wsL_searches wsX2_allBands_r4 := goodIn_r _ [77, 78, 79, 80, 81, 82, 83, 84, 85, 86, 87] rfl (by decide +kernel)
set_option maxRecDepth 20000 in
theorem gc_L_searches_X20 : GoodIn wsL_searches wsX20 := goodIn_r _ [144, 145, 146, 147, 148, 149, 150] rfl (by decide +kernel)
set_option maxRecDepth 20000 in
theorem gc_L_searches_X10 : GoodIn wsL_searches wsX10 := goodIn_r _ [151, 152, 153, 154, 155, 156] rfl (by decide +kernel)
set_option maxRecDepth 20000 in
theorem gc_L_searches_X00 : GoodIn wsL_searches wsX00 := goodIn_r _ [157, 158, 159, 160, 161] rfl (by decide +kernel)
set_option maxRecDepth 20000 in
theorem ggL_searches_X2_allBands : GoodIn wsL_searches wsX2_allBands := goodIn_cons (goodIn_r _ [5] rfl (by decide +kernel)) (goodIn_app (goodIn_app (goodIn_app (goodIn_app gc_L_searches_X2_allBands_r1 (goodIn_app gc_L_searches_X2_allBands_r2 (goodIn_app gc_L_searches_X2_allBands_r3 gc_L_searches_X2_allBands_r4))) gc_L_searches_X20) gc_L_searches_X10) gc_L_searches_X00)
set_option maxRecDepth 20000 in
theorem gL_searches_X2_allBands : GoodIn wsL_searches (wsV RL 74 RX2 yX2_allBands wsX2_allBands) := goodIn_app (goodIn_of _ (by decide +kernel)) ggL_searches_X2_allBands
set_option maxRecDepth 20000 in
theorem ggL_searches_X2_cellArea : GoodIn wsL_searches wsX2_cellArea := goodIn_cons (goodIn_r _ [91] rfl (by decide +kernel)) (goodIn_app (goodIn_app (goodIn_r _ [6, 35, 14, 36, 37, 17, 29, 30, 31, 32, 33, 34] rfl (by decide +kernel)) gc_L_searches_X20) gc_L_searches_X10)
set_option maxRecDepth 20000 in
theorem gL_searches_X2_cellArea : GoodIn wsL_searches (wsV RL 15 RX2 yX2_cellArea wsX2_cellArea) := goodIn_app (goodIn_of _ (by decide +kernel)) ggL_searches_X2_cellArea
set_option maxRecDepth 20000 in
theorem ggL_searches_L_low : GoodIn wsL_searches wsL_low := goodIn_r _ [95, 96] rfl (by decide +kernel)
set_option maxRecDepth 20000 in
theorem gL_searches_L_low : GoodIn wsL_searches (va_wsS RL 83 yL_low wsL_low) := goodIn_app (goodIn_of _ (by decide +kernel)) ggL_searches_L_low
set_option maxRecDepth 20000 in
theorem gc_L_searches_X2_bestScreen_r1 : GoodIn wsL_searches wsX2_bestScreen_r1 := goodIn_r _ [6, 35, 14, 36, 37, 17, 101, 102, 4, 103, 104, 105, 106, 107, 108, 109, 110, 111, 112, 113, 114, 115, 116, 117] rfl (by decide +kernel)
set_option maxRecDepth 20000 in
theorem gc_L_searches_X2_bestScreen_r2 : GoodIn wsL_searches wsX2_bestScreen_r2 := goodIn_r _ [118, 32, 33, 34, 7, 8, 9, 10, 11, 12, 13, 15, 16, 18, 19, 20, 21, 22, 23, 24, 25, 26, 27, 28] rfl (by decide +kernel)
set_option maxRecDepth 20000 in
theorem gc_L_searches_X2_bestScreen_r3 : GoodIn wsL_searches wsX2_bestScreen_r3 := goodIn_r _ [29, 30, 31, 38, 39, 40, 41, 42, 43, 44, 45, 46, 47, 48, 49, 50, 51, 52, 53, 54, 55, 56, 57, 58] rfl (by decide +kernel)
set_option maxRecDepth 20000 in
theorem gc_L_searches_X2_bestScreen_r4 : GoodIn wsL_searches wsX2_bestScreen_r4 := goodIn_r _ [59, 60, 61, 62, 63, 64, 65, 66, 67, 68, 69, 70, 71, 72, 73, 74, 75, 76, 77, 78, 79, 80, 81, 82] rfl (by decide +kernel)
set_option maxRecDepth 20000 in
theorem gc_L_searches_X2_bestScreen_r5 : GoodIn wsL_searches wsX2_bestScreen_r5 := goodIn_r _ [83, 84, 85, 86, 87] rfl (by decide +kernel)
set_option maxRecDepth 20000 in
theorem ggL_searches_X2_bestScreen : GoodIn wsL_searches wsX2_bestScreen := goodIn_cons (goodIn_r _ [100] rfl (by decide +kernel)) (goodIn_app (goodIn_app (goodIn_app (goodIn_app gc_L_searches_X2_bestScreen_r1 (goodIn_app gc_L_searches_X2_bestScreen_r2 (goodIn_app gc_L_searches_X2_bestScreen_r3 (goodIn_app gc_L_searches_X2_bestScreen_r4 gc_L_searches_X2_bestScreen_r5)))) gc_L_searches_X20) gc_L_searches_X10) gc_L_searches_X00)
set_option maxRecDepth 20000 in
theorem gL_searches_X2_bestScreen : GoodIn wsL_searches (wsV RL 97 RX2 yX2_bestScreen wsX2_bestScreen) := goodIn_app (goodIn_of _ (by decide +kernel)) ggL_searches_X2_bestScreen
set_option maxRecDepth 20000 in
theorem gc_L_searches_X2_bandsWithBest_r1 : GoodIn wsL_searches wsX2_bandsWithBest_r1 := goodIn_r _ [6, 108, 35, 14, 36, 37, 17, 101, 102, 4, 103, 104, 105, 106, 107, 109, 110, 111, 112, 113, 114, 115, 116, 117] rfl (by decide +kernel)
set_option maxRecDepth 20000 in
theorem gc_L_searches_X2_bandsWithBest_r2 : GoodIn wsL_searches wsX2_bandsWithBest_r2 := goodIn_r _ [118, 32, 33, 34, 7, 8, 9, 10, 11, 12, 13, 15, 16, 18, 19, 20, 21, 22, 23, 24, 25, 26, 27, 28] rfl (by decide +kernel)
set_option maxRecDepth 20000 in
theorem gc_L_searches_X2_bandsWithBest_r3 : GoodIn wsL_searches wsX2_bandsWithBest_r3 := goodIn_r _ [29, 30, 31, 38, 39, 40, 41, 42, 43, 44, 45, 46, 47, 48, 49, 50, 51, 52, 53, 54, 55, 56, 57, 58] rfl (by decide +kernel)
set_option maxRecDepth 20000 in
theorem gc_L_searches_X2_bandsWithBest_r4 : GoodIn wsL_searches wsX2_bandsWithBest_r4 := goodIn_r _ [59, 60, 61, 62, 63, 64, 65, 66, 67, 68, 69, 70, 71, 72, 73, 74, 75, 76, 77, 78, 79, 80, 81, 82] rfl (by decide +kernel)
set_option maxRecDepth 20000 in
theorem gc_L_searches_X2_bandsWithBest_r5 : GoodIn wsL_searches wsX2_bandsWithBest_r5 := goodIn_r _ [83, 84, 85, 86, 87] rfl (by decide +kernel)
set_option maxRecDepth 20000 in
theorem ggL_searches_X2_bandsWithBest : GoodIn wsL_searches wsX2_bandsWithBest := goodIn_cons (goodIn_r _ [122] rfl (by decide +kernel)) (goodIn_app (goodIn_app (goodIn_app (goodIn_app gc_L_searches_X2_bandsWithBest_r1 (goodIn_app gc_L_searches_X2_bandsWithBest_r2 (goodIn_app gc_L_searches_X2_bandsWithBest_r3 (goodIn_app gc_L_searches_X2_bandsWithBest_r4 gc_L_searches_X2_bandsWithBest_r5)))) gc_L_searches_X20) gc_L_searches_X10) gc_L_searches_X00)
set_option maxRecDepth 20000 in
theorem gL_searches_X2_bandsWithBest : GoodIn wsL_searches (wsV RL 100 RX2 yX2_bandsWithBest wsX2_bandsWithBest) := goodIn_app (goodIn_of _ (by decide +kernel)) ggL_searches_X2_bandsWithBest
set_option maxRecDepth 20000 in
theorem gc_L_searches_X2_setScreen_r1 : GoodIn wsL_searches wsX2_setScreen_r1 := goodIn_r _ [6, 35, 14, 36, 37, 17, 127, 128, 4, 129, 130, 131, 132, 133, 134, 135, 136, 137, 138, 139, 113, 114, 115, 29] rfl (by decide +kernel)
set_option maxRecDepth 20000 in
theorem gc_L_searches_X2_setScreen_r2 : GoodIn wsL_searches wsX2_setScreen_r2 := goodIn_r _ [30, 31, 32, 33, 34, 116, 117, 118] rfl (by decide +kernel)
set_option maxRecDepth 20000 in
theorem ggL_searches_X2_setScreen : GoodIn wsL_searches wsX2_setScreen := goodIn_cons (goodIn_r _ [126] rfl (by decide +kernel)) (goodIn_app (goodIn_app (goodIn_app gc_L_searches_X2_setScreen_r1 gc_L_searches_X2_setScreen_r2) gc_L_searches_X20) gc_L_searches_X10)
set_option maxRecDepth 20000 in
theorem gL_searches_X2_setScreen : GoodIn wsL_searches (wsV RL 103 RX2 yX2_setScreen wsX2_setScreen) := goodIn_app (goodIn_of _ (by decide +kernel)) ggL_searches_X2_setScreen
set_option maxRecDepth 20000 in
theorem ggL_searches_X2_undo : GoodIn wsL_searches wsX2_undo := goodIn_r _ [143, 134, 135, 6, 113, 114, 4, 115, 144, 145, 146, 147, 148, 149, 150, 151, 152, 153, 154, 155, 156] rfl (by decide +kernel)
set_option maxRecDepth 20000 in
theorem gL_searches_X2_undo : GoodIn wsL_searches (wsV RL 106 RX2 yX2_undo wsX2_undo) := goodIn_app (goodIn_of _ (by decide +kernel)) ggL_searches_X2_undo
set_option maxRecDepth 20000 in
theorem ggL_acts_L_low : GoodIn wsL_acts wsL_low := goodIn_r _ [4, 5] rfl (by decide +kernel)
set_option maxRecDepth 20000 in
theorem gL_acts_L_low : GoodIn wsL_acts (va_wsS RL 83 yL_low wsL_low) := goodIn_app (goodIn_of _ (by decide +kernel)) ggL_acts_L_low
set_option maxRecDepth 20000 in
theorem ggL_acts_X2_plateCount : GoodIn wsL_acts wsX2_plateCount := goodIn_r _ [10, 11, 201, 202, 203, 204, 205, 206, 207, 208, 209, 210, 211, 212, 213] rfl (by decide +kernel)
set_option maxRecDepth 20000 in
theorem gL_acts_X2_plateCount : GoodIn wsL_acts (wsV RL 45 RX2 yX2_plateCount wsX2_plateCount) := goodIn_app (goodIn_of _ (by decide +kernel)) ggL_acts_X2_plateCount
set_option maxRecDepth 20000 in
theorem ggL_acts_X2_historySize : GoodIn wsL_acts wsX2_historySize := goodIn_r _ [15, 16, 201, 202, 203, 204, 205, 206, 207] rfl (by decide +kernel)
set_option maxRecDepth 20000 in
theorem gL_acts_X2_historySize : GoodIn wsL_acts (wsV RL 109 RX2 yX2_historySize wsX2_historySize) := goodIn_app (goodIn_of _ (by decide +kernel)) ggL_acts_X2_historySize
set_option maxRecDepth 20000 in
theorem gc_L_acts_X2_addPlate_r1 : GoodIn wsL_acts wsX2_addPlate_r1 := goodIn_r _ [11, 21, 22, 9, 23, 24, 25, 26, 27, 16, 28, 29, 30, 31, 32, 33, 34, 35, 36, 37, 38, 39, 40, 41] rfl (by decide +kernel)
set_option maxRecDepth 20000 in
theorem gc_L_acts_X2_addPlate_r2 : GoodIn wsL_acts wsX2_addPlate_r2 := goodIn_r _ [42, 43, 44, 45, 46, 47, 48, 49, 50] rfl (by decide +kernel)
set_option maxRecDepth 20000 in
theorem gc_L_acts_X20 : GoodIn wsL_acts wsX20 := goodIn_r _ [201, 202, 203, 204, 205, 206, 207] rfl (by decide +kernel)
set_option maxRecDepth 20000 in
theorem gc_L_acts_X10 : GoodIn wsL_acts wsX10 := goodIn_r _ [208, 209, 210, 211, 212, 213] rfl (by decide +kernel)
set_option maxRecDepth 20000 in
theorem ggL_acts_X2_addPlate : GoodIn wsL_acts wsX2_addPlate := goodIn_cons (goodIn_r _ [20] rfl (by decide +kernel)) (goodIn_app (goodIn_app (goodIn_app gc_L_acts_X2_addPlate_r1 gc_L_acts_X2_addPlate_r2) gc_L_acts_X20) gc_L_acts_X10)
set_option maxRecDepth 20000 in
theorem gL_acts_X2_addPlate : GoodIn wsL_acts (wsV RL 112 RX2 yX2_addPlate wsX2_addPlate) := goodIn_app (goodIn_of _ (by decide +kernel)) ggL_acts_X2_addPlate
set_option maxRecDepth 20000 in
theorem ggL_acts_X2_cellP : GoodIn wsL_acts wsX2_cellP := goodIn_cons (goodIn_r _ [54] rfl (by decide +kernel)) (goodIn_app (goodIn_app (goodIn_r _ [11, 48, 37, 49, 50, 40, 55, 56, 57, 45, 47] rfl (by decide +kernel)) gc_L_acts_X20) gc_L_acts_X10)
set_option maxRecDepth 20000 in
theorem gL_acts_X2_cellP : GoodIn wsL_acts (wsV RL 62 RX2 yX2_cellP wsX2_cellP) := goodIn_app (goodIn_of _ (by decide +kernel)) ggL_acts_X2_cellP
set_option maxRecDepth 20000 in
theorem ggL_acts_X2_cellQ : GoodIn wsL_acts wsX2_cellQ := goodIn_cons (goodIn_r _ [61] rfl (by decide +kernel)) (goodIn_app (goodIn_app (goodIn_r _ [11, 48, 37, 49, 50, 40, 62, 63, 64, 46, 47] rfl (by decide +kernel)) gc_L_acts_X20) gc_L_acts_X10)
set_option maxRecDepth 20000 in
theorem gL_acts_X2_cellQ : GoodIn wsL_acts (wsV RL 65 RX2 yX2_cellQ wsX2_cellQ) := goodIn_app (goodIn_of _ (by decide +kernel)) ggL_acts_X2_cellQ
set_option maxRecDepth 20000 in
theorem ggL_acts_X2_cellArea : GoodIn wsL_acts wsX2_cellArea := goodIn_cons (goodIn_r _ [68] rfl (by decide +kernel)) (goodIn_app (goodIn_app (goodIn_r _ [11, 48, 37, 49, 50, 40, 69, 70, 71, 45, 46, 47] rfl (by decide +kernel)) gc_L_acts_X20) gc_L_acts_X10)
set_option maxRecDepth 20000 in
theorem gL_acts_X2_cellArea : GoodIn wsL_acts (wsV RL 15 RX2 yX2_cellArea wsX2_cellArea) := goodIn_app (goodIn_of _ (by decide +kernel)) ggL_acts_X2_cellArea
set_option maxRecDepth 20000 in
theorem gc_L_acts_X2_setScreen_r1 : GoodIn wsL_acts wsX2_setScreen_r1 := goodIn_r _ [11, 48, 37, 49, 50, 40, 21, 22, 9, 23, 24, 25, 26, 27, 16, 28, 29, 30, 31, 32, 33, 34, 35, 69] rfl (by decide +kernel)
set_option maxRecDepth 20000 in
theorem gc_L_acts_X2_setScreen_r2 : GoodIn wsL_acts wsX2_setScreen_r2 := goodIn_r _ [70, 71, 45, 46, 47, 42, 43, 44] rfl (by decide +kernel)
set_option maxRecDepth 20000 in
theorem ggL_acts_X2_setScreen : GoodIn wsL_acts wsX2_setScreen := goodIn_cons (goodIn_r _ [75] rfl (by decide +kernel)) (goodIn_app (goodIn_app (goodIn_app gc_L_acts_X2_setScreen_r1 gc_L_acts_X2_setScreen_r2) gc_L_acts_X20) gc_L_acts_X10)
set_option maxRecDepth 20000 in
theorem gL_acts_X2_setScreen : GoodIn wsL_acts (wsV RL 103 RX2 yX2_setScreen wsX2_setScreen) := goodIn_app (goodIn_of _ (by decide +kernel)) ggL_acts_X2_setScreen
set_option maxRecDepth 20000 in
theorem gc_L_acts_X2_removePlate_r1 : GoodIn wsL_acts wsX2_removePlate_r1 := goodIn_r _ [11, 48, 37, 49, 50, 40, 24, 25, 26, 9, 27, 16, 28, 29, 30, 31, 32, 33, 34, 35, 80, 81, 82, 47] rfl (by decide +kernel)
set_option maxRecDepth 20000 in
theorem gc_L_acts_X2_removePlate_r2 : GoodIn wsL_acts wsX2_removePlate_r2 := goodIn_r _ [83, 55, 56, 57, 45, 84, 62, 63, 64, 46, 41, 42, 43, 44] rfl (by decide +kernel)
set_option maxRecDepth 20000 in
theorem ggL_acts_X2_removePlate : GoodIn wsL_acts wsX2_removePlate := goodIn_cons (goodIn_r _ [79] rfl (by decide +kernel)) (goodIn_app (goodIn_app (goodIn_app gc_L_acts_X2_removePlate_r1 gc_L_acts_X2_removePlate_r2) gc_L_acts_X20) gc_L_acts_X10)
set_option maxRecDepth 20000 in
theorem gL_acts_X2_removePlate : GoodIn wsL_acts (wsV RL 115 RX2 yX2_removePlate wsX2_removePlate) := goodIn_app (goodIn_of _ (by decide +kernel)) ggL_acts_X2_removePlate
set_option maxRecDepth 20000 in
theorem gc_L_acts_X2_allBands_r1 : GoodIn wsL_acts wsX2_allBands_r1 := goodIn_r _ [11, 89, 90, 91, 9, 92, 93, 94, 95, 37, 96, 97, 40, 98, 99, 100, 101, 102, 103, 104, 105, 106, 107, 108] rfl (by decide +kernel)
set_option maxRecDepth 20000 in
theorem gc_L_acts_X2_allBands_r2 : GoodIn wsL_acts wsX2_allBands_r2 := goodIn_r _ [69, 70, 71, 45, 46, 47, 48, 49, 50, 109, 110, 111, 112, 113, 114, 115, 116, 117, 118, 119, 120, 121, 55, 56] rfl (by decide +kernel)
set_option maxRecDepth 20000 in
theorem gc_L_acts_X2_allBands_r3 : GoodIn wsL_acts wsX2_allBands_r3 := goodIn_r _ [57, 62, 63, 64, 122, 123, 124, 125, 126, 127, 128, 129, 130, 131, 132, 133, 134, 135, 136, 137, 138, 139, 140, 141] rfl (by decide +kernel)
set_option maxRecDepth 20000 in
theorem gc_L_acts_X2_allBands_r4 : GoodIn wsL_acts wsX2_allBands_r4 := goodIn_r _ [142, 143, 144, 145, 146, 147, 148, 149, 150, 151, 152] rfl (by decide +kernel)
set_option maxRecDepth 20000 in
theorem gc_L_acts_X00 : GoodIn wsL_acts wsX00 := goodIn_r _ [214, 215, 216, 217, 218] rfl (by decide +kernel)
set_option maxRecDepth 20000 in
theorem ggL_acts_X2_allBands : GoodIn wsL_acts wsX2_allBands := goodIn_cons (goodIn_r _ [88] rfl (by decide +kernel)) (goodIn_app (goodIn_app (goodIn_app (goodIn_app gc_L_acts_X2_allBands_r1 (goodIn_app gc_L_acts_X2_allBands_r2 (goodIn_app gc_L_acts_X2_allBands_r3 gc_L_acts_X2_allBands_r4))) gc_L_acts_X20) gc_L_acts_X10) gc_L_acts_X00)
set_option maxRecDepth 20000 in
theorem gL_acts_X2_allBands : GoodIn wsL_acts (wsV RL 74 RX2 yX2_allBands wsX2_allBands) := goodIn_app (goodIn_of _ (by decide +kernel)) ggL_acts_X2_allBands
set_option maxRecDepth 20000 in
theorem ggL_acts_X2_longLimit : GoodIn wsL_acts wsX2_longLimit := goodIn_r _ [156, 11, 201, 202, 203, 204, 205, 206, 207, 208, 209, 210, 211, 212, 213] rfl (by decide +kernel)
set_option maxRecDepth 20000 in
theorem gL_acts_X2_longLimit : GoodIn wsL_acts (wsV RL 80 RX2 yX2_longLimit wsX2_longLimit) := goodIn_app (goodIn_of _ (by decide +kernel)) ggL_acts_X2_longLimit
set_option maxRecDepth 20000 in
theorem ggL_acts_X2_save : GoodIn wsL_acts wsX2_save := goodIn_r _ [160, 11, 161, 162, 163, 164, 9, 165, 33, 34, 35, 201, 202, 203, 204, 205, 206, 207, 208, 209, 210, 211, 212, 213] rfl (by decide +kernel)
set_option maxRecDepth 20000 in
theorem gL_acts_X2_save : GoodIn wsL_acts (wsV RL 118 RX2 yX2_save wsX2_save) := goodIn_app (goodIn_of _ (by decide +kernel)) ggL_acts_X2_save
set_option maxRecDepth 20000 in
theorem ggL_acts_X2_setLimits : GoodIn wsL_acts wsX2_setLimits := goodIn_cons (goodIn_r _ [169] rfl (by decide +kernel)) (goodIn_app (goodIn_app (goodIn_r _ [11, 24, 25, 26, 9, 27, 16, 28, 29, 30, 31, 32, 33, 34, 35] rfl (by decide +kernel)) gc_L_acts_X20) gc_L_acts_X10)
set_option maxRecDepth 20000 in
theorem gL_acts_X2_setLimits : GoodIn wsL_acts (wsV RL 121 RX2 yX2_setLimits wsX2_setLimits) := goodIn_app (goodIn_of _ (by decide +kernel)) ggL_acts_X2_setLimits
set_option maxRecDepth 20000 in
theorem ggL_acts_X2_restore : GoodIn wsL_acts wsX2_restore := goodIn_cons (goodIn_r _ [173] rfl (by decide +kernel)) (goodIn_app (goodIn_app (goodIn_r _ [162, 161, 11, 163, 164, 9, 165, 24, 25, 26, 27, 16, 28, 29, 30, 31, 32, 33, 34, 35] rfl (by decide +kernel)) gc_L_acts_X20) gc_L_acts_X10)
set_option maxRecDepth 20000 in
theorem gL_acts_X2_restore : GoodIn wsL_acts (wsV RL 124 RX2 yX2_restore wsX2_restore) := goodIn_app (goodIn_of _ (by decide +kernel)) ggL_acts_X2_restore
set_option maxRecDepth 20000 in
theorem ggL_acts_X2_undo : GoodIn wsL_acts wsX2_undo := goodIn_r _ [177, 16, 28, 11, 33, 34, 9, 35, 201, 202, 203, 204, 205, 206, 207, 208, 209, 210, 211, 212, 213] rfl (by decide +kernel)
set_option maxRecDepth 20000 in
theorem gL_acts_X2_undo : GoodIn wsL_acts (wsV RL 106 RX2 yX2_undo wsX2_undo) := goodIn_app (goodIn_of _ (by decide +kernel)) ggL_acts_X2_undo
set_option maxRecDepth 20000 in
theorem gc_L_acts_X2_bestScreen_r1 : GoodIn wsL_acts wsX2_bestScreen_r1 := goodIn_r _ [11, 48, 37, 49, 50, 40, 182, 183, 9, 184, 185, 186, 187, 188, 189, 190, 191, 192, 193, 33, 34, 35, 42, 43] rfl (by decide +kernel)
set_option maxRecDepth 20000 in
theorem gc_L_acts_X2_bestScreen_r2 : GoodIn wsL_acts wsX2_bestScreen_r2 := goodIn_r _ [44, 45, 46, 47, 89, 90, 91, 92, 93, 94, 95, 96, 97, 98, 99, 100, 101, 102, 103, 104, 105, 106, 107, 108] rfl (by decide +kernel)
set_option maxRecDepth 20000 in
theorem gc_L_acts_X2_bestScreen_r3 : GoodIn wsL_acts wsX2_bestScreen_r3 := goodIn_r _ [69, 70, 71, 109, 110, 111, 112, 113, 114, 115, 116, 117, 118, 119, 120, 121, 55, 56, 57, 62, 63, 64, 122, 123] rfl (by decide +kernel)
set_option maxRecDepth 20000 in
theorem gc_L_acts_X2_bestScreen_r4 : GoodIn wsL_acts wsX2_bestScreen_r4 := goodIn_r _ [124, 125, 126, 127, 128, 129, 130, 131, 132, 133, 134, 135, 136, 137, 138, 139, 140, 141, 142, 143, 144, 145, 146, 147] rfl (by decide +kernel)
set_option maxRecDepth 20000 in
theorem gc_L_acts_X2_bestScreen_r5 : GoodIn wsL_acts wsX2_bestScreen_r5 := goodIn_r _ [148, 149, 150, 151, 152] rfl (by decide +kernel)
set_option maxRecDepth 20000 in
theorem ggL_acts_X2_bestScreen : GoodIn wsL_acts wsX2_bestScreen := goodIn_cons (goodIn_r _ [181] rfl (by decide +kernel)) (goodIn_app (goodIn_app (goodIn_app (goodIn_app gc_L_acts_X2_bestScreen_r1 (goodIn_app gc_L_acts_X2_bestScreen_r2 (goodIn_app gc_L_acts_X2_bestScreen_r3 (goodIn_app gc_L_acts_X2_bestScreen_r4 gc_L_acts_X2_bestScreen_r5)))) gc_L_acts_X20) gc_L_acts_X10) gc_L_acts_X00)
set_option maxRecDepth 20000 in
theorem gL_acts_X2_bestScreen : GoodIn wsL_acts (wsV RL 97 RX2 yX2_bestScreen wsX2_bestScreen) := goodIn_app (goodIn_of _ (by decide +kernel)) ggL_acts_X2_bestScreen
set_option maxRecDepth 20000 in
theorem gc_L_acts_L_searches_r1 : GoodIn wsL_acts wsL_searches_r1 := goodIn_r _ [85, 86, 87, 9, 88, 11, 89, 90, 91, 92, 93, 94, 95, 37, 96, 97, 40, 98, 99, 100, 101, 102, 103, 104] rfl (by decide +kernel)
set_option maxRecDepth 20000 in
theorem gc_L_acts_L_searches_r2 : GoodIn wsL_acts wsL_searches_r2 := goodIn_r _ [105, 106, 107, 108, 69, 70, 71, 45, 46, 47, 48, 49, 50, 109, 110, 111, 112, 113, 114, 115, 116, 117, 118, 119] rfl (by decide +kernel)
set_option maxRecDepth 20000 in
theorem gc_L_acts_L_searches_r3 : GoodIn wsL_acts wsL_searches_r3 := goodIn_r _ [120, 121, 55, 56, 57, 62, 63, 64, 122, 123, 124, 125, 126, 127, 128, 129, 130, 131, 132, 133, 134, 135, 136, 137] rfl (by decide +kernel)
set_option maxRecDepth 20000 in
theorem gc_L_acts_L_searches_r4 : GoodIn wsL_acts wsL_searches_r4 := goodIn_r _ [138, 139, 140, 141, 142, 143, 144, 145, 146, 147, 148, 149, 150, 151, 152, 65, 66, 67, 68, 1, 2, 3, 4, 5] rfl (by decide +kernel)
set_option maxRecDepth 20000 in
theorem gc_L_acts_L_searches_r5 : GoodIn wsL_acts wsL_searches_r5 := goodIn_r _ [178, 179, 180, 181, 182, 183, 184, 185, 186, 187, 188, 189, 190, 191, 192, 193, 33, 34, 35, 42, 43, 44, 197, 198] rfl (by decide +kernel)
set_option maxRecDepth 20000 in
theorem gc_L_acts_L_searches_r6 : GoodIn wsL_acts wsL_searches_r6 := goodIn_r _ [199, 200, 72, 73, 74, 75, 21, 22, 23, 24, 25, 26, 27, 16, 28, 29, 30, 31, 32, 174, 175, 176, 177] rfl (by decide +kernel)
set_option maxRecDepth 20000 in
theorem ggL_acts_L_searches : GoodIn wsL_acts wsL_searches := goodIn_cons (goodIn_r _ [196] rfl (by decide +kernel)) (goodIn_app (goodIn_app (goodIn_app (goodIn_app gc_L_acts_L_searches_r1 (goodIn_app gc_L_acts_L_searches_r2 (goodIn_app gc_L_acts_L_searches_r3 (goodIn_app gc_L_acts_L_searches_r4 (goodIn_app gc_L_acts_L_searches_r5 gc_L_acts_L_searches_r6))))) gc_L_acts_X20) gc_L_acts_X10) gc_L_acts_X00)
set_option maxRecDepth 20000 in
theorem gL_acts_L_searches : GoodIn wsL_acts (va_wsS RL 127 yL_searches wsL_searches) := goodIn_app (goodIn_of _ (by decide +kernel)) ggL_acts_L_searches
