/-! the law: call words, 1 -/
theorem goodIn_cons {big a : List Cond} {c : Cond} (h1 : GoodIn big [c]) (h2 : GoodIn big a) : GoodIn big (c :: a) := fun w h => (List.mem_cons.mp h).elim (fun e => h1 w (List.mem_cons.mpr (Or.inl e))) (h2 w)
set_option maxRecDepth 20000 in
theorem gc_L_pair_X2_beatCount_r1 : GoodIn wsL_pair wsX2_beatCount_r1 := goodIn_r _ [8, 9, 10, 11, 12, 13, 14, 15, 16, 17, 18, 19, 20, 21, 22, 23, 24, 25, 26, 27, 28, 29, 30, 31] rfl (by decide +kernel)
set_option maxRecDepth 20000 in
theorem gc_L_pair_X2_beatCount_r2 : GoodIn wsL_pair wsX2_beatCount_r2 := goodIn_r _ [32, 33, 34, 35, 36, 37, 38, 39, 40, 6, 41, 42, 43, 44, 45, 46, 47, 48, 49, 50, 51, 52, 53, 54] rfl (by decide +kernel)
set_option maxRecDepth 20000 in
theorem gc_L_pair_X2_beatCount_r3 : GoodIn wsL_pair wsX2_beatCount_r3 := goodIn_r _ [55, 56, 57, 58, 59, 60, 61, 62, 63, 64, 65, 66] rfl (by decide +kernel)
set_option maxRecDepth 20000 in
theorem gc_L_pair_X20 : GoodIn wsL_pair wsX20 := goodIn_r _ [129, 130, 131, 132, 133, 134, 135] rfl (by decide +kernel)
set_option maxRecDepth 20000 in
theorem gc_L_pair_X10 : GoodIn wsL_pair wsX10 := goodIn_r _ [136, 137, 138, 139, 140, 141] rfl (by decide +kernel)
set_option maxRecDepth 20000 in
theorem gc_L_pair_X00 : GoodIn wsL_pair wsX00 := goodIn_r _ [142, 143, 144, 145, 146] rfl (by decide +kernel)
set_option maxRecDepth 20000 in
theorem ggL_pair_X2_beatCount : GoodIn wsL_pair wsX2_beatCount := goodIn_cons (goodIn_r _ [7] rfl (by decide +kernel)) (goodIn_app (goodIn_app (goodIn_app (goodIn_app gc_L_pair_X2_beatCount_r1 (goodIn_app gc_L_pair_X2_beatCount_r2 gc_L_pair_X2_beatCount_r3)) gc_L_pair_X20) gc_L_pair_X10) gc_L_pair_X00)
set_option maxRecDepth 20000 in
theorem gL_pair_X2_beatCount : GoodIn wsL_pair (wsV RL 9 RX2 yX2_beatCount wsX2_beatCount) := goodIn_app (goodIn_of _ (by decide +kernel)) ggL_pair_X2_beatCount
set_option maxRecDepth 20000 in
theorem ggL_pair_X2_cellArea : GoodIn wsL_pair wsX2_cellArea := goodIn_cons (goodIn_r _ [70] rfl (by decide +kernel)) (goodIn_app (goodIn_app (goodIn_r _ [8, 15, 11, 16, 17, 18, 27, 28, 29, 30, 31, 14] rfl (by decide +kernel)) gc_L_pair_X20) gc_L_pair_X10)
set_option maxRecDepth 20000 in
theorem gL_pair_X2_cellArea : GoodIn wsL_pair (wsV RL 15 RX2 yX2_cellArea wsX2_cellArea) := goodIn_app (goodIn_of _ (by decide +kernel)) ggL_pair_X2_cellArea
set_option maxRecDepth 20000 in
theorem gc_L_pair_X2_beatNumerator_r1 : GoodIn wsL_pair wsX2_beatNumerator_r1 := goodIn_r _ [9, 75, 76, 77, 6, 78, 8, 10, 11, 12, 13, 14, 15, 16, 17, 18, 19, 20, 21, 22, 23, 24, 25, 26] rfl (by decide +kernel)
set_option maxRecDepth 20000 in
theorem gc_L_pair_X2_beatNumerator_r2 : GoodIn wsL_pair wsX2_beatNumerator_r2 := goodIn_r _ [27, 28, 29, 30, 31, 32, 33, 34, 35, 36, 37, 38, 39, 40, 41, 42, 43, 44, 45, 46, 47, 48, 49, 50] rfl (by decide +kernel)
set_option maxRecDepth 20000 in
theorem gc_L_pair_X2_beatNumerator_r3 : GoodIn wsL_pair wsX2_beatNumerator_r3 := goodIn_r _ [51, 52, 53, 54, 55, 56, 57, 58, 59, 60, 61, 62, 63, 79, 80, 81, 82, 83, 84, 85, 86] rfl (by decide +kernel)
set_option maxRecDepth 20000 in
theorem ggL_pair_X2_beatNumerator : GoodIn wsL_pair wsX2_beatNumerator := goodIn_cons (goodIn_r _ [74] rfl (by decide +kernel)) (goodIn_app (goodIn_app (goodIn_app (goodIn_app gc_L_pair_X2_beatNumerator_r1 (goodIn_app gc_L_pair_X2_beatNumerator_r2 gc_L_pair_X2_beatNumerator_r3)) gc_L_pair_X20) gc_L_pair_X10) gc_L_pair_X00)
set_option maxRecDepth 20000 in
theorem gL_pair_X2_beatNumerator : GoodIn wsL_pair (wsV RL 21 RX2 yX2_beatNumerator wsX2_beatNumerator) := goodIn_app (goodIn_of _ (by decide +kernel)) ggL_pair_X2_beatNumerator
set_option maxRecDepth 20000 in
theorem gc_L_pair_X2_beatDenominator_r1 : GoodIn wsL_pair wsX2_beatDenominator_r1 := goodIn_r _ [9, 75, 76, 77, 6, 78, 8, 10, 11, 12, 13, 14, 15, 16, 17, 18, 19, 20, 21, 22, 23, 24, 25, 26] rfl (by decide +kernel)
set_option maxRecDepth 20000 in
theorem gc_L_pair_X2_beatDenominator_r2 : GoodIn wsL_pair wsX2_beatDenominator_r2 := goodIn_r _ [27, 28, 29, 30, 31, 32, 33, 34, 35, 36, 37, 38, 39, 40, 41, 42, 43, 44, 45, 46, 47, 48, 49, 50] rfl (by decide +kernel)
set_option maxRecDepth 20000 in
theorem gc_L_pair_X2_beatDenominator_r3 : GoodIn wsL_pair wsX2_beatDenominator_r3 := goodIn_r _ [51, 52, 53, 54, 55, 56, 57, 58, 59, 60, 61, 62, 63, 79, 80, 81, 91, 92, 93, 85, 86] rfl (by decide +kernel)
set_option maxRecDepth 20000 in
theorem ggL_pair_X2_beatDenominator : GoodIn wsL_pair wsX2_beatDenominator := goodIn_cons (goodIn_r _ [90] rfl (by decide +kernel)) (goodIn_app (goodIn_app (goodIn_app (goodIn_app gc_L_pair_X2_beatDenominator_r1 (goodIn_app gc_L_pair_X2_beatDenominator_r2 gc_L_pair_X2_beatDenominator_r3)) gc_L_pair_X20) gc_L_pair_X10) gc_L_pair_X00)
set_option maxRecDepth 20000 in
theorem gL_pair_X2_beatDenominator : GoodIn wsL_pair (wsV RL 25 RX2 yX2_beatDenominator wsX2_beatDenominator) := goodIn_app (goodIn_of _ (by decide +kernel)) ggL_pair_X2_beatDenominator
set_option maxRecDepth 20000 in
theorem gc_L_pair_X2_beatPeriod_r1 : GoodIn wsL_pair wsX2_beatPeriod_r1 := goodIn_r _ [9, 75, 76, 77, 6, 78, 8, 10, 11, 12, 13, 14, 15, 16, 17, 18, 19, 20, 21, 22, 23, 24, 25, 26] rfl (by decide +kernel)
set_option maxRecDepth 20000 in
theorem gc_L_pair_X2_beatPeriod_r2 : GoodIn wsL_pair wsX2_beatPeriod_r2 := goodIn_r _ [27, 28, 29, 30, 31, 32, 33, 34, 35, 36, 37, 38, 39, 40, 41, 42, 43, 44, 45, 46, 47, 48, 49, 50] rfl (by decide +kernel)
set_option maxRecDepth 20000 in
theorem gc_L_pair_X2_beatPeriod_r3 : GoodIn wsL_pair wsX2_beatPeriod_r3 := goodIn_r _ [51, 52, 53, 54, 55, 56, 57, 58, 59, 60, 61, 62, 63, 79, 80, 81, 98, 99, 100, 101, 102] rfl (by decide +kernel)
set_option maxRecDepth 20000 in
theorem ggL_pair_X2_beatPeriod : GoodIn wsL_pair wsX2_beatPeriod := goodIn_cons (goodIn_r _ [97] rfl (by decide +kernel)) (goodIn_app (goodIn_app (goodIn_app (goodIn_app gc_L_pair_X2_beatPeriod_r1 (goodIn_app gc_L_pair_X2_beatPeriod_r2 gc_L_pair_X2_beatPeriod_r3)) gc_L_pair_X20) gc_L_pair_X10) gc_L_pair_X00)
set_option maxRecDepth 20000 in
theorem gL_pair_X2_beatPeriod : GoodIn wsL_pair (wsV RL 28 RX2 yX2_beatPeriod wsX2_beatPeriod) := goodIn_app (goodIn_of _ (by decide +kernel)) ggL_pair_X2_beatPeriod
set_option maxRecDepth 20000 in
theorem gc_L_pair_X2_beatFrequency_r1 : GoodIn wsL_pair wsX2_beatFrequency_r1 := goodIn_r _ [9, 75, 76, 77, 6, 78, 8, 10, 11, 12, 13, 14, 15, 16, 17, 18, 19, 20, 21, 22, 23, 24, 25, 26] rfl (by decide +kernel)
set_option maxRecDepth 20000 in
theorem gc_L_pair_X2_beatFrequency_r2 : GoodIn wsL_pair wsX2_beatFrequency_r2 := goodIn_r _ [27, 28, 29, 30, 31, 32, 33, 34, 35, 36, 37, 38, 39, 40, 41, 42, 43, 44, 45, 46, 47, 48, 49, 50] rfl (by decide +kernel)
set_option maxRecDepth 20000 in
theorem gc_L_pair_X2_beatFrequency_r3 : GoodIn wsL_pair wsX2_beatFrequency_r3 := goodIn_r _ [51, 52, 53, 54, 55, 56, 57, 58, 59, 60, 61, 62, 63, 79, 80, 81, 107, 108, 109] rfl (by decide +kernel)
set_option maxRecDepth 20000 in
theorem ggL_pair_X2_beatFrequency : GoodIn wsL_pair wsX2_beatFrequency := goodIn_cons (goodIn_r _ [106] rfl (by decide +kernel)) (goodIn_app (goodIn_app (goodIn_app (goodIn_app gc_L_pair_X2_beatFrequency_r1 (goodIn_app gc_L_pair_X2_beatFrequency_r2 gc_L_pair_X2_beatFrequency_r3)) gc_L_pair_X20) gc_L_pair_X10) gc_L_pair_X00)
set_option maxRecDepth 20000 in
theorem gL_pair_X2_beatFrequency : GoodIn wsL_pair (wsV RL 32 RX2 yX2_beatFrequency wsX2_beatFrequency) := goodIn_app (goodIn_of _ (by decide +kernel)) ggL_pair_X2_beatFrequency
set_option maxRecDepth 20000 in
theorem gc_L_pair_X2_locked_r1 : GoodIn wsL_pair wsX2_locked_r1 := goodIn_r _ [8, 9, 10, 11, 12, 13, 14, 15, 16, 17, 18, 19, 20, 21, 22, 23, 24, 25, 26, 27, 28, 29, 30, 31] rfl (by decide +kernel)
set_option maxRecDepth 20000 in
theorem gc_L_pair_X2_locked_r2 : GoodIn wsL_pair wsX2_locked_r2 := goodIn_r _ [32, 33, 34, 35, 36, 37, 38, 39, 40, 6, 41, 42, 43, 44, 45, 46, 47, 48, 49, 50, 51, 52, 53, 54] rfl (by decide +kernel)
set_option maxRecDepth 20000 in
theorem gc_L_pair_X2_locked_r3 : GoodIn wsL_pair wsX2_locked_r3 := goodIn_r _ [55, 56, 57, 58, 59, 60, 107, 108, 109] rfl (by decide +kernel)
set_option maxRecDepth 20000 in
theorem ggL_pair_X2_locked : GoodIn wsL_pair wsX2_locked := goodIn_cons (goodIn_r _ [113] rfl (by decide +kernel)) (goodIn_app (goodIn_app (goodIn_app (goodIn_app gc_L_pair_X2_locked_r1 (goodIn_app gc_L_pair_X2_locked_r2 gc_L_pair_X2_locked_r3)) gc_L_pair_X20) gc_L_pair_X10) gc_L_pair_X00)
set_option maxRecDepth 20000 in
theorem gL_pair_X2_locked : GoodIn wsL_pair (wsV RL 37 RX2 yX2_locked wsX2_locked) := goodIn_app (goodIn_of _ (by decide +kernel)) ggL_pair_X2_locked
set_option maxRecDepth 20000 in
theorem gc_L_pair_X2_bands_r1 : GoodIn wsL_pair wsX2_bands_r1 := goodIn_r _ [8, 10, 11, 12, 13, 14, 15, 16, 17, 18, 118, 119, 120, 6, 121, 9, 19, 20, 21, 22, 23, 24, 25, 26] rfl (by decide +kernel)
set_option maxRecDepth 20000 in
theorem gc_L_pair_X2_bands_r2 : GoodIn wsL_pair wsX2_bands_r2 := goodIn_r _ [27, 28, 29, 30, 31, 32, 33, 34, 35, 36, 37, 38, 39, 40, 41, 42, 43, 44, 45, 46, 47, 48, 49, 50] rfl (by decide +kernel)
set_option maxRecDepth 20000 in
theorem gc_L_pair_X2_bands_r3 : GoodIn wsL_pair wsX2_bands_r3 := goodIn_r _ [51, 52, 53, 54, 55, 56, 57, 58, 59, 60, 122, 123, 124, 125, 126, 127, 128] rfl (by decide +kernel)
set_option maxRecDepth 20000 in
theorem ggL_pair_X2_bands : GoodIn wsL_pair wsX2_bands := goodIn_cons (goodIn_r _ [117] rfl (by decide +kernel)) (goodIn_app (goodIn_app (goodIn_app (goodIn_app gc_L_pair_X2_bands_r1 (goodIn_app gc_L_pair_X2_bands_r2 gc_L_pair_X2_bands_r3)) gc_L_pair_X20) gc_L_pair_X10) gc_L_pair_X00)
set_option maxRecDepth 20000 in
theorem gL_pair_X2_bands : GoodIn wsL_pair (wsV RL 42 RX2 yX2_bands wsX2_bands) := goodIn_app (goodIn_of _ (by decide +kernel)) ggL_pair_X2_bands
set_option maxRecDepth 20000 in
theorem ggL_whole_X2_plateCount : GoodIn wsL_whole wsX2_plateCount := goodIn_r _ [5, 6, 173, 174, 175, 176, 177, 178, 179, 180, 181, 182, 183, 184, 185] rfl (by decide +kernel)
set_option maxRecDepth 20000 in
theorem gL_whole_X2_plateCount : GoodIn wsL_whole (wsV RL 45 RX2 yX2_plateCount wsX2_plateCount) := goodIn_app (goodIn_of _ (by decide +kernel)) ggL_whole_X2_plateCount
set_option maxRecDepth 20000 in
theorem gc_L_whole_X2_bands_r1 : GoodIn wsL_whole wsX2_bands_r1 := goodIn_r _ [6, 11, 12, 13, 14, 15, 16, 17, 18, 19, 20, 21, 22, 4, 23, 24, 25, 26, 27, 28, 29, 30, 31, 32] rfl (by decide +kernel)
set_option maxRecDepth 20000 in
theorem gc_L_whole_X2_bands_r2 : GoodIn wsL_whole wsX2_bands_r2 := goodIn_r _ [33, 34, 35, 36, 37, 38, 39, 40, 41, 42, 43, 44, 45, 46, 47, 48, 49, 50, 51, 52, 53, 54, 55, 56] rfl (by decide +kernel)
set_option maxRecDepth 20000 in
theorem gc_L_whole_X2_bands_r3 : GoodIn wsL_whole wsX2_bands_r3 := goodIn_r _ [57, 58, 59, 60, 61, 62, 63, 64, 65, 66, 67, 68, 69, 70, 71, 72, 73] rfl (by decide +kernel)
set_option maxRecDepth 20000 in
theorem gc_L_whole_X20 : GoodIn wsL_whole wsX20 := goodIn_r _ [173, 174, 175, 176, 177, 178, 179] rfl (by decide +kernel)
set_option maxRecDepth 20000 in
theorem gc_L_whole_X10 : GoodIn wsL_whole wsX10 := goodIn_r _ [180, 181, 182, 183, 184, 185] rfl (by decide +kernel)
set_option maxRecDepth 20000 in
theorem gc_L_whole_X00 : GoodIn wsL_whole wsX00 := goodIn_r _ [186, 187, 188, 189, 190] rfl (by decide +kernel)
set_option maxRecDepth 20000 in
theorem ggL_whole_X2_bands : GoodIn wsL_whole wsX2_bands := goodIn_cons (goodIn_r _ [10] rfl (by decide +kernel)) (goodIn_app (goodIn_app (goodIn_app (goodIn_app gc_L_whole_X2_bands_r1 (goodIn_app gc_L_whole_X2_bands_r2 gc_L_whole_X2_bands_r3)) gc_L_whole_X20) gc_L_whole_X10) gc_L_whole_X00)
set_option maxRecDepth 20000 in
theorem gL_whole_X2_bands : GoodIn wsL_whole (wsV RL 42 RX2 yX2_bands wsX2_bands) := goodIn_app (goodIn_of _ (by decide +kernel)) ggL_whole_X2_bands
set_option maxRecDepth 20000 in
theorem gc_L_whole_X2_tripleBands_r1 : GoodIn wsL_whole wsX2_tripleBands_r1 := goodIn_r _ [6, 24, 11, 12, 13, 14, 15, 16, 17, 18, 19, 78, 26, 79, 80, 33, 34, 35, 36, 37, 38, 39, 40, 41] rfl (by decide +kernel)
set_option maxRecDepth 20000 in
theorem gc_L_whole_X2_tripleBands_r2 : GoodIn wsL_whole wsX2_tripleBands_r2 := goodIn_r _ [42, 43, 44, 45, 46, 4, 47, 81, 82, 83, 52, 53, 54, 55, 56, 57, 84, 85, 86, 62, 63, 64, 65, 66] rfl (by decide +kernel)
set_option maxRecDepth 20000 in
theorem gc_L_whole_X2_tripleBands_r3 : GoodIn wsL_whole wsX2_tripleBands_r3 := goodIn_r _ [67, 68, 69, 70, 71, 72, 73] rfl (by decide +kernel)
set_option maxRecDepth 20000 in
theorem ggL_whole_X2_tripleBands : GoodIn wsL_whole wsX2_tripleBands := goodIn_cons (goodIn_r _ [77] rfl (by decide +kernel)) (goodIn_app (goodIn_app (goodIn_app (goodIn_app gc_L_whole_X2_tripleBands_r1 (goodIn_app gc_L_whole_X2_tripleBands_r2 gc_L_whole_X2_tripleBands_r3)) gc_L_whole_X20) gc_L_whole_X10) gc_L_whole_X00)
set_option maxRecDepth 20000 in
theorem gL_whole_X2_tripleBands : GoodIn wsL_whole (wsV RL 49 RX2 yX2_tripleBands wsX2_tripleBands) := goodIn_app (goodIn_of _ (by decide +kernel)) ggL_whole_X2_tripleBands
set_option maxRecDepth 20000 in
theorem ggL_whole_X2_byAngle : GoodIn wsL_whole wsX2_byAngle := goodIn_cons (goodIn_r _ [90] rfl (by decide +kernel)) (goodIn_app (goodIn_app (goodIn_r _ [6, 91, 92, 93, 4, 94, 55, 12, 56, 57, 37, 15, 16, 17, 18, 19, 52, 53, 54, 36] rfl (by decide +kernel)) gc_L_whole_X20) gc_L_whole_X10)
set_option maxRecDepth 20000 in
theorem gL_whole_X2_byAngle : GoodIn wsL_whole (wsV RL 52 RX2 yX2_byAngle wsX2_byAngle) := goodIn_app (goodIn_of _ (by decide +kernel)) ggL_whole_X2_byAngle
set_option maxRecDepth 20000 in
theorem gc_L_whole_X2_commonTile_r1 : GoodIn wsL_whole wsX2_commonTile_r1 := goodIn_r _ [6, 99, 100, 101, 4, 102, 33, 12, 34, 35, 36, 37, 15, 16, 17, 18, 19, 52, 53, 54, 55, 56, 57, 103] rfl (by decide +kernel)
set_option maxRecDepth 20000 in
theorem gc_L_whole_X2_commonTile_r2 : GoodIn wsL_whole wsX2_commonTile_r2 := goodIn_r _ [104, 105, 106, 46, 47] rfl (by decide +kernel)
set_option maxRecDepth 20000 in
theorem ggL_whole_X2_commonTile : GoodIn wsL_whole wsX2_commonTile := goodIn_cons (goodIn_r _ [98] rfl (by decide +kernel)) (goodIn_app (goodIn_app (goodIn_app gc_L_whole_X2_commonTile_r1 gc_L_whole_X2_commonTile_r2) gc_L_whole_X20) gc_L_whole_X10)
set_option maxRecDepth 20000 in
theorem gL_whole_X2_commonTile : GoodIn wsL_whole (wsV RL 55 RX2 yX2_commonTile wsX2_commonTile) := goodIn_app (goodIn_of _ (by decide +kernel)) ggL_whole_X2_commonTile
set_option maxRecDepth 20000 in
theorem gc_L_whole_X2_tile_r1 : GoodIn wsL_whole wsX2_tile_r1 := goodIn_r _ [6, 16, 12, 17, 18, 19, 99, 100, 101, 4, 102, 33, 34, 35, 36, 37, 15, 52, 53, 54, 55, 56, 57, 103] rfl (by decide +kernel)
set_option maxRecDepth 20000 in
theorem gc_L_whole_X2_tile_r2 : GoodIn wsL_whole wsX2_tile_r2 := goodIn_r _ [104, 105, 106, 46, 47] rfl (by decide +kernel)
set_option maxRecDepth 20000 in
theorem ggL_whole_X2_tile : GoodIn wsL_whole wsX2_tile := goodIn_cons (goodIn_r _ [110] rfl (by decide +kernel)) (goodIn_app (goodIn_app (goodIn_app gc_L_whole_X2_tile_r1 gc_L_whole_X2_tile_r2) gc_L_whole_X20) gc_L_whole_X10)
set_option maxRecDepth 20000 in
theorem gL_whole_X2_tile : GoodIn wsL_whole (wsV RL 59 RX2 yX2_tile wsX2_tile) := goodIn_app (goodIn_of _ (by decide +kernel)) ggL_whole_X2_tile
set_option maxRecDepth 20000 in
theorem ggL_whole_X2_cellArea : GoodIn wsL_whole wsX2_cellArea := goodIn_cons (goodIn_r _ [114] rfl (by decide +kernel)) (goodIn_app (goodIn_app (goodIn_r _ [6, 16, 12, 17, 18, 19, 33, 34, 35, 36, 37, 15] rfl (by decide +kernel)) gc_L_whole_X20) gc_L_whole_X10)
set_option maxRecDepth 20000 in
theorem gL_whole_X2_cellArea : GoodIn wsL_whole (wsV RL 15 RX2 yX2_cellArea wsX2_cellArea) := goodIn_app (goodIn_of _ (by decide +kernel)) ggL_whole_X2_cellArea
set_option maxRecDepth 20000 in
theorem ggL_whole_X2_cellP : GoodIn wsL_whole wsX2_cellP := goodIn_cons (goodIn_r _ [118] rfl (by decide +kernel)) (goodIn_app (goodIn_app (goodIn_r _ [6, 16, 12, 17, 18, 19, 52, 53, 54, 36, 15] rfl (by decide +kernel)) gc_L_whole_X20) gc_L_whole_X10)
set_option maxRecDepth 20000 in
theorem gL_whole_X2_cellP : GoodIn wsL_whole (wsV RL 62 RX2 yX2_cellP wsX2_cellP) := goodIn_app (goodIn_of _ (by decide +kernel)) ggL_whole_X2_cellP
set_option maxRecDepth 20000 in
theorem ggL_whole_X2_cellQ : GoodIn wsL_whole wsX2_cellQ := goodIn_cons (goodIn_r _ [122] rfl (by decide +kernel)) (goodIn_app (goodIn_app (goodIn_r _ [6, 16, 12, 17, 18, 19, 55, 56, 57, 37, 15] rfl (by decide +kernel)) gc_L_whole_X20) gc_L_whole_X10)
set_option maxRecDepth 20000 in
theorem gL_whole_X2_cellQ : GoodIn wsL_whole (wsV RL 65 RX2 yX2_cellQ wsX2_cellQ) := goodIn_app (goodIn_of _ (by decide +kernel)) ggL_whole_X2_cellQ
set_option maxRecDepth 20000 in
theorem gc_L_whole_X2_worstPeriod_r1 : GoodIn wsL_whole wsX2_worstPeriod_r1 := goodIn_r _ [127, 128, 129, 4, 130, 131, 132, 133, 134, 135, 6, 24, 136, 12, 137, 138, 19, 139, 26, 140, 141, 142, 143, 144] rfl (by decide +kernel)
set_option maxRecDepth 20000 in
theorem gc_L_whole_X2_worstPeriod_r2 : GoodIn wsL_whole wsX2_worstPeriod_r2 := goodIn_r _ [145, 78, 79, 80, 33, 34, 35, 36, 37, 15, 16, 17, 18, 38, 39, 40, 41, 42, 43, 44, 45, 46, 47, 81] rfl (by decide +kernel)
set_option maxRecDepth 20000 in
theorem gc_L_whole_X2_worstPeriod_r3 : GoodIn wsL_whole wsX2_worstPeriod_r3 := goodIn_r _ [82, 83, 52, 53, 54, 55, 56, 57, 84, 85, 86, 62, 63, 64, 65, 66, 146, 25, 27, 28, 29, 30, 31, 32] rfl (by decide +kernel)
set_option maxRecDepth 20000 in
theorem gc_L_whole_X2_worstPeriod_r4 : GoodIn wsL_whole wsX2_worstPeriod_r4 := goodIn_r _ [48, 49, 50, 51, 58, 59, 60, 61, 147, 148, 149, 70, 71, 72, 73, 150, 151, 152, 153, 154, 155] rfl (by decide +kernel)
set_option maxRecDepth 20000 in
theorem ggL_whole_X2_worstPeriod : GoodIn wsL_whole wsX2_worstPeriod := goodIn_cons (goodIn_r _ [126] rfl (by decide +kernel)) (goodIn_app (goodIn_app (goodIn_app (goodIn_app gc_L_whole_X2_worstPeriod_r1 (goodIn_app gc_L_whole_X2_worstPeriod_r2 (goodIn_app gc_L_whole_X2_worstPeriod_r3 gc_L_whole_X2_worstPeriod_r4))) gc_L_whole_X20) gc_L_whole_X10) gc_L_whole_X00)
set_option maxRecDepth 20000 in
theorem gL_whole_X2_worstPeriod : GoodIn wsL_whole (wsV RL 68 RX2 yX2_worstPeriod wsX2_worstPeriod) := goodIn_app (goodIn_of _ (by decide +kernel)) ggL_whole_X2_worstPeriod
set_option maxRecDepth 20000 in
theorem gc_L_whole_X2_worstPlates_r1 : GoodIn wsL_whole wsX2_worstPlates_r1 := goodIn_r _ [131, 132, 133, 134, 4, 135, 6, 24, 136, 12, 137, 138, 19, 139, 26, 140, 141, 142, 143, 144, 145, 78, 79, 80] rfl (by decide +kernel)
set_option maxRecDepth 20000 in
theorem gc_L_whole_X2_worstPlates_r2 : GoodIn wsL_whole wsX2_worstPlates_r2 := goodIn_r _ [33, 34, 35, 36, 37, 15, 16, 17, 18, 38, 39, 40, 41, 42, 43, 44, 45, 46, 47, 81, 82, 83, 52, 53] rfl (by decide +kernel)
set_option maxRecDepth 20000 in
theorem gc_L_whole_X2_worstPlates_r3 : GoodIn wsL_whole wsX2_worstPlates_r3 := goodIn_r _ [54, 55, 56, 57, 84, 85, 86, 62, 63, 64, 65, 66, 146, 25, 27, 28, 29, 30, 31, 32, 48, 49, 50, 51] rfl (by decide +kernel)
set_option maxRecDepth 20000 in
theorem gc_L_whole_X2_worstPlates_r4 : GoodIn wsL_whole wsX2_worstPlates_r4 := goodIn_r _ [58, 59, 60, 61, 147, 148, 149, 70, 71, 72, 73, 150, 151, 152, 153, 154, 155] rfl (by decide +kernel)
set_option maxRecDepth 20000 in
theorem ggL_whole_X2_worstPlates : GoodIn wsL_whole wsX2_worstPlates := goodIn_cons (goodIn_r _ [130] rfl (by decide +kernel)) (goodIn_app (goodIn_app (goodIn_app (goodIn_app gc_L_whole_X2_worstPlates_r1 (goodIn_app gc_L_whole_X2_worstPlates_r2 (goodIn_app gc_L_whole_X2_worstPlates_r3 gc_L_whole_X2_worstPlates_r4))) gc_L_whole_X20) gc_L_whole_X10) gc_L_whole_X00)
set_option maxRecDepth 20000 in
theorem gL_whole_X2_worstPlates : GoodIn wsL_whole (wsV RL 71 RX2 yX2_worstPlates wsX2_worstPlates) := goodIn_app (goodIn_of _ (by decide +kernel)) ggL_whole_X2_worstPlates
set_option maxRecDepth 20000 in
theorem gc_L_whole_X2_allBands_r1 : GoodIn wsL_whole wsX2_allBands_r1 := goodIn_r _ [6, 161, 162, 163, 4, 164, 131, 24, 136, 12, 137, 138, 19, 139, 26, 140, 141, 142, 143, 144, 145, 78, 79, 80] rfl (by decide +kernel)
set_option maxRecDepth 20000 in
theorem gc_L_whole_X2_allBands_r2 : GoodIn wsL_whole wsX2_allBands_r2 := goodIn_r _ [33, 34, 35, 36, 37, 15, 16, 17, 18, 38, 39, 40, 41, 42, 43, 44, 45, 46, 47, 81, 82, 83, 52, 53] rfl (by decide +kernel)
set_option maxRecDepth 20000 in
theorem gc_L_whole_X2_allBands_r3 : GoodIn wsL_whole wsX2_allBands_r3 := goodIn_r _ [54, 55, 56, 57, 84, 85, 86, 62, 63, 64, 65, 66, 146, 25, 27, 28, 29, 30, 31, 32, 48, 49, 50, 51] rfl (by decide +kernel)
set_option maxRecDepth 20000 in
theorem gc_L_whole_X2_allBands_r4 : GoodIn wsL_whole wsX2_allBands_r4 := goodIn_r _ [58, 59, 60, 61, 67, 68, 69, 70, 71, 72, 73] rfl (by decide +kernel)
set_option maxRecDepth 20000 in
theorem ggL_whole_X2_allBands : GoodIn wsL_whole wsX2_allBands := goodIn_cons (goodIn_r _ [160] rfl (by decide +kernel)) (goodIn_app (goodIn_app (goodIn_app (goodIn_app gc_L_whole_X2_allBands_r1 (goodIn_app gc_L_whole_X2_allBands_r2 (goodIn_app gc_L_whole_X2_allBands_r3 gc_L_whole_X2_allBands_r4))) gc_L_whole_X20) gc_L_whole_X10) gc_L_whole_X00)
set_option maxRecDepth 20000 in
theorem gL_whole_X2_allBands : GoodIn wsL_whole (wsV RL 74 RX2 yX2_allBands wsX2_allBands) := goodIn_app (goodIn_of _ (by decide +kernel)) ggL_whole_X2_allBands
set_option maxRecDepth 20000 in
theorem gc_L_whole_X2_worstPair_r1 : GoodIn wsL_whole wsX2_worstPair_r1 := goodIn_r _ [6, 20, 21, 22, 4, 23, 24, 25, 26, 27, 28, 29, 30, 31, 32, 33, 12, 34, 35, 36, 37, 15, 16, 17] rfl (by decide +kernel)
set_option maxRecDepth 20000 in
theorem gc_L_whole_X2_worstPair_r2 : GoodIn wsL_whole wsX2_worstPair_r2 := goodIn_r _ [18, 19, 38, 39, 40, 41, 42, 43, 44, 45, 46, 47, 48, 49, 50, 51, 52, 53, 54, 55, 56, 57, 58, 59] rfl (by decide +kernel)
set_option maxRecDepth 20000 in
theorem gc_L_whole_X2_worstPair_r3 : GoodIn wsL_whole wsX2_worstPair_r3 := goodIn_r _ [60, 61, 62, 63, 64, 65, 66, 67, 68, 69, 70, 71, 72, 73] rfl (by decide +kernel)
set_option maxRecDepth 20000 in
theorem ggL_whole_X2_worstPair : GoodIn wsL_whole wsX2_worstPair := goodIn_cons (goodIn_r _ [168] rfl (by decide +kernel)) (goodIn_app (goodIn_app (goodIn_app (goodIn_app gc_L_whole_X2_worstPair_r1 (goodIn_app gc_L_whole_X2_worstPair_r2 gc_L_whole_X2_worstPair_r3)) gc_L_whole_X20) gc_L_whole_X10) gc_L_whole_X00)
set_option maxRecDepth 20000 in
theorem gL_whole_X2_worstPair : GoodIn wsL_whole (wsV RL 77 RX2 yX2_worstPair wsX2_worstPair) := goodIn_app (goodIn_of _ (by decide +kernel)) ggL_whole_X2_worstPair
set_option maxRecDepth 20000 in
theorem ggL_whole_X2_longLimit : GoodIn wsL_whole wsX2_longLimit := goodIn_r _ [172, 6, 173, 174, 175, 176, 177, 178, 179, 180, 181, 182, 183, 184, 185] rfl (by decide +kernel)
set_option maxRecDepth 20000 in
theorem gL_whole_X2_longLimit : GoodIn wsL_whole (wsV RL 80 RX2 yX2_longLimit wsX2_longLimit) := goodIn_app (goodIn_of _ (by decide +kernel)) ggL_whole_X2_longLimit
set_option maxRecDepth 20000 in
theorem ggL_turned_L_low : GoodIn wsL_turned wsL_low := goodIn_r _ [5, 6] rfl (by decide +kernel)
set_option maxRecDepth 20000 in
theorem gL_turned_L_low : GoodIn wsL_turned (va_wsS RL 83 yL_low wsL_low) := goodIn_app (goodIn_of _ (by decide +kernel)) ggL_turned_L_low
set_option maxRecDepth 20000 in
theorem gc_L_turned_X2_squareNumerator_r1 : GoodIn wsL_turned wsX2_squareNumerator_r1 := goodIn_r _ [12, 13, 14, 15, 16, 17, 10, 18, 19, 20, 21, 22, 23, 24, 25, 26, 27, 28, 29, 30, 31, 32, 33, 34] rfl (by decide +kernel)
set_option maxRecDepth 20000 in
theorem gc_L_turned_X2_squareNumerator_r2 : GoodIn wsL_turned wsX2_squareNumerator_r2 := goodIn_r _ [35, 36, 37, 38, 39, 40, 41, 42, 43, 44, 45, 46, 47, 48, 49, 50, 51, 52, 53, 54, 55, 56, 57, 58] rfl (by decide +kernel)
set_option maxRecDepth 20000 in
theorem gc_L_turned_X2_squareNumerator_r3 : GoodIn wsL_turned wsX2_squareNumerator_r3 := goodIn_r _ [59, 60, 61, 62, 63, 64, 65, 66, 67, 68, 69, 70] rfl (by decide +kernel)
set_option maxRecDepth 20000 in
theorem gc_L_turned_X20 : GoodIn wsL_turned wsX20 := goodIn_r _ [85, 86, 87, 88, 89, 90, 91] rfl (by decide +kernel)
set_option maxRecDepth 20000 in
theorem gc_L_turned_X10 : GoodIn wsL_turned wsX10 := goodIn_r _ [92, 93, 94, 95, 96, 97] rfl (by decide +kernel)
set_option maxRecDepth 20000 in
theorem gc_L_turned_X00 : GoodIn wsL_turned wsX00 := goodIn_r _ [98, 99, 100, 101, 102] rfl (by decide +kernel)
set_option maxRecDepth 20000 in
theorem ggL_turned_X2_squareNumerator : GoodIn wsL_turned wsX2_squareNumerator := goodIn_cons (goodIn_r _ [11] rfl (by decide +kernel)) (goodIn_app (goodIn_app (goodIn_app (goodIn_app gc_L_turned_X2_squareNumerator_r1 (goodIn_app gc_L_turned_X2_squareNumerator_r2 gc_L_turned_X2_squareNumerator_r3)) gc_L_turned_X20) gc_L_turned_X10) gc_L_turned_X00)
set_option maxRecDepth 20000 in
theorem gL_turned_X2_squareNumerator : GoodIn wsL_turned (wsV RL 86 RX2 yX2_squareNumerator wsX2_squareNumerator) := goodIn_app (goodIn_of _ (by decide +kernel)) ggL_turned_X2_squareNumerator
set_option maxRecDepth 20000 in
theorem gc_L_turned_X2_squareDenominator_r1 : GoodIn wsL_turned wsX2_squareDenominator_r1 := goodIn_r _ [12, 13, 14, 15, 16, 17, 10, 18, 19, 20, 21, 22, 23, 24, 25, 26, 27, 28, 29, 30, 31, 32, 33, 34] rfl (by decide +kernel)
set_option maxRecDepth 20000 in
theorem gc_L_turned_X2_squareDenominator_r2 : GoodIn wsL_turned wsX2_squareDenominator_r2 := goodIn_r _ [35, 36, 37, 38, 39, 40, 41, 42, 43, 44, 45, 46, 47, 48, 49, 50, 51, 52, 53, 54, 55, 56, 57, 58] rfl (by decide +kernel)
set_option maxRecDepth 20000 in
theorem gc_L_turned_X2_squareDenominator_r3 : GoodIn wsL_turned wsX2_squareDenominator_r3 := goodIn_r _ [59, 60, 61, 62, 63, 64, 65, 75, 76, 77, 69, 70] rfl (by decide +kernel)
set_option maxRecDepth 20000 in
theorem ggL_turned_X2_squareDenominator : GoodIn wsL_turned wsX2_squareDenominator := goodIn_cons (goodIn_r _ [74] rfl (by decide +kernel)) (goodIn_app (goodIn_app (goodIn_app (goodIn_app gc_L_turned_X2_squareDenominator_r1 (goodIn_app gc_L_turned_X2_squareDenominator_r2 gc_L_turned_X2_squareDenominator_r3)) gc_L_turned_X20) gc_L_turned_X10) gc_L_turned_X00)
set_option maxRecDepth 20000 in
theorem gL_turned_X2_squareDenominator : GoodIn wsL_turned (wsV RL 90 RX2 yX2_squareDenominator wsX2_squareDenominator) := goodIn_app (goodIn_of _ (by decide +kernel)) ggL_turned_X2_squareDenominator
set_option maxRecDepth 20000 in
theorem gc_L_turned_X2_kind_r1 : GoodIn wsL_turned wsX2_kind_r1 := goodIn_r _ [13, 14, 15, 16, 17, 10, 18, 19, 20, 21, 22, 23, 24, 25, 26, 27, 28, 29, 30, 31, 32, 33, 34, 35] rfl (by decide +kernel)
set_option maxRecDepth 20000 in
theorem gc_L_turned_X2_kind_r2 : GoodIn wsL_turned wsX2_kind_r2 := goodIn_r _ [36, 37, 38, 39, 40, 41, 42, 43, 44, 45, 46, 47, 48, 49, 50, 51, 52, 53, 54, 55, 56, 57, 58, 59] rfl (by decide +kernel)
set_option maxRecDepth 20000 in
theorem gc_L_turned_X2_kind_r3 : GoodIn wsL_turned wsX2_kind_r3 := goodIn_r _ [60, 61, 62, 63, 64, 65, 82, 83, 84] rfl (by decide +kernel)
set_option maxRecDepth 20000 in
theorem ggL_turned_X2_kind : GoodIn wsL_turned wsX2_kind := goodIn_cons (goodIn_r _ [81] rfl (by decide +kernel)) (goodIn_app (goodIn_app (goodIn_app (goodIn_app gc_L_turned_X2_kind_r1 (goodIn_app gc_L_turned_X2_kind_r2 gc_L_turned_X2_kind_r3)) gc_L_turned_X20) gc_L_turned_X10) gc_L_turned_X00)
set_option maxRecDepth 20000 in
theorem gL_turned_X2_kind : GoodIn wsL_turned (wsV RL 93 RX2 yX2_kind wsX2_kind) := goodIn_app (goodIn_of _ (by decide +kernel)) ggL_turned_X2_kind
