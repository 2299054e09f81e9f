/-! the law: call words -/
set_option maxRecDepth 20000 in
theorem ggL_pair_X2_beatCount : GoodIn wsL_pair wsX2_beatCount := goodIn_r _ [7, 8, 9, 10, 11, 12, 13, 14, 15, 16, 17, 18, 19, 20, 21, 22, 23, 24, 25, 26, 27, 28, 29, 30, 31, 32, 33, 34, 35, 36, 37, 38, 39, 40, 6, 41, 42, 43, 44, 45, 46, 47, 48, 49, 50, 51, 52, 53, 54, 55, 56, 57, 58, 59, 60, 61, 62, 63, 64, 65, 66, 129, 130, 131, 132, 133, 134, 135, 136, 137, 138, 139, 140, 141, 142, 143, 144, 145, 146] (by decide +kernel) (by decide +kernel)
set_option maxRecDepth 20000 in
theorem gL_pair_X2_beatCount : GoodIn wsL_pair (wsV RL 9 RX2 yX2_beatCount wsX2_beatCount) := goodIn_app (goodIn_of _ (by decide +kernel)) ggL_pair_X2_beatCount
set_option maxRecDepth 20000 in
theorem ggL_pair_X2_cellArea : GoodIn wsL_pair wsX2_cellArea := goodIn_r _ [70, 8, 15, 11, 16, 17, 18, 27, 28, 29, 30, 31, 14, 129, 130, 131, 132, 133, 134, 135, 136, 137, 138, 139, 140, 141] (by decide +kernel) (by decide +kernel)
set_option maxRecDepth 20000 in
theorem gL_pair_X2_cellArea : GoodIn wsL_pair (wsV RL 15 RX2 yX2_cellArea wsX2_cellArea) := goodIn_app (goodIn_of _ (by decide +kernel)) ggL_pair_X2_cellArea
set_option maxRecDepth 20000 in
theorem ggL_pair_X2_beatNumerator : GoodIn wsL_pair wsX2_beatNumerator := goodIn_r _ [74, 9, 75, 76, 77, 6, 78, 8, 10, 11, 12, 13, 14, 15, 16, 17, 18, 19, 20, 21, 22, 23, 24, 25, 26, 27, 28, 29, 30, 31, 32, 33, 34, 35, 36, 37, 38, 39, 40, 41, 42, 43, 44, 45, 46, 47, 48, 49, 50, 51, 52, 53, 54, 55, 56, 57, 58, 59, 60, 61, 62, 63, 79, 80, 81, 82, 83, 84, 85, 86, 129, 130, 131, 132, 133, 134, 135, 136, 137, 138, 139, 140, 141, 142, 143, 144, 145, 146] (by decide +kernel) (by decide +kernel)
set_option maxRecDepth 20000 in
theorem gL_pair_X2_beatNumerator : GoodIn wsL_pair (wsV RL 21 RX2 yX2_beatNumerator wsX2_beatNumerator) := goodIn_app (goodIn_of _ (by decide +kernel)) ggL_pair_X2_beatNumerator
set_option maxRecDepth 20000 in
theorem ggL_pair_X2_beatDenominator : GoodIn wsL_pair wsX2_beatDenominator := goodIn_r _ [90, 9, 75, 76, 77, 6, 78, 8, 10, 11, 12, 13, 14, 15, 16, 17, 18, 19, 20, 21, 22, 23, 24, 25, 26, 27, 28, 29, 30, 31, 32, 33, 34, 35, 36, 37, 38, 39, 40, 41, 42, 43, 44, 45, 46, 47, 48, 49, 50, 51, 52, 53, 54, 55, 56, 57, 58, 59, 60, 61, 62, 63, 79, 80, 81, 91, 92, 93, 85, 86, 129, 130, 131, 132, 133, 134, 135, 136, 137, 138, 139, 140, 141, 142, 143, 144, 145, 146] (by decide +kernel) (by decide +kernel)
set_option maxRecDepth 20000 in
theorem gL_pair_X2_beatDenominator : GoodIn wsL_pair (wsV RL 25 RX2 yX2_beatDenominator wsX2_beatDenominator) := goodIn_app (goodIn_of _ (by decide +kernel)) ggL_pair_X2_beatDenominator
set_option maxRecDepth 20000 in
theorem ggL_pair_X2_beatPeriod : GoodIn wsL_pair wsX2_beatPeriod := goodIn_r _ [97, 9, 75, 76, 77, 6, 78, 8, 10, 11, 12, 13, 14, 15, 16, 17, 18, 19, 20, 21, 22, 23, 24, 25, 26, 27, 28, 29, 30, 31, 32, 33, 34, 35, 36, 37, 38, 39, 40, 41, 42, 43, 44, 45, 46, 47, 48, 49, 50, 51, 52, 53, 54, 55, 56, 57, 58, 59, 60, 61, 62, 63, 79, 80, 81, 98, 99, 100, 101, 102, 129, 130, 131, 132, 133, 134, 135, 136, 137, 138, 139, 140, 141, 142, 143, 144, 145, 146] (by decide +kernel) (by decide +kernel)
set_option maxRecDepth 20000 in
theorem gL_pair_X2_beatPeriod : GoodIn wsL_pair (wsV RL 28 RX2 yX2_beatPeriod wsX2_beatPeriod) := goodIn_app (goodIn_of _ (by decide +kernel)) ggL_pair_X2_beatPeriod
set_option maxRecDepth 20000 in
theorem ggL_pair_X2_beatFrequency : GoodIn wsL_pair wsX2_beatFrequency := goodIn_r _ [106, 9, 75, 76, 77, 6, 78, 8, 10, 11, 12, 13, 14, 15, 16, 17, 18, 19, 20, 21, 22, 23, 24, 25, 26, 27, 28, 29, 30, 31, 32, 33, 34, 35, 36, 37, 38, 39, 40, 41, 42, 43, 44, 45, 46, 47, 48, 49, 50, 51, 52, 53, 54, 55, 56, 57, 58, 59, 60, 61, 62, 63, 79, 80, 81, 107, 108, 109, 129, 130, 131, 132, 133, 134, 135, 136, 137, 138, 139, 140, 141, 142, 143, 144, 145, 146] (by decide +kernel) (by decide +kernel)
set_option maxRecDepth 20000 in
theorem gL_pair_X2_beatFrequency : GoodIn wsL_pair (wsV RL 32 RX2 yX2_beatFrequency wsX2_beatFrequency) := goodIn_app (goodIn_of _ (by decide +kernel)) ggL_pair_X2_beatFrequency
set_option maxRecDepth 20000 in
theorem ggL_pair_X2_locked : GoodIn wsL_pair wsX2_locked := goodIn_r _ [113, 8, 9, 10, 11, 12, 13, 14, 15, 16, 17, 18, 19, 20, 21, 22, 23, 24, 25, 26, 27, 28, 29, 30, 31, 32, 33, 34, 35, 36, 37, 38, 39, 40, 6, 41, 42, 43, 44, 45, 46, 47, 48, 49, 50, 51, 52, 53, 54, 55, 56, 57, 58, 59, 60, 107, 108, 109, 129, 130, 131, 132, 133, 134, 135, 136, 137, 138, 139, 140, 141, 142, 143, 144, 145, 146] (by decide +kernel) (by decide +kernel)
set_option maxRecDepth 20000 in
theorem gL_pair_X2_locked : GoodIn wsL_pair (wsV RL 37 RX2 yX2_locked wsX2_locked) := goodIn_app (goodIn_of _ (by decide +kernel)) ggL_pair_X2_locked
set_option maxRecDepth 20000 in
theorem ggL_pair_X2_bands : GoodIn wsL_pair wsX2_bands := goodIn_r _ [117, 8, 10, 11, 12, 13, 14, 15, 16, 17, 18, 118, 119, 120, 6, 121, 9, 19, 20, 21, 22, 23, 24, 25, 26, 27, 28, 29, 30, 31, 32, 33, 34, 35, 36, 37, 38, 39, 40, 41, 42, 43, 44, 45, 46, 47, 48, 49, 50, 51, 52, 53, 54, 55, 56, 57, 58, 59, 60, 122, 123, 124, 125, 126, 127, 128, 129, 130, 131, 132, 133, 134, 135, 136, 137, 138, 139, 140, 141, 142, 143, 144, 145, 146] (by decide +kernel) (by decide +kernel)
set_option maxRecDepth 20000 in
theorem gL_pair_X2_bands : GoodIn wsL_pair (wsV RL 42 RX2 yX2_bands wsX2_bands) := goodIn_app (goodIn_of _ (by decide +kernel)) ggL_pair_X2_bands
set_option maxRecDepth 20000 in
theorem ggL_whole_X2_plateCount : GoodIn wsL_whole wsX2_plateCount := goodIn_r _ [5, 6, 173, 174, 175, 176, 177, 178, 179, 180, 181, 182, 183, 184, 185] (by decide +kernel) (by decide +kernel)
set_option maxRecDepth 20000 in
theorem gL_whole_X2_plateCount : GoodIn wsL_whole (wsV RL 45 RX2 yX2_plateCount wsX2_plateCount) := goodIn_app (goodIn_of _ (by decide +kernel)) ggL_whole_X2_plateCount
set_option maxRecDepth 20000 in
theorem ggL_whole_X2_bands : GoodIn wsL_whole wsX2_bands := goodIn_r _ [10, 6, 11, 12, 13, 14, 15, 16, 17, 18, 19, 20, 21, 22, 4, 23, 24, 25, 26, 27, 28, 29, 30, 31, 32, 33, 34, 35, 36, 37, 38, 39, 40, 41, 42, 43, 44, 45, 46, 47, 48, 49, 50, 51, 52, 53, 54, 55, 56, 57, 58, 59, 60, 61, 62, 63, 64, 65, 66, 67, 68, 69, 70, 71, 72, 73, 173, 174, 175, 176, 177, 178, 179, 180, 181, 182, 183, 184, 185, 186, 187, 188, 189, 190] (by decide +kernel) (by decide +kernel)
set_option maxRecDepth 20000 in
theorem gL_whole_X2_bands : GoodIn wsL_whole (wsV RL 42 RX2 yX2_bands wsX2_bands) := goodIn_app (goodIn_of _ (by decide +kernel)) ggL_whole_X2_bands
set_option maxRecDepth 20000 in
theorem ggL_whole_X2_tripleBands : GoodIn wsL_whole wsX2_tripleBands := goodIn_r _ [77, 6, 24, 11, 12, 13, 14, 15, 16, 17, 18, 19, 78, 26, 79, 80, 33, 34, 35, 36, 37, 38, 39, 40, 41, 42, 43, 44, 45, 46, 4, 47, 81, 82, 83, 52, 53, 54, 55, 56, 57, 84, 85, 86, 62, 63, 64, 65, 66, 67, 68, 69, 70, 71, 72, 73, 173, 174, 175, 176, 177, 178, 179, 180, 181, 182, 183, 184, 185, 186, 187, 188, 189, 190] (by decide +kernel) (by decide +kernel)
set_option maxRecDepth 20000 in
theorem gL_whole_X2_tripleBands : GoodIn wsL_whole (wsV RL 49 RX2 yX2_tripleBands wsX2_tripleBands) := goodIn_app (goodIn_of _ (by decide +kernel)) ggL_whole_X2_tripleBands
set_option maxRecDepth 20000 in
theorem ggL_whole_X2_byAngle : GoodIn wsL_whole wsX2_byAngle := goodIn_r _ [90, 6, 91, 92, 93, 4, 94, 55, 12, 56, 57, 37, 15, 16, 17, 18, 19, 52, 53, 54, 36, 173, 174, 175, 176, 177, 178, 179, 180, 181, 182, 183, 184, 185] (by decide +kernel) (by decide +kernel)
set_option maxRecDepth 20000 in
theorem gL_whole_X2_byAngle : GoodIn wsL_whole (wsV RL 52 RX2 yX2_byAngle wsX2_byAngle) := goodIn_app (goodIn_of _ (by decide +kernel)) ggL_whole_X2_byAngle
set_option maxRecDepth 20000 in
theorem ggL_whole_X2_commonTile : GoodIn wsL_whole wsX2_commonTile := goodIn_r _ [98, 6, 99, 100, 101, 4, 102, 33, 12, 34, 35, 36, 37, 15, 16, 17, 18, 19, 52, 53, 54, 55, 56, 57, 103, 104, 105, 106, 46, 47, 173, 174, 175, 176, 177, 178, 179, 180, 181, 182, 183, 184, 185] (by decide +kernel) (by decide +kernel)
set_option maxRecDepth 20000 in
theorem gL_whole_X2_commonTile : GoodIn wsL_whole (wsV RL 55 RX2 yX2_commonTile wsX2_commonTile) := goodIn_app (goodIn_of _ (by decide +kernel)) ggL_whole_X2_commonTile
set_option maxRecDepth 20000 in
theorem ggL_whole_X2_tile : GoodIn wsL_whole wsX2_tile := goodIn_r _ [110, 6, 16, 12, 17, 18, 19, 99, 100, 101, 4, 102, 33, 34, 35, 36, 37, 15, 52, 53, 54, 55, 56, 57, 103, 104, 105, 106, 46, 47, 173, 174, 175, 176, 177, 178, 179, 180, 181, 182, 183, 184, 185] (by decide +kernel) (by decide +kernel)
set_option maxRecDepth 20000 in
theorem gL_whole_X2_tile : GoodIn wsL_whole (wsV RL 59 RX2 yX2_tile wsX2_tile) := goodIn_app (goodIn_of _ (by decide +kernel)) ggL_whole_X2_tile
set_option maxRecDepth 20000 in
theorem ggL_whole_X2_cellArea : GoodIn wsL_whole wsX2_cellArea := goodIn_r _ [114, 6, 16, 12, 17, 18, 19, 33, 34, 35, 36, 37, 15, 173, 174, 175, 176, 177, 178, 179, 180, 181, 182, 183, 184, 185] (by decide +kernel) (by decide +kernel)
set_option maxRecDepth 20000 in
theorem gL_whole_X2_cellArea : GoodIn wsL_whole (wsV RL 15 RX2 yX2_cellArea wsX2_cellArea) := goodIn_app (goodIn_of _ (by decide +kernel)) ggL_whole_X2_cellArea
set_option maxRecDepth 20000 in
theorem ggL_whole_X2_cellP : GoodIn wsL_whole wsX2_cellP := goodIn_r _ [118, 6, 16, 12, 17, 18, 19, 52, 53, 54, 36, 15, 173, 174, 175, 176, 177, 178, 179, 180, 181, 182, 183, 184, 185] (by decide +kernel) (by decide +kernel)
set_option maxRecDepth 20000 in
theorem gL_whole_X2_cellP : GoodIn wsL_whole (wsV RL 62 RX2 yX2_cellP wsX2_cellP) := goodIn_app (goodIn_of _ (by decide +kernel)) ggL_whole_X2_cellP
set_option maxRecDepth 20000 in
theorem ggL_whole_X2_cellQ : GoodIn wsL_whole wsX2_cellQ := goodIn_r _ [122, 6, 16, 12, 17, 18, 19, 55, 56, 57, 37, 15, 173, 174, 175, 176, 177, 178, 179, 180, 181, 182, 183, 184, 185] (by decide +kernel) (by decide +kernel)
set_option maxRecDepth 20000 in
theorem gL_whole_X2_cellQ : GoodIn wsL_whole (wsV RL 65 RX2 yX2_cellQ wsX2_cellQ) := goodIn_app (goodIn_of _ (by decide +kernel)) ggL_whole_X2_cellQ
set_option maxRecDepth 20000 in
theorem ggL_whole_X2_worstPeriod : GoodIn wsL_whole wsX2_worstPeriod := goodIn_r _ [126, 127, 128, 129, 4, 130, 131, 132, 133, 134, 135, 6, 24, 136, 12, 137, 138, 19, 139, 26, 140, 141, 142, 143, 144, 145, 78, 79, 80, 33, 34, 35, 36, 37, 15, 16, 17, 18, 38, 39, 40, 41, 42, 43, 44, 45, 46, 47, 81, 82, 83, 52, 53, 54, 55, 56, 57, 84, 85, 86, 62, 63, 64, 65, 66, 146, 25, 27, 28, 29, 30, 31, 32, 48, 49, 50, 51, 58, 59, 60, 61, 147, 148, 149, 70, 71, 72, 73, 150, 151, 152, 153, 154, 155, 173, 174, 175, 176, 177, 178, 179, 180, 181, 182, 183, 184, 185, 186, 187, 188, 189, 190] (by decide +kernel) (by decide +kernel)
set_option maxRecDepth 20000 in
theorem gL_whole_X2_worstPeriod : GoodIn wsL_whole (wsV RL 68 RX2 yX2_worstPeriod wsX2_worstPeriod) := goodIn_app (goodIn_of _ (by decide +kernel)) ggL_whole_X2_worstPeriod
set_option maxRecDepth 20000 in
theorem ggL_whole_X2_worstPlates : GoodIn wsL_whole wsX2_worstPlates := goodIn_r _ [130, 131, 132, 133, 134, 4, 135, 6, 24, 136, 12, 137, 138, 19, 139, 26, 140, 141, 142, 143, 144, 145, 78, 79, 80, 33, 34, 35, 36, 37, 15, 16, 17, 18, 38, 39, 40, 41, 42, 43, 44, 45, 46, 47, 81, 82, 83, 52, 53, 54, 55, 56, 57, 84, 85, 86, 62, 63, 64, 65, 66, 146, 25, 27, 28, 29, 30, 31, 32, 48, 49, 50, 51, 58, 59, 60, 61, 147, 148, 149, 70, 71, 72, 73, 150, 151, 152, 153, 154, 155, 173, 174, 175, 176, 177, 178, 179, 180, 181, 182, 183, 184, 185, 186, 187, 188, 189, 190] (by decide +kernel) (by decide +kernel)
set_option maxRecDepth 20000 in
theorem gL_whole_X2_worstPlates : GoodIn wsL_whole (wsV RL 71 RX2 yX2_worstPlates wsX2_worstPlates) := goodIn_app (goodIn_of _ (by decide +kernel)) ggL_whole_X2_worstPlates
set_option maxRecDepth 20000 in
theorem ggL_whole_X2_allBands : GoodIn wsL_whole wsX2_allBands := goodIn_r _ [160, 6, 161, 162, 163, 4, 164, 131, 24, 136, 12, 137, 138, 19, 139, 26, 140, 141, 142, 143, 144, 145, 78, 79, 80, 33, 34, 35, 36, 37, 15, 16, 17, 18, 38, 39, 40, 41, 42, 43, 44, 45, 46, 47, 81, 82, 83, 52, 53, 54, 55, 56, 57, 84, 85, 86, 62, 63, 64, 65, 66, 146, 25, 27, 28, 29, 30, 31, 32, 48, 49, 50, 51, 58, 59, 60, 61, 67, 68, 69, 70, 71, 72, 73, 173, 174, 175, 176, 177, 178, 179, 180, 181, 182, 183, 184, 185, 186, 187, 188, 189, 190] (by decide +kernel) (by decide +kernel)
set_option maxRecDepth 20000 in
theorem gL_whole_X2_allBands : GoodIn wsL_whole (wsV RL 74 RX2 yX2_allBands wsX2_allBands) := goodIn_app (goodIn_of _ (by decide +kernel)) ggL_whole_X2_allBands
set_option maxRecDepth 20000 in
theorem ggL_whole_X2_worstPair : GoodIn wsL_whole wsX2_worstPair := goodIn_r _ [168, 6, 20, 21, 22, 4, 23, 24, 25, 26, 27, 28, 29, 30, 31, 32, 33, 12, 34, 35, 36, 37, 15, 16, 17, 18, 19, 38, 39, 40, 41, 42, 43, 44, 45, 46, 47, 48, 49, 50, 51, 52, 53, 54, 55, 56, 57, 58, 59, 60, 61, 62, 63, 64, 65, 66, 67, 68, 69, 70, 71, 72, 73, 173, 174, 175, 176, 177, 178, 179, 180, 181, 182, 183, 184, 185, 186, 187, 188, 189, 190] (by decide +kernel) (by decide +kernel)
set_option maxRecDepth 20000 in
theorem gL_whole_X2_worstPair : GoodIn wsL_whole (wsV RL 77 RX2 yX2_worstPair wsX2_worstPair) := goodIn_app (goodIn_of _ (by decide +kernel)) ggL_whole_X2_worstPair
set_option maxRecDepth 20000 in
theorem ggL_whole_X2_longLimit : GoodIn wsL_whole wsX2_longLimit := goodIn_r _ [172, 6, 173, 174, 175, 176, 177, 178, 179, 180, 181, 182, 183, 184, 185] (by decide +kernel) (by decide +kernel)
set_option maxRecDepth 20000 in
theorem gL_whole_X2_longLimit : GoodIn wsL_whole (wsV RL 80 RX2 yX2_longLimit wsX2_longLimit) := goodIn_app (goodIn_of _ (by decide +kernel)) ggL_whole_X2_longLimit
set_option maxRecDepth 20000 in
theorem ggL_turned_L_low : GoodIn wsL_turned wsL_low := goodIn_r _ [5, 6] (by decide +kernel) (by decide +kernel)
set_option maxRecDepth 20000 in
theorem gL_turned_L_low : GoodIn wsL_turned (va_wsS RL 83 yL_low wsL_low) := goodIn_app (goodIn_of _ (by decide +kernel)) ggL_turned_L_low
set_option maxRecDepth 20000 in
theorem ggL_turned_X2_squareNumerator : GoodIn wsL_turned wsX2_squareNumerator := goodIn_r _ [11, 12, 13, 14, 15, 16, 17, 10, 18, 19, 20, 21, 22, 23, 24, 25, 26, 27, 28, 29, 30, 31, 32, 33, 34, 35, 36, 37, 38, 39, 40, 41, 42, 43, 44, 45, 46, 47, 48, 49, 50, 51, 52, 53, 54, 55, 56, 57, 58, 59, 60, 61, 62, 63, 64, 65, 66, 67, 68, 69, 70, 85, 86, 87, 88, 89, 90, 91, 92, 93, 94, 95, 96, 97, 98, 99, 100, 101, 102] (by decide +kernel) (by decide +kernel)
set_option maxRecDepth 20000 in
theorem gL_turned_X2_squareNumerator : GoodIn wsL_turned (wsV RL 86 RX2 yX2_squareNumerator wsX2_squareNumerator) := goodIn_app (goodIn_of _ (by decide +kernel)) ggL_turned_X2_squareNumerator
set_option maxRecDepth 20000 in
theorem ggL_turned_X2_squareDenominator : GoodIn wsL_turned wsX2_squareDenominator := goodIn_r _ [74, 12, 13, 14, 15, 16, 17, 10, 18, 19, 20, 21, 22, 23, 24, 25, 26, 27, 28, 29, 30, 31, 32, 33, 34, 35, 36, 37, 38, 39, 40, 41, 42, 43, 44, 45, 46, 47, 48, 49, 50, 51, 52, 53, 54, 55, 56, 57, 58, 59, 60, 61, 62, 63, 64, 65, 75, 76, 77, 69, 70, 85, 86, 87, 88, 89, 90, 91, 92, 93, 94, 95, 96, 97, 98, 99, 100, 101, 102] (by decide +kernel) (by decide +kernel)
set_option maxRecDepth 20000 in
theorem gL_turned_X2_squareDenominator : GoodIn wsL_turned (wsV RL 90 RX2 yX2_squareDenominator wsX2_squareDenominator) := goodIn_app (goodIn_of _ (by decide +kernel)) ggL_turned_X2_squareDenominator
set_option maxRecDepth 20000 in
theorem ggL_turned_X2_kind : GoodIn wsL_turned wsX2_kind := goodIn_r _ [81, 13, 14, 15, 16, 17, 10, 18, 19, 20, 21, 22, 23, 24, 25, 26, 27, 28, 29, 30, 31, 32, 33, 34, 35, 36, 37, 38, 39, 40, 41, 42, 43, 44, 45, 46, 47, 48, 49, 50, 51, 52, 53, 54, 55, 56, 57, 58, 59, 60, 61, 62, 63, 64, 65, 82, 83, 84, 85, 86, 87, 88, 89, 90, 91, 92, 93, 94, 95, 96, 97, 98, 99, 100, 101, 102] (by decide +kernel) (by decide +kernel)
set_option maxRecDepth 20000 in
theorem gL_turned_X2_kind : GoodIn wsL_turned (wsV RL 93 RX2 yX2_kind wsX2_kind) := goodIn_app (goodIn_of _ (by decide +kernel)) ggL_turned_X2_kind
set_option maxRecDepth 20000 in
theorem ggL_searches_X2_allBands : GoodIn wsL_searches wsX2_allBands := goodIn_r _ [5, 6, 7, 8, 9, 4, 10, 11, 12, 13, 14, 15, 16, 17, 18, 19, 20, 21, 22, 23, 24, 25, 26, 27, 28, 29, 30, 31, 32, 33, 34, 35, 36, 37, 38, 39, 40, 41, 42, 43, 44, 45, 46, 47, 48, 49, 50, 51, 52, 53, 54, 55, 56, 57, 58, 59, 60, 61, 62, 63, 64, 65, 66, 67, 68, 69, 70, 71, 72, 73, 74, 75, 76, 77, 78, 79, 80, 81, 82, 83, 84, 85, 86, 87, 144, 145, 146, 147, 148, 149, 150, 151, 152, 153, 154, 155, 156, 157, 158, 159, 160, 161] (by decide +kernel) (by decide +kernel)
set_option maxRecDepth 20000 in
theorem gL_searches_X2_allBands : GoodIn wsL_searches (wsV RL 74 RX2 yX2_allBands wsX2_allBands) := goodIn_app (goodIn_of _ (by decide +kernel)) ggL_searches_X2_allBands
set_option maxRecDepth 20000 in
theorem ggL_searches_X2_cellArea : GoodIn wsL_searches wsX2_cellArea := goodIn_r _ [91, 6, 35, 14, 36, 37, 17, 29, 30, 31, 32, 33, 34, 144, 145, 146, 147, 148, 149, 150, 151, 152, 153, 154, 155, 156] (by decide +kernel) (by decide +kernel)
set_option maxRecDepth 20000 in
theorem gL_searches_X2_cellArea : GoodIn wsL_searches (wsV RL 15 RX2 yX2_cellArea wsX2_cellArea) := goodIn_app (goodIn_of _ (by decide +kernel)) ggL_searches_X2_cellArea
set_option maxRecDepth 20000 in
theorem ggL_searches_L_low : GoodIn wsL_searches wsL_low := goodIn_r _ [95, 96] (by decide +kernel) (by decide +kernel)
set_option maxRecDepth 20000 in
theorem gL_searches_L_low : GoodIn wsL_searches (va_wsS RL 83 yL_low wsL_low) := goodIn_app (goodIn_of _ (by decide +kernel)) ggL_searches_L_low
set_option maxRecDepth 20000 in
theorem ggL_searches_X2_bestScreen : GoodIn wsL_searches wsX2_bestScreen := goodIn_r _ [100, 6, 35, 14, 36, 37, 17, 101, 102, 4, 103, 104, 105, 106, 107, 108, 109, 110, 111, 112, 113, 114, 115, 116, 117, 118, 32, 33, 34, 7, 8, 9, 10, 11, 12, 13, 15, 16, 18, 19, 20, 21, 22, 23, 24, 25, 26, 27, 28, 29, 30, 31, 38, 39, 40, 41, 42, 43, 44, 45, 46, 47, 48, 49, 50, 51, 52, 53, 54, 55, 56, 57, 58, 59, 60, 61, 62, 63, 64, 65, 66, 67, 68, 69, 70, 71, 72, 73, 74, 75, 76, 77, 78, 79, 80, 81, 82, 83, 84, 85, 86, 87, 144, 145, 146, 147, 148, 149, 150, 151, 152, 153, 154, 155, 156, 157, 158, 159, 160, 161] (by decide +kernel) (by decide +kernel)
set_option maxRecDepth 20000 in
theorem gL_searches_X2_bestScreen : GoodIn wsL_searches (wsV RL 97 RX2 yX2_bestScreen wsX2_bestScreen) := goodIn_app (goodIn_of _ (by decide +kernel)) ggL_searches_X2_bestScreen
set_option maxRecDepth 20000 in
theorem ggL_searches_X2_bandsWithBest : GoodIn wsL_searches wsX2_bandsWithBest := goodIn_r _ [122, 6, 108, 35, 14, 36, 37, 17, 101, 102, 4, 103, 104, 105, 106, 107, 109, 110, 111, 112, 113, 114, 115, 116, 117, 118, 32, 33, 34, 7, 8, 9, 10, 11, 12, 13, 15, 16, 18, 19, 20, 21, 22, 23, 24, 25, 26, 27, 28, 29, 30, 31, 38, 39, 40, 41, 42, 43, 44, 45, 46, 47, 48, 49, 50, 51, 52, 53, 54, 55, 56, 57, 58, 59, 60, 61, 62, 63, 64, 65, 66, 67, 68, 69, 70, 71, 72, 73, 74, 75, 76, 77, 78, 79, 80, 81, 82, 83, 84, 85, 86, 87, 144, 145, 146, 147, 148, 149, 150, 151, 152, 153, 154, 155, 156, 157, 158, 159, 160, 161] (by decide +kernel) (by decide +kernel)
set_option maxRecDepth 20000 in
theorem gL_searches_X2_bandsWithBest : GoodIn wsL_searches (wsV RL 100 RX2 yX2_bandsWithBest wsX2_bandsWithBest) := goodIn_app (goodIn_of _ (by decide +kernel)) ggL_searches_X2_bandsWithBest
set_option maxRecDepth 20000 in
theorem ggL_searches_X2_setScreen : GoodIn wsL_searches wsX2_setScreen := goodIn_r _ [126, 6, 35, 14, 36, 37, 17, 127, 128, 4, 129, 130, 131, 132, 133, 134, 135, 136, 137, 138, 139, 113, 114, 115, 29, 30, 31, 32, 33, 34, 116, 117, 118, 144, 145, 146, 147, 148, 149, 150, 151, 152, 153, 154, 155, 156] (by decide +kernel) (by decide +kernel)
set_option maxRecDepth 20000 in
theorem gL_searches_X2_setScreen : GoodIn wsL_searches (wsV RL 103 RX2 yX2_setScreen wsX2_setScreen) := goodIn_app (goodIn_of _ (by decide +kernel)) ggL_searches_X2_setScreen
set_option maxRecDepth 20000 in
theorem ggL_searches_X2_undo : GoodIn wsL_searches wsX2_undo := goodIn_r _ [143, 134, 135, 6, 113, 114, 4, 115, 144, 145, 146, 147, 148, 149, 150, 151, 152, 153, 154, 155, 156] (by decide +kernel) (by decide +kernel)
set_option maxRecDepth 20000 in
theorem gL_searches_X2_undo : GoodIn wsL_searches (wsV RL 106 RX2 yX2_undo wsX2_undo) := goodIn_app (goodIn_of _ (by decide +kernel)) ggL_searches_X2_undo
set_option maxRecDepth 20000 in
theorem ggL_acts_L_low : GoodIn wsL_acts wsL_low := goodIn_r _ [4, 5] (by decide +kernel) (by decide +kernel)
set_option maxRecDepth 20000 in
theorem gL_acts_L_low : GoodIn wsL_acts (va_wsS RL 83 yL_low wsL_low) := goodIn_app (goodIn_of _ (by decide +kernel)) ggL_acts_L_low
set_option maxRecDepth 20000 in
theorem ggL_acts_X2_plateCount : GoodIn wsL_acts wsX2_plateCount := goodIn_r _ [10, 11, 201, 202, 203, 204, 205, 206, 207, 208, 209, 210, 211, 212, 213] (by decide +kernel) (by decide +kernel)
set_option maxRecDepth 20000 in
theorem gL_acts_X2_plateCount : GoodIn wsL_acts (wsV RL 45 RX2 yX2_plateCount wsX2_plateCount) := goodIn_app (goodIn_of _ (by decide +kernel)) ggL_acts_X2_plateCount
set_option maxRecDepth 20000 in
theorem ggL_acts_X2_historySize : GoodIn wsL_acts wsX2_historySize := goodIn_r _ [15, 16, 201, 202, 203, 204, 205, 206, 207] (by decide +kernel) (by decide +kernel)
set_option maxRecDepth 20000 in
theorem gL_acts_X2_historySize : GoodIn wsL_acts (wsV RL 109 RX2 yX2_historySize wsX2_historySize) := goodIn_app (goodIn_of _ (by decide +kernel)) ggL_acts_X2_historySize
set_option maxRecDepth 20000 in
theorem ggL_acts_X2_addPlate : GoodIn wsL_acts wsX2_addPlate := goodIn_r _ [20, 11, 21, 22, 9, 23, 24, 25, 26, 27, 16, 28, 29, 30, 31, 32, 33, 34, 35, 36, 37, 38, 39, 40, 41, 42, 43, 44, 45, 46, 47, 48, 49, 50, 201, 202, 203, 204, 205, 206, 207, 208, 209, 210, 211, 212, 213] (by decide +kernel) (by decide +kernel)
set_option maxRecDepth 20000 in
theorem gL_acts_X2_addPlate : GoodIn wsL_acts (wsV RL 112 RX2 yX2_addPlate wsX2_addPlate) := goodIn_app (goodIn_of _ (by decide +kernel)) ggL_acts_X2_addPlate
set_option maxRecDepth 20000 in
theorem ggL_acts_X2_cellP : GoodIn wsL_acts wsX2_cellP := goodIn_r _ [54, 11, 48, 37, 49, 50, 40, 55, 56, 57, 45, 47, 201, 202, 203, 204, 205, 206, 207, 208, 209, 210, 211, 212, 213] (by decide +kernel) (by decide +kernel)
set_option maxRecDepth 20000 in
theorem gL_acts_X2_cellP : GoodIn wsL_acts (wsV RL 62 RX2 yX2_cellP wsX2_cellP) := goodIn_app (goodIn_of _ (by decide +kernel)) ggL_acts_X2_cellP
set_option maxRecDepth 20000 in
theorem ggL_acts_X2_cellQ : GoodIn wsL_acts wsX2_cellQ := goodIn_r _ [61, 11, 48, 37, 49, 50, 40, 62, 63, 64, 46, 47, 201, 202, 203, 204, 205, 206, 207, 208, 209, 210, 211, 212, 213] (by decide +kernel) (by decide +kernel)
set_option maxRecDepth 20000 in
theorem gL_acts_X2_cellQ : GoodIn wsL_acts (wsV RL 65 RX2 yX2_cellQ wsX2_cellQ) := goodIn_app (goodIn_of _ (by decide +kernel)) ggL_acts_X2_cellQ
set_option maxRecDepth 20000 in
theorem ggL_acts_X2_cellArea : GoodIn wsL_acts wsX2_cellArea := goodIn_r _ [68, 11, 48, 37, 49, 50, 40, 69, 70, 71, 45, 46, 47, 201, 202, 203, 204, 205, 206, 207, 208, 209, 210, 211, 212, 213] (by decide +kernel) (by decide +kernel)
set_option maxRecDepth 20000 in
theorem gL_acts_X2_cellArea : GoodIn wsL_acts (wsV RL 15 RX2 yX2_cellArea wsX2_cellArea) := goodIn_app (goodIn_of _ (by decide +kernel)) ggL_acts_X2_cellArea
set_option maxRecDepth 20000 in
theorem ggL_acts_X2_setScreen : GoodIn wsL_acts wsX2_setScreen := goodIn_r _ [75, 11, 48, 37, 49, 50, 40, 21, 22, 9, 23, 24, 25, 26, 27, 16, 28, 29, 30, 31, 32, 33, 34, 35, 69, 70, 71, 45, 46, 47, 42, 43, 44, 201, 202, 203, 204, 205, 206, 207, 208, 209, 210, 211, 212, 213] (by decide +kernel) (by decide +kernel)
set_option maxRecDepth 20000 in
theorem gL_acts_X2_setScreen : GoodIn wsL_acts (wsV RL 103 RX2 yX2_setScreen wsX2_setScreen) := goodIn_app (goodIn_of _ (by decide +kernel)) ggL_acts_X2_setScreen
set_option maxRecDepth 20000 in
theorem ggL_acts_X2_removePlate : GoodIn wsL_acts wsX2_removePlate := goodIn_r _ [79, 11, 48, 37, 49, 50, 40, 24, 25, 26, 9, 27, 16, 28, 29, 30, 31, 32, 33, 34, 35, 80, 81, 82, 47, 83, 55, 56, 57, 45, 84, 62, 63, 64, 46, 41, 42, 43, 44, 201, 202, 203, 204, 205, 206, 207, 208, 209, 210, 211, 212, 213] (by decide +kernel) (by decide +kernel)
set_option maxRecDepth 20000 in
theorem gL_acts_X2_removePlate : GoodIn wsL_acts (wsV RL 115 RX2 yX2_removePlate wsX2_removePlate) := goodIn_app (goodIn_of _ (by decide +kernel)) ggL_acts_X2_removePlate
set_option maxRecDepth 20000 in
theorem ggL_acts_X2_allBands : GoodIn wsL_acts wsX2_allBands := goodIn_r _ [88, 11, 89, 90, 91, 9, 92, 93, 94, 95, 37, 96, 97, 40, 98, 99, 100, 101, 102, 103, 104, 105, 106, 107, 108, 69, 70, 71, 45, 46, 47, 48, 49, 50, 109, 110, 111, 112, 113, 114, 115, 116, 117, 118, 119, 120, 121, 55, 56, 57, 62, 63, 64, 122, 123, 124, 125, 126, 127, 128, 129, 130, 131, 132, 133, 134, 135, 136, 137, 138, 139, 140, 141, 142, 143, 144, 145, 146, 147, 148, 149, 150, 151, 152, 201, 202, 203, 204, 205, 206, 207, 208, 209, 210, 211, 212, 213, 214, 215, 216, 217, 218] (by decide +kernel) (by decide +kernel)
set_option maxRecDepth 20000 in
theorem gL_acts_X2_allBands : GoodIn wsL_acts (wsV RL 74 RX2 yX2_allBands wsX2_allBands) := goodIn_app (goodIn_of _ (by decide +kernel)) ggL_acts_X2_allBands
set_option maxRecDepth 20000 in
theorem ggL_acts_X2_longLimit : GoodIn wsL_acts wsX2_longLimit := goodIn_r _ [156, 11, 201, 202, 203, 204, 205, 206, 207, 208, 209, 210, 211, 212, 213] (by decide +kernel) (by decide +kernel)
set_option maxRecDepth 20000 in
theorem gL_acts_X2_longLimit : GoodIn wsL_acts (wsV RL 80 RX2 yX2_longLimit wsX2_longLimit) := goodIn_app (goodIn_of _ (by decide +kernel)) ggL_acts_X2_longLimit
set_option maxRecDepth 20000 in
theorem ggL_acts_X2_save : GoodIn wsL_acts wsX2_save := goodIn_r _ [160, 11, 161, 162, 163, 164, 9, 165, 33, 34, 35, 201, 202, 203, 204, 205, 206, 207, 208, 209, 210, 211, 212, 213] (by decide +kernel) (by decide +kernel)
set_option maxRecDepth 20000 in
theorem gL_acts_X2_save : GoodIn wsL_acts (wsV RL 118 RX2 yX2_save wsX2_save) := goodIn_app (goodIn_of _ (by decide +kernel)) ggL_acts_X2_save
set_option maxRecDepth 20000 in
theorem ggL_acts_X2_setLimits : GoodIn wsL_acts wsX2_setLimits := goodIn_r _ [169, 11, 24, 25, 26, 9, 27, 16, 28, 29, 30, 31, 32, 33, 34, 35, 201, 202, 203, 204, 205, 206, 207, 208, 209, 210, 211, 212, 213] (by decide +kernel) (by decide +kernel)
set_option maxRecDepth 20000 in
theorem gL_acts_X2_setLimits : GoodIn wsL_acts (wsV RL 121 RX2 yX2_setLimits wsX2_setLimits) := goodIn_app (goodIn_of _ (by decide +kernel)) ggL_acts_X2_setLimits
set_option maxRecDepth 20000 in
theorem ggL_acts_X2_restore : GoodIn wsL_acts wsX2_restore := goodIn_r _ [173, 162, 161, 11, 163, 164, 9, 165, 24, 25, 26, 27, 16, 28, 29, 30, 31, 32, 33, 34, 35, 201, 202, 203, 204, 205, 206, 207, 208, 209, 210, 211, 212, 213] (by decide +kernel) (by decide +kernel)
set_option maxRecDepth 20000 in
theorem gL_acts_X2_restore : GoodIn wsL_acts (wsV RL 124 RX2 yX2_restore wsX2_restore) := goodIn_app (goodIn_of _ (by decide +kernel)) ggL_acts_X2_restore
set_option maxRecDepth 20000 in
theorem ggL_acts_X2_undo : GoodIn wsL_acts wsX2_undo := goodIn_r _ [177, 16, 28, 11, 33, 34, 9, 35, 201, 202, 203, 204, 205, 206, 207, 208, 209, 210, 211, 212, 213] (by decide +kernel) (by decide +kernel)
set_option maxRecDepth 20000 in
theorem gL_acts_X2_undo : GoodIn wsL_acts (wsV RL 106 RX2 yX2_undo wsX2_undo) := goodIn_app (goodIn_of _ (by decide +kernel)) ggL_acts_X2_undo
set_option maxRecDepth 20000 in
theorem ggL_acts_X2_bestScreen : GoodIn wsL_acts wsX2_bestScreen := goodIn_r _ [181, 11, 48, 37, 49, 50, 40, 182, 183, 9, 184, 185, 186, 187, 188, 189, 190, 191, 192, 193, 33, 34, 35, 42, 43, 44, 45, 46, 47, 89, 90, 91, 92, 93, 94, 95, 96, 97, 98, 99, 100, 101, 102, 103, 104, 105, 106, 107, 108, 69, 70, 71, 109, 110, 111, 112, 113, 114, 115, 116, 117, 118, 119, 120, 121, 55, 56, 57, 62, 63, 64, 122, 123, 124, 125, 126, 127, 128, 129, 130, 131, 132, 133, 134, 135, 136, 137, 138, 139, 140, 141, 142, 143, 144, 145, 146, 147, 148, 149, 150, 151, 152, 201, 202, 203, 204, 205, 206, 207, 208, 209, 210, 211, 212, 213, 214, 215, 216, 217, 218] (by decide +kernel) (by decide +kernel)
set_option maxRecDepth 20000 in
theorem gL_acts_X2_bestScreen : GoodIn wsL_acts (wsV RL 97 RX2 yX2_bestScreen wsX2_bestScreen) := goodIn_app (goodIn_of _ (by decide +kernel)) ggL_acts_X2_bestScreen
set_option maxRecDepth 20000 in
theorem ggL_acts_L_searches : GoodIn wsL_acts wsL_searches := goodIn_r _ [196, 85, 86, 87, 9, 88, 11, 89, 90, 91, 92, 93, 94, 95, 37, 96, 97, 40, 98, 99, 100, 101, 102, 103, 104, 105, 106, 107, 108, 69, 70, 71, 45, 46, 47, 48, 49, 50, 109, 110, 111, 112, 113, 114, 115, 116, 117, 118, 119, 120, 121, 55, 56, 57, 62, 63, 64, 122, 123, 124, 125, 126, 127, 128, 129, 130, 131, 132, 133, 134, 135, 136, 137, 138, 139, 140, 141, 142, 143, 144, 145, 146, 147, 148, 149, 150, 151, 152, 65, 66, 67, 68, 1, 2, 3, 4, 5, 178, 179, 180, 181, 182, 183, 184, 185, 186, 187, 188, 189, 190, 191, 192, 193, 33, 34, 35, 42, 43, 44, 197, 198, 199, 200, 72, 73, 74, 75, 21, 22, 23, 24, 25, 26, 27, 16, 28, 29, 30, 31, 32, 174, 175, 176, 177, 201, 202, 203, 204, 205, 206, 207, 208, 209, 210, 211, 212, 213, 214, 215, 216, 217, 218] (by decide +kernel) (by decide +kernel)
set_option maxRecDepth 20000 in
theorem gL_acts_L_searches : GoodIn wsL_acts (va_wsS RL 127 yL_searches wsL_searches) := goodIn_app (goodIn_of _ (by decide +kernel)) ggL_acts_L_searches
set_option maxRecDepth 20000 in
theorem ggL_law_X2_init : GoodIn wsL_law wsX2_init := goodIn_r _ [6, 7, 8, 9, 10, 11, 12, 13, 14, 15, 16, 17, 18, 19, 20, 21, 22, 23, 24, 25, 26, 27, 28, 29, 30, 31, 32, 33, 34, 35, 36, 37, 38, 39, 387, 388, 389, 390, 391, 392, 380, 381, 382, 383, 384, 385, 386, 393, 394, 395, 396, 397] (by decide +kernel) (by decide +kernel)
set_option maxRecDepth 20000 in
theorem gL_law_X2_init : GoodIn wsL_law (wsX2_init) := ggL_law_X2_init
set_option maxRecDepth 20000 in
theorem ggL_law_L_whole : GoodIn wsL_law wsL_whole := goodIn_r _ [43, 44, 45, 46, 2, 47, 13, 48, 49, 50, 51, 52, 12, 53, 54, 55, 56, 57, 58, 29, 59, 60, 61, 62, 22, 63, 21, 64, 65, 66, 67, 68, 69, 70, 71, 72, 27, 28, 73, 74, 75, 76, 77, 37, 38, 39, 78, 79, 80, 81, 82, 83, 84, 85, 86, 87, 88, 89, 90, 91, 92, 93, 94, 95, 96, 97, 36, 98, 99, 100, 101, 102, 103, 104, 105, 106, 107, 108, 109, 110, 111, 112, 113, 114, 115, 116, 117, 118, 119, 120, 121, 122, 123, 124, 125, 126, 127, 128, 129, 130, 131, 132, 133, 134, 135, 136, 137, 138, 139, 140, 141, 142, 143, 144, 145, 146, 147, 148, 149, 150, 151, 152, 153, 154, 155, 156, 157, 158, 159, 160, 161, 162, 163, 164, 165, 166, 167, 168, 169, 170, 171, 172, 173, 174, 175, 176, 177, 178, 179, 180, 181, 182, 183, 184, 185, 186, 187, 188, 189, 190, 191, 192, 193, 194, 195, 196, 197, 198, 199, 200, 201, 202, 203, 380, 381, 382, 383, 384, 385, 386, 387, 388, 389, 390, 391, 392, 393, 394, 395, 396, 397] (by decide +kernel) (by decide +kernel)
set_option maxRecDepth 20000 in
theorem gL_law_L_whole : GoodIn wsL_law (va_wsS RL 132 yL_whole wsL_whole) := goodIn_app (goodIn_of _ (by decide +kernel)) ggL_law_L_whole
set_option maxRecDepth 20000 in
theorem ggL_law_X2_undo : GoodIn wsL_law wsX2_undo := goodIn_r _ [207, 208, 15, 13, 209, 210, 2, 211, 380, 381, 382, 383, 384, 385, 386, 387, 388, 389, 390, 391, 392] (by decide +kernel) (by decide +kernel)
set_option maxRecDepth 20000 in
theorem gL_law_X2_undo : GoodIn wsL_law (wsV RL 106 RX2 yX2_undo wsX2_undo) := goodIn_app (goodIn_of _ (by decide +kernel)) ggL_law_X2_undo
set_option maxRecDepth 20000 in
theorem ggL_law_X2_restore : GoodIn wsL_law wsX2_restore := goodIn_r _ [215, 18, 16, 13, 216, 217, 2, 218, 219, 220, 221, 222, 208, 15, 223, 224, 225, 226, 209, 210, 211, 380, 381, 382, 383, 384, 385, 386, 387, 388, 389, 390, 391, 392] (by decide +kernel) (by decide +kernel)
set_option maxRecDepth 20000 in
theorem gL_law_X2_restore : GoodIn wsL_law (wsV RL 124 RX2 yX2_restore wsX2_restore) := goodIn_app (goodIn_of _ (by decide +kernel)) ggL_law_X2_restore
set_option maxRecDepth 20000 in
theorem ggL_law_L_lot : GoodIn wsL_law wsL_lot := goodIn_r _ [229, 230] (by decide +kernel) (by decide +kernel)
set_option maxRecDepth 20000 in
theorem gL_law_L_lot : GoodIn wsL_law (va_wsS RL 136 yL_lot wsL_lot) := goodIn_app (goodIn_of _ (by decide +kernel)) ggL_law_L_lot
set_option maxRecDepth 20000 in
theorem ggL_law_L_acts : GoodIn wsL_law wsL_acts := goodIn_r _ [233, 234, 235, 42, 236, 237, 44, 45, 46, 2, 47, 13, 238, 239, 240, 241, 208, 242, 243, 244, 245, 246, 247, 248, 219, 220, 221, 222, 15, 223, 224, 225, 226, 209, 210, 211, 249, 12, 250, 251, 29, 252, 253, 254, 255, 27, 28, 55, 56, 57, 58, 146, 147, 148, 149, 84, 85, 86, 150, 151, 152, 153, 87, 88, 89, 142, 143, 144, 145, 70, 71, 72, 256, 257, 258, 259, 260, 261, 262, 263, 264, 265, 266, 267, 268, 188, 189, 190, 191, 192, 193, 194, 195, 162, 22, 167, 168, 169, 170, 21, 171, 172, 173, 174, 175, 176, 109, 110, 111, 73, 74, 75, 76, 77, 37, 38, 39, 78, 79, 112, 113, 114, 115, 116, 117, 94, 95, 96, 97, 36, 177, 63, 64, 65, 66, 67, 68, 69, 80, 81, 82, 83, 90, 91, 92, 93, 98, 99, 100, 101, 102, 103, 104, 200, 201, 202, 203, 269, 270, 271, 272, 16, 18, 216, 217, 218, 273, 274, 275, 276, 212, 213, 214, 215, 204, 205, 206, 207, 277, 278, 279, 280, 281, 282, 283, 284, 285, 286, 287, 14, 288, 289, 290, 291, 292, 293, 294, 295, 296, 297, 298, 380, 381, 382, 383, 384, 385, 386, 387, 388, 389, 390, 391, 392, 393, 394, 395, 396, 397] (by decide +kernel) (by decide +kernel)
set_option maxRecDepth 20000 in
theorem gL_law_L_acts : GoodIn wsL_law (va_wsS RL 141 yL_acts wsL_acts) := goodIn_app (goodIn_of _ (by decide +kernel)) ggL_law_L_acts
set_option maxRecDepth 20000 in
theorem ggL_law_L_low : GoodIn wsL_law wsL_low := goodIn_r _ [236, 237] (by decide +kernel) (by decide +kernel)
set_option maxRecDepth 20000 in
theorem gL_law_L_low : GoodIn wsL_law (va_wsS RL 83 yL_low wsL_low) := goodIn_app (goodIn_of _ (by decide +kernel)) ggL_law_L_low
set_option maxRecDepth 20000 in
theorem ggL_law_X2_plateCount : GoodIn wsL_law wsX2_plateCount := goodIn_r _ [47, 13, 380, 381, 382, 383, 384, 385, 386, 387, 388, 389, 390, 391, 392] (by decide +kernel) (by decide +kernel)
set_option maxRecDepth 20000 in
theorem gL_law_X2_plateCount : GoodIn wsL_law (wsV RL 45 RX2 yX2_plateCount wsX2_plateCount) := goodIn_app (goodIn_of _ (by decide +kernel)) ggL_law_X2_plateCount
set_option maxRecDepth 20000 in
theorem ggL_law_L_turned : GoodIn wsL_law wsL_turned := goodIn_r _ [301, 302, 234, 235, 42, 236, 237, 303, 304, 305, 2, 306, 307, 22, 13, 308, 309, 310, 311, 52, 12, 53, 54, 55, 56, 57, 58, 29, 312, 313, 314, 30, 67, 21, 68, 69, 70, 71, 72, 27, 28, 73, 74, 75, 76, 77, 37, 38, 39, 78, 79, 315, 316, 317, 267, 84, 85, 86, 268, 87, 88, 89, 90, 91, 92, 93, 318, 319, 320, 135, 136, 321, 322, 323, 324, 325, 326, 327, 328, 329, 330, 331, 102, 103, 104, 380, 381, 382, 383, 384, 385, 386, 387, 388, 389, 390, 391, 392, 393, 394, 395, 396, 397] (by decide +kernel) (by decide +kernel)
set_option maxRecDepth 20000 in
theorem gL_law_L_turned : GoodIn wsL_law (va_wsS RL 144 yL_turned wsL_turned) := goodIn_app (goodIn_of _ (by decide +kernel)) ggL_law_L_turned
set_option maxRecDepth 20000 in
theorem ggL_law_L_pair : GoodIn wsL_law wsL_pair := goodIn_r _ [334, 302, 335, 336, 337, 338, 2, 339, 13, 22, 52, 12, 53, 54, 55, 56, 57, 58, 29, 63, 21, 64, 65, 66, 67, 68, 69, 70, 71, 72, 27, 28, 73, 74, 75, 76, 77, 37, 38, 39, 78, 79, 80, 81, 82, 83, 84, 85, 86, 87, 88, 89, 90, 91, 92, 93, 94, 95, 96, 97, 36, 340, 341, 342, 343, 344, 345, 142, 143, 144, 145, 346, 347, 348, 349, 350, 351, 352, 353, 354, 355, 356, 318, 319, 320, 135, 136, 357, 358, 359, 360, 325, 326, 327, 361, 362, 363, 364, 182, 183, 184, 185, 186, 365, 366, 367, 368, 369, 370, 371, 372, 373, 374, 375, 48, 49, 50, 51, 59, 60, 61, 62, 98, 99, 100, 101, 102, 103, 104, 380, 381, 382, 383, 384, 385, 386, 387, 388, 389, 390, 391, 392, 393, 394, 395, 396, 397] (by decide +kernel) (by decide +kernel)
set_option maxRecDepth 20000 in
theorem gL_law_L_pair : GoodIn wsL_law (va_wsS RL 148 yL_pair wsL_pair) := goodIn_app (goodIn_of _ (by decide +kernel)) ggL_law_L_pair
set_option maxRecDepth 20000 in
theorem ggL_law_X2_setOrder : GoodIn wsL_law wsX2_setOrder := goodIn_r _ [379, 13, 219, 220, 221, 2, 222, 208, 15, 223, 224, 225, 226, 209, 210, 211, 380, 381, 382, 383, 384, 385, 386, 387, 388, 389, 390, 391, 392] (by decide +kernel) (by decide +kernel)
set_option maxRecDepth 20000 in
theorem gL_law_X2_setOrder : GoodIn wsL_law (wsV RL 152 RX2 yX2_setOrder wsX2_setOrder) := goodIn_app (goodIn_of _ (by decide +kernel)) ggL_law_X2_setOrder
