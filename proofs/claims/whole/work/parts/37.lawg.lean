/-! the callees words are among the laws -/
set_option maxRecDepth 20000 in
theorem ggL_law_X2_init : GoodIn wsL_law wsX2_init := goodIn_r _ [8, 9, 10, 11, 12, 13, 14, 15, 16, 17, 18, 19, 20, 21, 22, 23, 24, 25, 26, 27, 28, 29, 30, 31, 32, 33, 34, 35, 36, 37, 38, 39, 40, 41, 655, 656, 657, 658, 659, 660, 638, 639, 640, 641, 642, 643, 644, 661, 662, 663, 664, 665] rfl (by decide +kernel)
set_option maxRecDepth 20000 in
theorem gL_law_X2_init : GoodIn wsL_law (wsX2_init) := ggL_law_X2_init
set_option maxRecDepth 20000 in
theorem ggL_law_X3_init : GoodIn wsL_law wsX3_init := goodIn_r _ [44, 45, 10, 11, 28, 46, 47, 48, 49, 50, 645, 646, 647, 648, 649, 650, 651, 652, 653, 654] rfl (by decide +kernel)
set_option maxRecDepth 20000 in
theorem gL_law_X3_init : GoodIn wsL_law (wsX3_init) := ggL_law_X3_init
set_option maxRecDepth 20000 in
theorem ggL_law_X2_addPlate : GoodIn wsL_law wsX2_addPlate := goodIn_r _ [54, 15, 55, 56, 2, 57, 58, 59, 60, 61, 62, 17, 63, 64, 65, 66, 67, 68, 69, 70, 14, 71, 72, 31, 73, 74, 75, 76, 29, 30, 77, 78, 79, 80, 638, 639, 640, 641, 642, 643, 644, 655, 656, 657, 658, 659, 660] rfl (by decide +kernel)
set_option maxRecDepth 20000 in
theorem gL_law_X2_addPlate : GoodIn wsL_law (wsV RL 13 RX2 yX2_addPlate wsX2_addPlate) := goodIn_app (goodIn_of _ (by decide +kernel)) ggL_law_X2_addPlate
set_option maxRecDepth 20000 in
theorem ggL_law_X3_addPlate : GoodIn wsL_law wsX3_addPlate := goodIn_r _ [84, 46, 85, 86, 5, 87, 88, 89, 90, 91, 92, 93, 94, 95, 47, 645, 646, 647, 648, 649, 650, 651, 652, 653, 654] rfl (by decide +kernel)
set_option maxRecDepth 20000 in
theorem gL_law_X3_addPlate : GoodIn wsL_law (wsV RL 17 RX3 yX3_addPlate wsX3_addPlate) := goodIn_app (goodIn_of _ (by decide +kernel)) ggL_law_X3_addPlate
set_option maxRecDepth 20000 in
theorem ggL_law_X2_setScreen : GoodIn wsL_law wsX2_setScreen := goodIn_r _ [99, 15, 78, 14, 79, 80, 31, 55, 56, 2, 57, 58, 59, 60, 61, 62, 17, 63, 64, 65, 66, 67, 68, 69, 100, 101, 102, 29, 30, 77, 74, 75, 76, 638, 639, 640, 641, 642, 643, 644, 655, 656, 657, 658, 659, 660] rfl (by decide +kernel)
set_option maxRecDepth 20000 in
theorem gL_law_X2_setScreen : GoodIn wsL_law (wsV RL 18 RX2 yX2_setScreen wsX2_setScreen) := goodIn_app (goodIn_of _ (by decide +kernel)) ggL_law_X2_setScreen
set_option maxRecDepth 20000 in
theorem ggL_law_X3_setScreen : GoodIn wsL_law wsX3_setScreen := goodIn_r _ [106, 46, 107, 108, 109, 5, 110, 88, 89, 90, 85, 86, 87, 91, 92, 93, 94, 95, 47, 111, 112, 113, 114, 115, 116, 117, 118, 119, 120, 121, 122, 645, 646, 647, 648, 649, 650, 651, 652, 653, 654] rfl (by decide +kernel)
set_option maxRecDepth 20000 in
theorem gL_law_X3_setScreen : GoodIn wsL_law (wsV RL 22 RX3 yX3_setScreen wsX3_setScreen) := goodIn_app (goodIn_of _ (by decide +kernel)) ggL_law_X3_setScreen
set_option maxRecDepth 20000 in
theorem ggL_law_X2_removePlate : GoodIn wsL_law wsX2_removePlate := goodIn_r _ [126, 15, 78, 14, 79, 80, 31, 58, 59, 60, 2, 61, 62, 17, 63, 64, 65, 66, 67, 68, 69, 127, 128, 129, 77, 130, 131, 132, 133, 29, 134, 135, 136, 137, 30, 73, 74, 75, 76, 638, 639, 640, 641, 642, 643, 644, 655, 656, 657, 658, 659, 660] rfl (by decide +kernel)
set_option maxRecDepth 20000 in
theorem gL_law_X2_removePlate : GoodIn wsL_law (wsV RL 23 RX2 yX2_removePlate wsX2_removePlate) := goodIn_app (goodIn_of _ (by decide +kernel)) ggL_law_X2_removePlate
set_option maxRecDepth 20000 in
theorem ggL_law_X3_removePlate : GoodIn wsL_law wsX3_removePlate := goodIn_r _ [141, 46, 107, 108, 109, 5, 110, 88, 89, 90, 91, 92, 93, 94, 95, 47, 645, 646, 647, 648, 649, 650, 651, 652, 653, 654] rfl (by decide +kernel)
set_option maxRecDepth 20000 in
theorem gL_law_X3_removePlate : GoodIn wsL_law (wsV RL 27 RX3 yX3_removePlate wsX3_removePlate) := goodIn_app (goodIn_of _ (by decide +kernel)) ggL_law_X3_removePlate
set_option maxRecDepth 20000 in
theorem ggL_law_X2_plateCount : GoodIn wsL_law wsX2_plateCount := goodIn_r _ [145, 15, 638, 639, 640, 641, 642, 643, 644, 655, 656, 657, 658, 659, 660] rfl (by decide +kernel)
set_option maxRecDepth 20000 in
theorem gL_law_X2_plateCount : GoodIn wsL_law (wsV RL 28 RX2 yX2_plateCount wsX2_plateCount) := goodIn_app (goodIn_of _ (by decide +kernel)) ggL_law_X2_plateCount
set_option maxRecDepth 20000 in
theorem ggL_law_X3_plateCount : GoodIn wsL_law wsX3_plateCount := goodIn_r _ [149, 46, 645, 646, 647, 648, 649, 650, 651, 652, 653, 654] rfl (by decide +kernel)
set_option maxRecDepth 20000 in
theorem gL_law_X3_plateCount : GoodIn wsL_law (wsV RL 32 RX3 yX3_plateCount wsX3_plateCount) := goodIn_app (goodIn_of _ (by decide +kernel)) ggL_law_X3_plateCount
set_option maxRecDepth 20000 in
theorem ggL_law_X2_cellP : GoodIn wsL_law wsX2_cellP := goodIn_r _ [153, 15, 78, 14, 79, 80, 31, 131, 132, 133, 29, 77, 638, 639, 640, 641, 642, 643, 644, 655, 656, 657, 658, 659, 660] rfl (by decide +kernel)
set_option maxRecDepth 20000 in
theorem gL_law_X2_cellP : GoodIn wsL_law (wsV RL 33 RX2 yX2_cellP wsX2_cellP) := goodIn_app (goodIn_of _ (by decide +kernel)) ggL_law_X2_cellP
set_option maxRecDepth 20000 in
theorem ggL_law_X3_cellP : GoodIn wsL_law wsX3_cellP := goodIn_r _ [157, 107, 108, 109, 5, 110, 46, 88, 89, 90, 115, 116, 117, 118, 645, 646, 647, 648, 649, 650, 651, 652, 653, 654] rfl (by decide +kernel)
set_option maxRecDepth 20000 in
theorem gL_law_X3_cellP : GoodIn wsL_law (wsV RL 36 RX3 yX3_cellP wsX3_cellP) := goodIn_app (goodIn_of _ (by decide +kernel)) ggL_law_X3_cellP
set_option maxRecDepth 20000 in
theorem ggL_law_X2_cellQ : GoodIn wsL_law wsX2_cellQ := goodIn_r _ [161, 15, 78, 14, 79, 80, 31, 135, 136, 137, 30, 77, 638, 639, 640, 641, 642, 643, 644, 655, 656, 657, 658, 659, 660] rfl (by decide +kernel)
set_option maxRecDepth 20000 in
theorem gL_law_X2_cellQ : GoodIn wsL_law (wsV RL 37 RX2 yX2_cellQ wsX2_cellQ) := goodIn_app (goodIn_of _ (by decide +kernel)) ggL_law_X2_cellQ
set_option maxRecDepth 20000 in
theorem ggL_law_X3_cellQ : GoodIn wsL_law wsX3_cellQ := goodIn_r _ [165, 107, 108, 109, 5, 110, 46, 88, 89, 90, 119, 120, 121, 122, 645, 646, 647, 648, 649, 650, 651, 652, 653, 654] rfl (by decide +kernel)
set_option maxRecDepth 20000 in
theorem gL_law_X3_cellQ : GoodIn wsL_law (wsV RL 40 RX3 yX3_cellQ wsX3_cellQ) := goodIn_app (goodIn_of _ (by decide +kernel)) ggL_law_X3_cellQ
set_option maxRecDepth 20000 in
theorem ggL_law_X2_cellArea : GoodIn wsL_law wsX2_cellArea := goodIn_r _ [169, 15, 78, 14, 79, 80, 31, 100, 101, 102, 29, 30, 77, 638, 639, 640, 641, 642, 643, 644, 655, 656, 657, 658, 659, 660] rfl (by decide +kernel)
set_option maxRecDepth 20000 in
theorem gL_law_X2_cellArea : GoodIn wsL_law (wsV RL 41 RX2 yX2_cellArea wsX2_cellArea) := goodIn_app (goodIn_of _ (by decide +kernel)) ggL_law_X2_cellArea
set_option maxRecDepth 20000 in
theorem ggL_law_X3_cellArea : GoodIn wsL_law wsX3_cellArea := goodIn_r _ [173, 107, 108, 109, 5, 110, 46, 88, 89, 90, 111, 112, 113, 114, 115, 116, 117, 118, 119, 120, 121, 122, 645, 646, 647, 648, 649, 650, 651, 652, 653, 654] rfl (by decide +kernel)
set_option maxRecDepth 20000 in
theorem gL_law_X3_cellArea : GoodIn wsL_law (wsV RL 44 RX3 yX3_cellArea wsX3_cellArea) := goodIn_app (goodIn_of _ (by decide +kernel)) ggL_law_X3_cellArea
set_option maxRecDepth 20000 in
theorem ggL_law_X2_tile : GoodIn wsL_law wsX2_tile := goodIn_r _ [177, 15, 78, 14, 79, 80, 31, 178, 179, 180, 2, 181, 100, 101, 102, 29, 30, 77, 131, 132, 133, 135, 136, 137, 182, 183, 184, 185, 186, 187, 638, 639, 640, 641, 642, 643, 644, 655, 656, 657, 658, 659, 660] rfl (by decide +kernel)
set_option maxRecDepth 20000 in
theorem gL_law_X2_tile : GoodIn wsL_law (wsV RL 45 RX2 yX2_tile wsX2_tile) := goodIn_app (goodIn_of _ (by decide +kernel)) ggL_law_X2_tile
set_option maxRecDepth 20000 in
theorem ggL_law_X3_tile : GoodIn wsL_law wsX3_tile := goodIn_r _ [191, 107, 108, 109, 5, 110, 46, 88, 89, 90, 192, 193, 194, 195, 111, 112, 113, 114, 115, 116, 117, 118, 119, 120, 121, 122, 196, 197, 198, 645, 646, 647, 648, 649, 650, 651, 652, 653, 654] rfl (by decide +kernel)
set_option maxRecDepth 20000 in
theorem gL_law_X3_tile : GoodIn wsL_law (wsV RL 48 RX3 yX3_tile wsX3_tile) := goodIn_app (goodIn_of _ (by decide +kernel)) ggL_law_X3_tile
set_option maxRecDepth 20000 in
theorem ggL_law_X2_commonTile : GoodIn wsL_law wsX2_commonTile := goodIn_r _ [202, 15, 178, 179, 180, 2, 181, 100, 14, 101, 102, 29, 30, 77, 78, 79, 80, 31, 131, 132, 133, 135, 136, 137, 182, 183, 184, 185, 186, 187, 638, 639, 640, 641, 642, 643, 644, 655, 656, 657, 658, 659, 660] rfl (by decide +kernel)
set_option maxRecDepth 20000 in
theorem gL_law_X2_commonTile : GoodIn wsL_law (wsV RL 49 RX2 yX2_commonTile wsX2_commonTile) := goodIn_app (goodIn_of _ (by decide +kernel)) ggL_law_X2_commonTile
set_option maxRecDepth 20000 in
theorem ggL_law_X3_commonTile : GoodIn wsL_law wsX3_commonTile := goodIn_r _ [206, 46, 192, 193, 194, 5, 195, 111, 112, 113, 114, 115, 116, 117, 118, 119, 120, 121, 122, 196, 197, 198, 645, 646, 647, 648, 649, 650, 651, 652, 653, 654] rfl (by decide +kernel)
set_option maxRecDepth 20000 in
theorem gL_law_X3_commonTile : GoodIn wsL_law (wsV RL 53 RX3 yX3_commonTile wsX3_commonTile) := goodIn_app (goodIn_of _ (by decide +kernel)) ggL_law_X3_commonTile
set_option maxRecDepth 20000 in
theorem ggL_law_X2_byAngle : GoodIn wsL_law wsX2_byAngle := goodIn_r _ [210, 15, 211, 212, 213, 2, 214, 135, 14, 136, 137, 30, 77, 78, 79, 80, 31, 131, 132, 133, 29, 638, 639, 640, 641, 642, 643, 644, 655, 656, 657, 658, 659, 660] rfl (by decide +kernel)
set_option maxRecDepth 20000 in
theorem gL_law_X2_byAngle : GoodIn wsL_law (wsV RL 54 RX2 yX2_byAngle wsX2_byAngle) := goodIn_app (goodIn_of _ (by decide +kernel)) ggL_law_X2_byAngle
set_option maxRecDepth 20000 in
theorem ggL_law_X3_byAngle : GoodIn wsL_law wsX3_byAngle := goodIn_r _ [218, 46, 219, 220, 221, 5, 222, 119, 120, 121, 122, 115, 116, 117, 118, 645, 646, 647, 648, 649, 650, 651, 652, 653, 654] rfl (by decide +kernel)
set_option maxRecDepth 20000 in
theorem gL_law_X3_byAngle : GoodIn wsL_law (wsV RL 57 RX3 yX3_byAngle wsX3_byAngle) := goodIn_app (goodIn_of _ (by decide +kernel)) ggL_law_X3_byAngle
set_option maxRecDepth 20000 in
theorem ggL_law_X2_setOrder : GoodIn wsL_law wsX2_setOrder := goodIn_r _ [226, 15, 58, 59, 60, 2, 61, 62, 17, 63, 64, 65, 66, 67, 68, 69, 638, 639, 640, 641, 642, 643, 644, 655, 656, 657, 658, 659, 660] rfl (by decide +kernel)
set_option maxRecDepth 20000 in
theorem gL_law_X2_setOrder : GoodIn wsL_law (wsV RL 58 RX2 yX2_setOrder wsX2_setOrder) := goodIn_app (goodIn_of _ (by decide +kernel)) ggL_law_X2_setOrder
set_option maxRecDepth 20000 in
theorem ggL_law_X3_setOrder : GoodIn wsL_law wsX3_setOrder := goodIn_r _ [230, 46, 88, 89, 5, 90, 91, 92, 93, 94, 95, 47, 645, 646, 647, 648, 649, 650, 651, 652, 653, 654] rfl (by decide +kernel)
set_option maxRecDepth 20000 in
theorem gL_law_X3_setOrder : GoodIn wsL_law (wsV RL 61 RX3 yX3_setOrder wsX3_setOrder) := goodIn_app (goodIn_of _ (by decide +kernel)) ggL_law_X3_setOrder
set_option maxRecDepth 20000 in
theorem ggL_law_X2_setLimits : GoodIn wsL_law wsX2_setLimits := goodIn_r _ [234, 15, 58, 59, 60, 2, 61, 62, 17, 63, 64, 65, 66, 67, 68, 69, 638, 639, 640, 641, 642, 643, 644, 655, 656, 657, 658, 659, 660] rfl (by decide +kernel)
set_option maxRecDepth 20000 in
theorem gL_law_X2_setLimits : GoodIn wsL_law (wsV RL 62 RX2 yX2_setLimits wsX2_setLimits) := goodIn_app (goodIn_of _ (by decide +kernel)) ggL_law_X2_setLimits
set_option maxRecDepth 20000 in
theorem ggL_law_X3_setLimits : GoodIn wsL_law wsX3_setLimits := goodIn_r _ [238, 46, 88, 89, 5, 90, 91, 92, 93, 94, 95, 47, 645, 646, 647, 648, 649, 650, 651, 652, 653, 654] rfl (by decide +kernel)
set_option maxRecDepth 20000 in
theorem gL_law_X3_setLimits : GoodIn wsL_law (wsV RL 65 RX3 yX3_setLimits wsX3_setLimits) := goodIn_app (goodIn_of _ (by decide +kernel)) ggL_law_X3_setLimits
set_option maxRecDepth 20000 in
theorem ggL_law_X2_longLimit : GoodIn wsL_law wsX2_longLimit := goodIn_r _ [242, 15, 638, 639, 640, 641, 642, 643, 644, 655, 656, 657, 658, 659, 660] rfl (by decide +kernel)
set_option maxRecDepth 20000 in
theorem gL_law_X2_longLimit : GoodIn wsL_law (wsV RL 66 RX2 yX2_longLimit wsX2_longLimit) := goodIn_app (goodIn_of _ (by decide +kernel)) ggL_law_X2_longLimit
set_option maxRecDepth 20000 in
theorem ggL_law_X3_longLimit : GoodIn wsL_law wsX3_longLimit := goodIn_r _ [246, 46, 645, 646, 647, 648, 649, 650, 651, 652, 653, 654] rfl (by decide +kernel)
set_option maxRecDepth 20000 in
theorem gL_law_X3_longLimit : GoodIn wsL_law (wsV RL 69 RX3 yX3_longLimit wsX3_longLimit) := goodIn_app (goodIn_of _ (by decide +kernel)) ggL_law_X3_longLimit
set_option maxRecDepth 20000 in
theorem ggL_law_X2_squareNumerator : GoodIn wsL_law wsX2_squareNumerator := goodIn_r _ [250, 251, 24, 15, 252, 253, 254, 2, 255, 256, 14, 257, 258, 77, 78, 79, 80, 31, 259, 260, 261, 32, 262, 23, 263, 264, 100, 101, 102, 29, 30, 265, 266, 267, 268, 269, 39, 40, 41, 186, 187, 270, 271, 272, 130, 131, 132, 133, 134, 135, 136, 137, 273, 274, 275, 276, 277, 278, 279, 183, 184, 638, 639, 640, 641, 642, 643, 644, 655, 656, 657, 658, 659, 660, 661, 662, 663, 664, 665] rfl (by decide +kernel)
set_option maxRecDepth 20000 in
theorem gL_law_X2_squareNumerator : GoodIn wsL_law (wsV RL 70 RX2 yX2_squareNumerator wsX2_squareNumerator) := goodIn_app (goodIn_of _ (by decide +kernel)) ggL_law_X2_squareNumerator
set_option maxRecDepth 20000 in
theorem ggL_law_X3_squareNumerator : GoodIn wsL_law wsX3_squareNumerator := goodIn_r _ [283, 284, 285, 286, 287, 5, 288, 289, 290, 291, 292, 107, 108, 109, 110, 46, 88, 89, 90, 293, 294, 295, 296, 297, 298, 299, 300, 111, 112, 113, 114, 115, 116, 117, 118, 119, 120, 121, 122, 301, 302, 303, 304, 196, 197, 198, 645, 646, 647, 648, 649, 650, 651, 652, 653, 654] rfl (by decide +kernel)
set_option maxRecDepth 20000 in
theorem gL_law_X3_squareNumerator : GoodIn wsL_law (wsV RL 74 RX3 yX3_squareNumerator wsX3_squareNumerator) := goodIn_app (goodIn_of _ (by decide +kernel)) ggL_law_X3_squareNumerator
set_option maxRecDepth 20000 in
theorem ggL_law_X2_squareDenominator : GoodIn wsL_law wsX2_squareDenominator := goodIn_r _ [308, 251, 24, 15, 252, 253, 254, 2, 255, 256, 14, 257, 258, 77, 78, 79, 80, 31, 259, 260, 261, 32, 262, 23, 263, 264, 100, 101, 102, 29, 30, 265, 266, 267, 268, 269, 39, 40, 41, 186, 187, 270, 271, 272, 130, 131, 132, 133, 134, 135, 136, 137, 273, 274, 275, 276, 309, 310, 311, 183, 184, 638, 639, 640, 641, 642, 643, 644, 655, 656, 657, 658, 659, 660, 661, 662, 663, 664, 665] rfl (by decide +kernel)
set_option maxRecDepth 20000 in
theorem gL_law_X2_squareDenominator : GoodIn wsL_law (wsV RL 75 RX2 yX2_squareDenominator wsX2_squareDenominator) := goodIn_app (goodIn_of _ (by decide +kernel)) ggL_law_X2_squareDenominator
set_option maxRecDepth 20000 in
theorem ggL_law_X3_squareDenominator : GoodIn wsL_law wsX3_squareDenominator := goodIn_r _ [315, 284, 285, 286, 287, 5, 288, 289, 290, 291, 292, 107, 108, 109, 110, 46, 88, 89, 90, 293, 294, 295, 296, 301, 302, 303, 304, 111, 112, 113, 114, 115, 116, 117, 118, 119, 120, 121, 122, 297, 298, 299, 300, 196, 197, 198, 645, 646, 647, 648, 649, 650, 651, 652, 653, 654] rfl (by decide +kernel)
set_option maxRecDepth 20000 in
theorem gL_law_X3_squareDenominator : GoodIn wsL_law (wsV RL 78 RX3 yX3_squareDenominator wsX3_squareDenominator) := goodIn_app (goodIn_of _ (by decide +kernel)) ggL_law_X3_squareDenominator
set_option maxRecDepth 20000 in
theorem ggL_law_X2_kind : GoodIn wsL_law wsX2_kind := goodIn_r _ [319, 24, 15, 252, 253, 254, 2, 255, 256, 14, 257, 258, 77, 78, 79, 80, 31, 259, 260, 261, 32, 262, 23, 263, 264, 100, 101, 102, 29, 30, 265, 266, 267, 268, 269, 39, 40, 41, 186, 187, 270, 271, 272, 130, 131, 132, 133, 134, 135, 136, 137, 273, 274, 275, 276, 320, 321, 322, 638, 639, 640, 641, 642, 643, 644, 655, 656, 657, 658, 659, 660, 661, 662, 663, 664, 665] rfl (by decide +kernel)
set_option maxRecDepth 20000 in
theorem gL_law_X2_kind : GoodIn wsL_law (wsV RL 79 RX2 yX2_kind wsX2_kind) := goodIn_app (goodIn_of _ (by decide +kernel)) ggL_law_X2_kind
set_option maxRecDepth 20000 in
theorem ggL_law_X3_kind : GoodIn wsL_law wsX3_kind := goodIn_r _ [326, 285, 286, 287, 5, 288, 289, 290, 291, 292, 107, 108, 109, 110, 46, 88, 89, 90, 293, 294, 295, 296, 297, 298, 299, 300, 111, 112, 113, 114, 115, 116, 117, 118, 119, 120, 121, 122, 301, 302, 303, 304, 327, 328, 329, 330, 645, 646, 647, 648, 649, 650, 651, 652, 653, 654] rfl (by decide +kernel)
set_option maxRecDepth 20000 in
theorem gL_law_X3_kind : GoodIn wsL_law (wsV RL 83 RX3 yX3_kind wsX3_kind) := goodIn_app (goodIn_of _ (by decide +kernel)) ggL_law_X3_kind
set_option maxRecDepth 20000 in
theorem ggL_law_X2_beatCount : GoodIn wsL_law wsX2_beatCount := goodIn_r _ [334, 15, 24, 256, 14, 257, 258, 77, 78, 79, 80, 31, 335, 23, 336, 337, 338, 262, 263, 264, 100, 101, 102, 29, 30, 265, 266, 267, 268, 269, 39, 40, 41, 186, 2, 187, 339, 340, 341, 342, 131, 132, 133, 135, 136, 137, 273, 274, 275, 276, 343, 344, 345, 346, 38, 347, 348, 349, 350, 351, 352, 638, 639, 640, 641, 642, 643, 644, 655, 656, 657, 658, 659, 660, 661, 662, 663, 664, 665] rfl (by decide +kernel)
set_option maxRecDepth 20000 in
theorem gL_law_X2_beatCount : GoodIn wsL_law (wsV RL 84 RX2 yX2_beatCount wsX2_beatCount) := goodIn_app (goodIn_of _ (by decide +kernel)) ggL_law_X2_beatCount
set_option maxRecDepth 20000 in
theorem ggL_law_X3_beatCount : GoodIn wsL_law wsX3_beatCount := goodIn_r _ [356, 357, 289, 290, 291, 5, 292, 107, 108, 109, 110, 46, 88, 89, 90, 358, 359, 360, 361, 362, 363, 364, 365, 297, 298, 299, 300, 111, 112, 113, 114, 115, 116, 117, 118, 119, 120, 121, 122, 366, 367, 368, 369, 50, 370, 371, 372, 373, 645, 646, 647, 648, 649, 650, 651, 652, 653, 654] rfl (by decide +kernel)
set_option maxRecDepth 20000 in
theorem gL_law_X3_beatCount : GoodIn wsL_law (wsV RL 87 RX3 yX3_beatCount wsX3_beatCount) := goodIn_app (goodIn_of _ (by decide +kernel)) ggL_law_X3_beatCount
set_option maxRecDepth 20000 in
theorem ggL_law_X2_beatNumerator : GoodIn wsL_law wsX2_beatNumerator := goodIn_r _ [377, 24, 378, 379, 380, 2, 381, 15, 256, 14, 257, 258, 77, 78, 79, 80, 31, 335, 23, 336, 337, 338, 262, 263, 264, 100, 101, 102, 29, 30, 265, 266, 267, 268, 269, 39, 40, 41, 186, 187, 339, 340, 341, 342, 131, 132, 133, 135, 136, 137, 273, 274, 275, 276, 343, 344, 345, 346, 38, 347, 348, 349, 382, 383, 384, 277, 278, 279, 183, 184, 638, 639, 640, 641, 642, 643, 644, 655, 656, 657, 658, 659, 660, 661, 662, 663, 664, 665] rfl (by decide +kernel)
set_option maxRecDepth 20000 in
theorem gL_law_X2_beatNumerator : GoodIn wsL_law (wsV RL 88 RX2 yX2_beatNumerator wsX2_beatNumerator) := goodIn_app (goodIn_of _ (by decide +kernel)) ggL_law_X2_beatNumerator
set_option maxRecDepth 20000 in
theorem ggL_law_X3_beatNumerator : GoodIn wsL_law wsX3_beatNumerator := goodIn_r _ [388, 389, 390, 391, 5, 392, 284, 357, 393, 50, 289, 290, 291, 292, 107, 108, 109, 110, 46, 88, 89, 90, 358, 359, 360, 361, 362, 363, 364, 365, 297, 298, 299, 300, 111, 112, 113, 114, 115, 116, 117, 118, 119, 120, 121, 122, 366, 367, 368, 369, 394, 395, 396, 397, 370, 371, 372, 373, 301, 302, 303, 304, 196, 197, 198, 398, 399, 400, 401, 402, 645, 646, 647, 648, 649, 650, 651, 652, 653, 654] rfl (by decide +kernel)
set_option maxRecDepth 20000 in
theorem gL_law_X3_beatNumerator : GoodIn wsL_law (wsV RL 92 RX3 yX3_beatNumerator wsX3_beatNumerator) := goodIn_app (goodIn_of _ (by decide +kernel)) ggL_law_X3_beatNumerator
set_option maxRecDepth 20000 in
theorem ggL_law_X2_beatDenominator : GoodIn wsL_law wsX2_beatDenominator := goodIn_r _ [406, 24, 378, 379, 380, 2, 381, 15, 256, 14, 257, 258, 77, 78, 79, 80, 31, 335, 23, 336, 337, 338, 262, 263, 264, 100, 101, 102, 29, 30, 265, 266, 267, 268, 269, 39, 40, 41, 186, 187, 339, 340, 341, 342, 131, 132, 133, 135, 136, 137, 273, 274, 275, 276, 343, 344, 345, 346, 38, 347, 348, 349, 382, 383, 384, 309, 310, 311, 183, 184, 638, 639, 640, 641, 642, 643, 644, 655, 656, 657, 658, 659, 660, 661, 662, 663, 664, 665] rfl (by decide +kernel)
set_option maxRecDepth 20000 in
theorem gL_law_X2_beatDenominator : GoodIn wsL_law (wsV RL 93 RX2 yX2_beatDenominator wsX2_beatDenominator) := goodIn_app (goodIn_of _ (by decide +kernel)) ggL_law_X2_beatDenominator
set_option maxRecDepth 20000 in
theorem ggL_law_X3_beatDenominator : GoodIn wsL_law wsX3_beatDenominator := goodIn_r _ [410, 389, 390, 391, 5, 392, 284, 357, 393, 50, 289, 290, 291, 292, 107, 108, 109, 110, 46, 88, 89, 90, 358, 359, 360, 361, 362, 363, 364, 365, 297, 298, 299, 300, 111, 112, 113, 114, 115, 116, 117, 118, 119, 120, 121, 122, 366, 367, 368, 369, 394, 395, 396, 397, 370, 371, 372, 373, 301, 302, 303, 304, 196, 197, 198, 398, 399, 400, 401, 402, 645, 646, 647, 648, 649, 650, 651, 652, 653, 654] rfl (by decide +kernel)
set_option maxRecDepth 20000 in
theorem gL_law_X3_beatDenominator : GoodIn wsL_law (wsV RL 96 RX3 yX3_beatDenominator wsX3_beatDenominator) := goodIn_app (goodIn_of _ (by decide +kernel)) ggL_law_X3_beatDenominator
set_option maxRecDepth 20000 in
theorem ggL_law_X2_beatFrequency : GoodIn wsL_law wsX2_beatFrequency := goodIn_r _ [414, 24, 378, 379, 380, 2, 381, 15, 256, 14, 257, 258, 77, 78, 79, 80, 31, 335, 23, 336, 337, 338, 262, 263, 264, 100, 101, 102, 29, 30, 265, 266, 267, 268, 269, 39, 40, 41, 186, 187, 339, 340, 341, 342, 131, 132, 133, 135, 136, 137, 273, 274, 275, 276, 343, 344, 345, 346, 38, 347, 348, 349, 382, 383, 384, 415, 416, 417, 638, 639, 640, 641, 642, 643, 644, 655, 656, 657, 658, 659, 660, 661, 662, 663, 664, 665] rfl (by decide +kernel)
set_option maxRecDepth 20000 in
theorem gL_law_X2_beatFrequency : GoodIn wsL_law (wsV RL 97 RX2 yX2_beatFrequency wsX2_beatFrequency) := goodIn_app (goodIn_of _ (by decide +kernel)) ggL_law_X2_beatFrequency
set_option maxRecDepth 20000 in
theorem ggL_law_X3_beatFrequency : GoodIn wsL_law wsX3_beatFrequency := goodIn_r _ [421, 389, 390, 391, 5, 392, 284, 357, 393, 50, 289, 290, 291, 292, 107, 108, 109, 110, 46, 88, 89, 90, 358, 359, 360, 361, 362, 363, 364, 365, 297, 298, 299, 300, 111, 112, 113, 114, 115, 116, 117, 118, 119, 120, 121, 122, 366, 367, 368, 369, 394, 395, 396, 397, 370, 371, 372, 373, 301, 302, 303, 304, 196, 197, 198, 398, 399, 400, 401, 402, 645, 646, 647, 648, 649, 650, 651, 652, 653, 654] rfl (by decide +kernel)
set_option maxRecDepth 20000 in
theorem gL_law_X3_beatFrequency : GoodIn wsL_law (wsV RL 100 RX3 yX3_beatFrequency wsX3_beatFrequency) := goodIn_app (goodIn_of _ (by decide +kernel)) ggL_law_X3_beatFrequency
set_option maxRecDepth 20000 in
theorem ggL_law_X2_beatPeriod : GoodIn wsL_law wsX2_beatPeriod := goodIn_r _ [425, 24, 378, 379, 380, 2, 381, 15, 256, 14, 257, 258, 77, 78, 79, 80, 31, 335, 23, 336, 337, 338, 262, 263, 264, 100, 101, 102, 29, 30, 265, 266, 267, 268, 269, 39, 40, 41, 186, 187, 339, 340, 341, 342, 131, 132, 133, 135, 136, 137, 273, 274, 275, 276, 343, 344, 345, 346, 38, 347, 348, 349, 382, 383, 384, 426, 427, 428, 429, 430, 638, 639, 640, 641, 642, 643, 644, 655, 656, 657, 658, 659, 660, 661, 662, 663, 664, 665] rfl (by decide +kernel)
set_option maxRecDepth 20000 in
theorem gL_law_X2_beatPeriod : GoodIn wsL_law (wsV RL 101 RX2 yX2_beatPeriod wsX2_beatPeriod) := goodIn_app (goodIn_of _ (by decide +kernel)) ggL_law_X2_beatPeriod
set_option maxRecDepth 20000 in
theorem ggL_law_X3_beatPeriod : GoodIn wsL_law wsX3_beatPeriod := goodIn_r _ [434, 389, 390, 391, 5, 392, 284, 357, 393, 50, 289, 290, 291, 292, 107, 108, 109, 110, 46, 88, 89, 90, 358, 359, 360, 361, 362, 363, 364, 365, 297, 298, 299, 300, 111, 112, 113, 114, 115, 116, 117, 118, 119, 120, 121, 122, 366, 367, 368, 369, 394, 395, 396, 397, 370, 371, 372, 373, 301, 302, 303, 304, 196, 197, 198, 398, 399, 400, 401, 402, 645, 646, 647, 648, 649, 650, 651, 652, 653, 654] rfl (by decide +kernel)
set_option maxRecDepth 20000 in
theorem gL_law_X3_beatPeriod : GoodIn wsL_law (wsV RL 104 RX3 yX3_beatPeriod wsX3_beatPeriod) := goodIn_app (goodIn_of _ (by decide +kernel)) ggL_law_X3_beatPeriod
set_option maxRecDepth 20000 in
theorem ggL_law_X2_locked : GoodIn wsL_law wsX2_locked := goodIn_r _ [438, 15, 24, 256, 14, 257, 258, 77, 78, 79, 80, 31, 335, 23, 336, 337, 338, 262, 263, 264, 100, 101, 102, 29, 30, 265, 266, 267, 268, 269, 39, 40, 41, 186, 2, 187, 339, 340, 341, 342, 131, 132, 133, 135, 136, 137, 273, 274, 275, 276, 343, 344, 345, 346, 38, 415, 416, 417, 638, 639, 640, 641, 642, 643, 644, 655, 656, 657, 658, 659, 660, 661, 662, 663, 664, 665] rfl (by decide +kernel)
set_option maxRecDepth 20000 in
theorem gL_law_X2_locked : GoodIn wsL_law (wsV RL 105 RX2 yX2_locked wsX2_locked) := goodIn_app (goodIn_of _ (by decide +kernel)) ggL_law_X2_locked
set_option maxRecDepth 20000 in
theorem ggL_law_X3_locked : GoodIn wsL_law wsX3_locked := goodIn_r _ [442, 289, 290, 291, 5, 292, 107, 108, 109, 110, 46, 88, 89, 90, 443, 444, 445, 446, 447, 301, 302, 303, 304, 111, 112, 113, 114, 115, 116, 117, 118, 119, 120, 121, 122, 297, 298, 299, 300, 327, 328, 329, 330, 645, 646, 647, 648, 649, 650, 651, 652, 653, 654] rfl (by decide +kernel)
set_option maxRecDepth 20000 in
theorem gL_law_X3_locked : GoodIn wsL_law (wsV RL 108 RX3 yX3_locked wsX3_locked) := goodIn_app (goodIn_of _ (by decide +kernel)) ggL_law_X3_locked
set_option maxRecDepth 20000 in
theorem ggL_law_X2_bands : GoodIn wsL_law wsX2_bands := goodIn_r _ [451, 15, 256, 14, 257, 258, 77, 78, 79, 80, 31, 452, 453, 454, 2, 455, 24, 335, 23, 336, 337, 338, 262, 263, 264, 100, 101, 102, 29, 30, 265, 266, 267, 268, 269, 39, 40, 41, 186, 187, 339, 340, 341, 342, 131, 132, 133, 135, 136, 137, 273, 274, 275, 276, 343, 344, 345, 346, 38, 456, 457, 458, 459, 320, 321, 322, 638, 639, 640, 641, 642, 643, 644, 655, 656, 657, 658, 659, 660, 661, 662, 663, 664, 665] rfl (by decide +kernel)
set_option maxRecDepth 20000 in
theorem gL_law_X2_bands : GoodIn wsL_law (wsV RL 109 RX2 yX2_bands wsX2_bands) := goodIn_app (goodIn_of _ (by decide +kernel)) ggL_law_X2_bands
set_option maxRecDepth 20000 in
theorem ggL_law_X3_bands : GoodIn wsL_law wsX3_bands := goodIn_r _ [463, 289, 290, 291, 5, 292, 107, 108, 109, 110, 46, 88, 89, 90, 443, 444, 445, 446, 447, 301, 302, 303, 304, 111, 112, 113, 114, 115, 116, 117, 118, 119, 120, 121, 122, 297, 298, 299, 300, 327, 328, 329, 330, 645, 646, 647, 648, 649, 650, 651, 652, 653, 654] rfl (by decide +kernel)
set_option maxRecDepth 20000 in
theorem gL_law_X3_bands : GoodIn wsL_law (wsV RL 112 RX3 yX3_bands wsX3_bands) := goodIn_app (goodIn_of _ (by decide +kernel)) ggL_law_X3_bands
set_option maxRecDepth 20000 in
theorem ggL_law_X2_tripleBands : GoodIn wsL_law wsX2_tripleBands := goodIn_r _ [467, 15, 24, 256, 14, 257, 258, 77, 78, 79, 80, 31, 468, 23, 469, 470, 100, 101, 102, 29, 30, 265, 266, 267, 268, 269, 39, 40, 41, 186, 2, 187, 471, 472, 473, 131, 132, 133, 135, 136, 137, 474, 475, 476, 343, 344, 345, 346, 38, 456, 457, 458, 459, 320, 321, 322, 638, 639, 640, 641, 642, 643, 644, 655, 656, 657, 658, 659, 660, 661, 662, 663, 664, 665] rfl (by decide +kernel)
set_option maxRecDepth 20000 in
theorem gL_law_X2_tripleBands : GoodIn wsL_law (wsV RL 113 RX2 yX2_tripleBands wsX2_tripleBands) := goodIn_app (goodIn_of _ (by decide +kernel)) ggL_law_X2_tripleBands
set_option maxRecDepth 20000 in
theorem ggL_law_X3_tripleBands : GoodIn wsL_law wsX3_tripleBands := goodIn_r _ [480, 289, 290, 291, 5, 292, 107, 108, 109, 110, 46, 88, 89, 90, 481, 482, 483, 484, 447, 485, 486, 487, 488, 111, 112, 113, 114, 115, 116, 117, 118, 119, 120, 121, 122, 489, 490, 491, 492, 493, 494, 495, 496, 327, 328, 329, 330, 645, 646, 647, 648, 649, 650, 651, 652, 653, 654] rfl (by decide +kernel)
set_option maxRecDepth 20000 in
theorem gL_law_X3_tripleBands : GoodIn wsL_law (wsV RL 116 RX3 yX3_tripleBands wsX3_tripleBands) := goodIn_app (goodIn_of _ (by decide +kernel)) ggL_law_X3_tripleBands
set_option maxRecDepth 20000 in
theorem ggL_law_X2_allBands : GoodIn wsL_law wsX2_allBands := goodIn_r _ [500, 15, 501, 502, 503, 2, 504, 505, 24, 506, 14, 507, 508, 31, 509, 23, 510, 511, 512, 513, 514, 515, 468, 469, 470, 100, 101, 102, 29, 30, 77, 78, 79, 80, 265, 266, 267, 268, 269, 39, 40, 41, 186, 187, 471, 472, 473, 131, 132, 133, 135, 136, 137, 474, 475, 476, 343, 344, 345, 346, 38, 516, 335, 336, 337, 338, 262, 263, 264, 339, 340, 341, 342, 273, 274, 275, 276, 456, 457, 458, 459, 320, 321, 322, 638, 639, 640, 641, 642, 643, 644, 655, 656, 657, 658, 659, 660, 661, 662, 663, 664, 665] rfl (by decide +kernel)
set_option maxRecDepth 20000 in
theorem gL_law_X2_allBands : GoodIn wsL_law (wsV RL 117 RX2 yX2_allBands wsX2_allBands) := goodIn_app (goodIn_of _ (by decide +kernel)) ggL_law_X2_allBands
set_option maxRecDepth 20000 in
theorem ggL_law_X3_allBands : GoodIn wsL_law wsX3_allBands := goodIn_r _ [520, 521, 522, 523, 5, 524, 525, 526, 46, 443, 444, 445, 446, 447, 301, 302, 303, 304, 111, 112, 113, 114, 115, 116, 117, 118, 119, 120, 121, 122, 297, 298, 299, 300, 327, 328, 329, 330, 527, 528, 529, 530, 398, 399, 400, 401, 402, 289, 290, 291, 292, 107, 108, 109, 110, 88, 89, 90, 481, 482, 483, 484, 485, 486, 487, 488, 489, 490, 491, 492, 493, 494, 495, 496, 645, 646, 647, 648, 649, 650, 651, 652, 653, 654] rfl (by decide +kernel)
set_option maxRecDepth 20000 in
theorem gL_law_X3_allBands : GoodIn wsL_law (wsV RL 120 RX3 yX3_allBands wsX3_allBands) := goodIn_app (goodIn_of _ (by decide +kernel)) ggL_law_X3_allBands
set_option maxRecDepth 20000 in
theorem ggL_law_X2_worstPlates : GoodIn wsL_law wsX2_worstPlates := goodIn_r _ [534, 505, 535, 536, 537, 2, 538, 15, 24, 506, 14, 507, 508, 31, 509, 23, 510, 511, 512, 513, 514, 515, 468, 469, 470, 100, 101, 102, 29, 30, 77, 78, 79, 80, 265, 266, 267, 268, 269, 39, 40, 41, 186, 187, 471, 472, 473, 131, 132, 133, 135, 136, 137, 474, 475, 476, 343, 344, 345, 346, 38, 516, 335, 336, 337, 338, 262, 263, 264, 339, 340, 341, 342, 273, 274, 275, 276, 539, 540, 541, 459, 320, 321, 322, 542, 426, 427, 428, 429, 430, 638, 639, 640, 641, 642, 643, 644, 655, 656, 657, 658, 659, 660, 661, 662, 663, 664, 665] rfl (by decide +kernel)
set_option maxRecDepth 20000 in
theorem gL_law_X2_worstPlates : GoodIn wsL_law (wsV RL 121 RX2 yX2_worstPlates wsX2_worstPlates) := goodIn_app (goodIn_of _ (by decide +kernel)) ggL_law_X2_worstPlates
set_option maxRecDepth 20000 in
theorem ggL_law_X3_worstPlates : GoodIn wsL_law wsX3_worstPlates := goodIn_r _ [546, 526, 521, 522, 523, 5, 524, 525, 46, 443, 444, 445, 446, 447, 301, 302, 303, 304, 111, 112, 113, 114, 115, 116, 117, 118, 119, 120, 121, 122, 297, 298, 299, 300, 327, 328, 329, 330, 527, 528, 529, 530, 398, 399, 400, 401, 402, 289, 290, 291, 292, 107, 108, 109, 110, 88, 89, 90, 481, 482, 483, 484, 485, 486, 487, 488, 489, 490, 491, 492, 493, 494, 495, 496, 645, 646, 647, 648, 649, 650, 651, 652, 653, 654] rfl (by decide +kernel)
set_option maxRecDepth 20000 in
theorem gL_law_X3_worstPlates : GoodIn wsL_law (wsV RL 124 RX3 yX3_worstPlates wsX3_worstPlates) := goodIn_app (goodIn_of _ (by decide +kernel)) ggL_law_X3_worstPlates
set_option maxRecDepth 20000 in
theorem ggL_law_X2_worstPeriod : GoodIn wsL_law wsX2_worstPeriod := goodIn_r _ [550, 551, 532, 533, 2, 534, 505, 535, 536, 537, 538, 15, 24, 506, 14, 507, 508, 31, 509, 23, 510, 511, 512, 513, 514, 515, 468, 469, 470, 100, 101, 102, 29, 30, 77, 78, 79, 80, 265, 266, 267, 268, 269, 39, 40, 41, 186, 187, 471, 472, 473, 131, 132, 133, 135, 136, 137, 474, 475, 476, 343, 344, 345, 346, 38, 516, 335, 336, 337, 338, 262, 263, 264, 339, 340, 341, 342, 273, 274, 275, 276, 539, 540, 541, 459, 320, 321, 322, 542, 426, 427, 428, 429, 430, 638, 639, 640, 641, 642, 643, 644, 655, 656, 657, 658, 659, 660, 661, 662, 663, 664, 665] rfl (by decide +kernel)
set_option maxRecDepth 20000 in
theorem gL_law_X2_worstPeriod : GoodIn wsL_law (wsV RL 125 RX2 yX2_worstPeriod wsX2_worstPeriod) := goodIn_app (goodIn_of _ (by decide +kernel)) ggL_law_X2_worstPeriod
set_option maxRecDepth 20000 in
theorem ggL_law_X3_worstPeriod : GoodIn wsL_law wsX3_worstPeriod := goodIn_r _ [555, 525, 521, 522, 523, 5, 524, 526, 46, 443, 444, 445, 446, 447, 301, 302, 303, 304, 111, 112, 113, 114, 115, 116, 117, 118, 119, 120, 121, 122, 297, 298, 299, 300, 327, 328, 329, 330, 527, 528, 529, 530, 398, 399, 400, 401, 402, 289, 290, 291, 292, 107, 108, 109, 110, 88, 89, 90, 481, 482, 483, 484, 485, 486, 487, 488, 489, 490, 491, 492, 493, 494, 495, 496, 645, 646, 647, 648, 649, 650, 651, 652, 653, 654] rfl (by decide +kernel)
set_option maxRecDepth 20000 in
theorem gL_law_X3_worstPeriod : GoodIn wsL_law (wsV RL 128 RX3 yX3_worstPeriod wsX3_worstPeriod) := goodIn_app (goodIn_of _ (by decide +kernel)) ggL_law_X3_worstPeriod
set_option maxRecDepth 20000 in
theorem ggL_law_X2_worstPair : GoodIn wsL_law wsX2_worstPair := goodIn_r _ [559, 15, 452, 453, 454, 2, 455, 24, 335, 23, 336, 337, 338, 262, 263, 264, 100, 14, 101, 102, 29, 30, 77, 78, 79, 80, 31, 265, 266, 267, 268, 269, 39, 40, 41, 186, 187, 339, 340, 341, 342, 131, 132, 133, 135, 136, 137, 273, 274, 275, 276, 343, 344, 345, 346, 38, 456, 457, 458, 459, 320, 321, 322, 638, 639, 640, 641, 642, 643, 644, 655, 656, 657, 658, 659, 660, 661, 662, 663, 664, 665] rfl (by decide +kernel)
set_option maxRecDepth 20000 in
theorem gL_law_X2_worstPair : GoodIn wsL_law (wsV RL 129 RX2 yX2_worstPair wsX2_worstPair) := goodIn_app (goodIn_of _ (by decide +kernel)) ggL_law_X2_worstPair
set_option maxRecDepth 20000 in
theorem ggL_law_X3_worstPair : GoodIn wsL_law wsX3_worstPair := goodIn_r _ [563, 46, 443, 444, 445, 5, 446, 447, 301, 302, 303, 304, 111, 112, 113, 114, 115, 116, 117, 118, 119, 120, 121, 122, 297, 298, 299, 300, 327, 328, 329, 330, 645, 646, 647, 648, 649, 650, 651, 652, 653, 654] rfl (by decide +kernel)
set_option maxRecDepth 20000 in
theorem gL_law_X3_worstPair : GoodIn wsL_law (wsV RL 132 RX3 yX3_worstPair wsX3_worstPair) := goodIn_app (goodIn_of _ (by decide +kernel)) ggL_law_X3_worstPair
set_option maxRecDepth 20000 in
theorem ggL_law_X2_bestScreen : GoodIn wsL_law wsX2_bestScreen := goodIn_r _ [567, 15, 78, 14, 79, 80, 31, 568, 569, 2, 570, 571, 572, 573, 574, 16, 575, 576, 577, 578, 67, 68, 69, 74, 75, 76, 29, 30, 77, 501, 502, 503, 504, 505, 24, 506, 507, 508, 509, 23, 510, 511, 512, 513, 514, 515, 468, 469, 470, 100, 101, 102, 265, 266, 267, 268, 269, 39, 40, 41, 186, 187, 471, 472, 473, 131, 132, 133, 135, 136, 137, 474, 475, 476, 343, 344, 345, 346, 38, 516, 335, 336, 337, 338, 262, 263, 264, 339, 340, 341, 342, 273, 274, 275, 276, 456, 457, 458, 459, 320, 321, 322, 638, 639, 640, 641, 642, 643, 644, 655, 656, 657, 658, 659, 660, 661, 662, 663, 664, 665] rfl (by decide +kernel)
set_option maxRecDepth 20000 in
theorem gL_law_X2_bestScreen : GoodIn wsL_law (wsV RL 133 RX2 yX2_bestScreen wsX2_bestScreen) := goodIn_app (goodIn_of _ (by decide +kernel)) ggL_law_X2_bestScreen
set_option maxRecDepth 20000 in
theorem ggL_law_X3_bestScreen : GoodIn wsL_law wsX3_bestScreen := goodIn_r _ [582, 583, 584, 585, 5, 586, 107, 108, 109, 110, 46, 88, 89, 90, 587, 588, 589, 590, 591, 115, 116, 117, 118, 119, 120, 121, 122, 111, 112, 113, 114, 521, 522, 523, 524, 525, 526, 443, 444, 445, 446, 447, 301, 302, 303, 304, 297, 298, 299, 300, 327, 328, 329, 330, 527, 528, 529, 530, 398, 399, 400, 401, 402, 289, 290, 291, 292, 481, 482, 483, 484, 485, 486, 487, 488, 489, 490, 491, 492, 493, 494, 495, 496, 592, 593, 594, 645, 646, 647, 648, 649, 650, 651, 652, 653, 654] rfl (by decide +kernel)
set_option maxRecDepth 20000 in
theorem gL_law_X3_bestScreen : GoodIn wsL_law (wsV RL 136 RX3 yX3_bestScreen wsX3_bestScreen) := goodIn_app (goodIn_of _ (by decide +kernel)) ggL_law_X3_bestScreen
set_option maxRecDepth 20000 in
theorem ggL_law_X2_bandsWithBest : GoodIn wsL_law wsX2_bandsWithBest := goodIn_r _ [598, 15, 16, 78, 14, 79, 80, 31, 568, 569, 2, 570, 571, 572, 573, 574, 575, 576, 577, 578, 67, 68, 69, 74, 75, 76, 29, 30, 77, 501, 502, 503, 504, 505, 24, 506, 507, 508, 509, 23, 510, 511, 512, 513, 514, 515, 468, 469, 470, 100, 101, 102, 265, 266, 267, 268, 269, 39, 40, 41, 186, 187, 471, 472, 473, 131, 132, 133, 135, 136, 137, 474, 475, 476, 343, 344, 345, 346, 38, 516, 335, 336, 337, 338, 262, 263, 264, 339, 340, 341, 342, 273, 274, 275, 276, 456, 457, 458, 459, 320, 321, 322, 638, 639, 640, 641, 642, 643, 644, 655, 656, 657, 658, 659, 660, 661, 662, 663, 664, 665] rfl (by decide +kernel)
set_option maxRecDepth 20000 in
theorem gL_law_X2_bandsWithBest : GoodIn wsL_law (wsV RL 137 RX2 yX2_bandsWithBest wsX2_bandsWithBest) := goodIn_app (goodIn_of _ (by decide +kernel)) ggL_law_X2_bandsWithBest
set_option maxRecDepth 20000 in
theorem ggL_law_X3_bandsWithBest : GoodIn wsL_law wsX3_bandsWithBest := goodIn_r _ [602, 591, 583, 584, 585, 5, 586, 107, 108, 109, 110, 46, 88, 89, 90, 587, 588, 589, 590, 115, 116, 117, 118, 119, 120, 121, 122, 111, 112, 113, 114, 521, 522, 523, 524, 525, 526, 443, 444, 445, 446, 447, 301, 302, 303, 304, 297, 298, 299, 300, 327, 328, 329, 330, 527, 528, 529, 530, 398, 399, 400, 401, 402, 289, 290, 291, 292, 481, 482, 483, 484, 485, 486, 487, 488, 489, 490, 491, 492, 493, 494, 495, 496, 592, 593, 594, 645, 646, 647, 648, 649, 650, 651, 652, 653, 654] rfl (by decide +kernel)
set_option maxRecDepth 20000 in
theorem gL_law_X3_bandsWithBest : GoodIn wsL_law (wsV RL 140 RX3 yX3_bandsWithBest wsX3_bandsWithBest) := goodIn_app (goodIn_of _ (by decide +kernel)) ggL_law_X3_bandsWithBest
set_option maxRecDepth 20000 in
theorem ggL_law_X2_save : GoodIn wsL_law wsX2_save := goodIn_r _ [606, 15, 18, 20, 607, 608, 2, 609, 67, 68, 69, 638, 639, 640, 641, 642, 643, 644, 655, 656, 657, 658, 659, 660] rfl (by decide +kernel)
set_option maxRecDepth 20000 in
theorem gL_law_X2_save : GoodIn wsL_law (wsV RL 141 RX2 yX2_save wsX2_save) := goodIn_app (goodIn_of _ (by decide +kernel)) ggL_law_X2_save
set_option maxRecDepth 20000 in
theorem ggL_law_X3_save : GoodIn wsL_law wsX3_save := goodIn_r _ [613, 48, 46, 88, 89, 5, 90, 645, 646, 647, 648, 649, 650, 651, 652, 653, 654] rfl (by decide +kernel)
set_option maxRecDepth 20000 in
theorem gL_law_X3_save : GoodIn wsL_law (wsV RL 144 RX3 yX3_save wsX3_save) := goodIn_app (goodIn_of _ (by decide +kernel)) ggL_law_X3_save
set_option maxRecDepth 20000 in
theorem ggL_law_X2_restore : GoodIn wsL_law wsX2_restore := goodIn_r _ [617, 20, 18, 15, 607, 608, 2, 609, 58, 59, 60, 61, 62, 17, 63, 64, 65, 66, 67, 68, 69, 638, 639, 640, 641, 642, 643, 644, 655, 656, 657, 658, 659, 660] rfl (by decide +kernel)
set_option maxRecDepth 20000 in
theorem gL_law_X2_restore : GoodIn wsL_law (wsV RL 145 RX2 yX2_restore wsX2_restore) := goodIn_app (goodIn_of _ (by decide +kernel)) ggL_law_X2_restore
set_option maxRecDepth 20000 in
theorem ggL_law_X3_restore : GoodIn wsL_law wsX3_restore := goodIn_r _ [621, 48, 46, 88, 89, 5, 90, 91, 92, 93, 94, 95, 47, 645, 646, 647, 648, 649, 650, 651, 652, 653, 654] rfl (by decide +kernel)
set_option maxRecDepth 20000 in
theorem gL_law_X3_restore : GoodIn wsL_law (wsV RL 148 RX3 yX3_restore wsX3_restore) := goodIn_app (goodIn_of _ (by decide +kernel)) ggL_law_X3_restore
set_option maxRecDepth 20000 in
theorem ggL_law_X2_historySize : GoodIn wsL_law wsX2_historySize := goodIn_r _ [625, 62, 638, 639, 640, 641, 642, 643, 644] rfl (by decide +kernel)
set_option maxRecDepth 20000 in
theorem gL_law_X2_historySize : GoodIn wsL_law (wsV RL 149 RX2 yX2_historySize wsX2_historySize) := goodIn_app (goodIn_of _ (by decide +kernel)) ggL_law_X2_historySize
set_option maxRecDepth 20000 in
theorem ggL_law_X3_historySize : GoodIn wsL_law wsX3_historySize := goodIn_r _ [629, 95, 645, 646, 647, 648, 649, 650, 651, 652, 653, 654] rfl (by decide +kernel)
set_option maxRecDepth 20000 in
theorem gL_law_X3_historySize : GoodIn wsL_law (wsV RL 152 RX3 yX3_historySize wsX3_historySize) := goodIn_app (goodIn_of _ (by decide +kernel)) ggL_law_X3_historySize
set_option maxRecDepth 20000 in
theorem ggL_law_X2_undo : GoodIn wsL_law wsX2_undo := goodIn_r _ [633, 62, 17, 15, 67, 68, 2, 69, 638, 639, 640, 641, 642, 643, 644, 655, 656, 657, 658, 659, 660] rfl (by decide +kernel)
set_option maxRecDepth 20000 in
theorem gL_law_X2_undo : GoodIn wsL_law (wsV RL 153 RX2 yX2_undo wsX2_undo) := goodIn_app (goodIn_of _ (by decide +kernel)) ggL_law_X2_undo
set_option maxRecDepth 20000 in
theorem ggL_law_X3_undo : GoodIn wsL_law wsX3_undo := goodIn_r _ [637, 95, 46, 47, 645, 646, 647, 648, 649, 650, 651, 652, 653, 654] rfl (by decide +kernel)
set_option maxRecDepth 20000 in
theorem gL_law_X3_undo : GoodIn wsL_law (wsV RL 156 RX3 yX3_undo wsX3_undo) := goodIn_app (goodIn_of _ (by decide +kernel)) ggL_law_X3_undo
