set_option maxRecDepth 20000 in
theorem ggL_law_X6_init : GoodIn wsL_law wsX6_init := goodIn_r _ [8, 9, 10, 11, 12, 13, 14, 15, 16, 17, 18, 19, 20, 21, 22, 23, 24, 25, 26, 27, 28, 29, 30, 31, 32, 33, 34, 35, 36, 37, 38, 39, 40, 41, 42, 43, 44, 45, 46, 47, 48, 49, 50, 51, 52, 53, 54, 55, 56, 57, 58, 59, 60, 61, 62, 63, 64, 65, 66, 67, 2, 68, 69, 70, 71, 72, 73, 74, 75, 76, 77, 78, 79, 80, 81, 82, 83, 84, 85, 86, 87, 88, 89, 90, 91, 92, 93, 94, 95, 96, 97, 98, 99, 100, 101, 102, 103, 104, 105, 106, 107, 108, 109, 110, 111, 112, 113, 657, 658, 659, 633, 634, 635, 636, 637, 638, 639, 640, 641, 642, 660, 661, 662, 663, 664, 665, 666, 667, 668, 669, 670, 671, 672, 673, 674, 675, 676, 677, 678, 679, 680, 681] (by decide +kernel) (by decide +kernel)
set_option maxRecDepth 20000 in
theorem gL_law_X6_init : GoodIn wsL_law (wsX6_init) := ggL_law_X6_init
set_option maxRecDepth 20000 in
theorem ggL_law_X7_init : GoodIn wsL_law wsX7_init := goodIn_r _ [116, 117, 10, 11, 36, 118, 119, 120, 121, 122, 123, 124, 125, 126, 127, 128, 129, 130, 131, 132, 133, 5, 134, 135, 136, 137, 138, 643, 644, 645, 646, 647, 648, 649, 650, 651, 652, 653, 654, 655, 656] (by decide +kernel) (by decide +kernel)
set_option maxRecDepth 20000 in
theorem gL_law_X7_init : GoodIn wsL_law (wsX7_init) := ggL_law_X7_init
set_option maxRecDepth 20000 in
theorem ggL_law_X6_reset : GoodIn wsL_law wsX6_reset := goodIn_r _ [142, 40, 19, 23, 143, 144, 145, 18, 146, 79, 80, 147, 148, 149, 22, 150, 87, 88, 151, 152, 153, 2, 154, 27, 38, 39, 155, 156, 157, 26, 158, 94, 95, 96, 98, 99, 159, 160, 161, 162, 163, 164, 165, 166, 97, 167, 168, 169, 633, 634, 635, 636, 637, 638, 639, 640, 641, 642, 660, 661, 662, 663, 664, 665, 666, 667, 668, 669, 670, 671, 672, 673, 674, 675] (by decide +kernel) (by decide +kernel)
set_option maxRecDepth 20000 in
theorem gL_law_X6_reset : GoodIn wsL_law (wsV RL 13 RX6 yX6_reset wsX6_reset) := goodIn_app (goodIn_of _ (by decide +kernel)) ggL_law_X6_reset
set_option maxRecDepth 20000 in
theorem ggL_law_X7_reset : GoodIn wsL_law wsX7_reset := goodIn_r _ [173, 125, 126, 174, 175, 176, 5, 177, 643, 644, 645, 646, 647, 648, 649, 650, 651, 652, 653, 654, 655, 656] (by decide +kernel) (by decide +kernel)
set_option maxRecDepth 20000 in
theorem gL_law_X7_reset : GoodIn wsL_law (wsV RL 17 RX7 yX7_reset wsX7_reset) := goodIn_app (goodIn_of _ (by decide +kernel)) ggL_law_X7_reset
set_option maxRecDepth 20000 in
theorem ggL_law_X6_setFinal : GoodIn wsL_law wsX6_setFinal := goodIn_r _ [181, 23, 19, 182, 183, 184, 2, 185, 40, 186, 187, 188, 22, 189, 86, 87, 88, 190, 191, 54, 192, 193, 194, 195, 18, 196, 79, 80, 74, 197, 198, 199, 200, 75, 76, 77, 78, 201, 202, 203, 204, 205, 206, 207, 208, 209, 210, 211, 633, 634, 635, 636, 637, 638, 639, 640, 641, 642, 660, 661, 662, 663, 664, 665, 666, 667, 668, 669] (by decide +kernel) (by decide +kernel)
set_option maxRecDepth 20000 in
theorem gL_law_X6_setFinal : GoodIn wsL_law (wsV RL 18 RX6 yX6_setFinal wsX6_setFinal) := goodIn_app (goodIn_of _ (by decide +kernel)) ggL_law_X6_setFinal
set_option maxRecDepth 20000 in
theorem ggL_law_X7_setFinal : GoodIn wsL_law wsX7_setFinal := goodIn_r _ [215, 126, 125, 216, 217, 218, 5, 219, 175, 176, 177, 220, 221, 222, 223, 174, 127, 224, 225, 226, 643, 644, 645, 646, 647, 648, 649, 650, 651, 652, 653, 654, 655, 656] (by decide +kernel) (by decide +kernel)
set_option maxRecDepth 20000 in
theorem gL_law_X7_setFinal : GoodIn wsL_law (wsV RL 22 RX7 yX7_setFinal wsX7_setFinal) := goodIn_app (goodIn_of _ (by decide +kernel)) ggL_law_X7_setFinal
set_option maxRecDepth 20000 in
theorem ggL_law_X6_addRule : GoodIn wsL_law wsX6_addRule := goodIn_r _ [230, 231, 19, 23, 232, 233, 2, 234, 182, 183, 184, 185, 40, 235, 236, 237, 238, 239, 240, 241, 186, 187, 188, 22, 189, 86, 87, 88, 190, 191, 54, 192, 193, 194, 195, 18, 196, 79, 80, 74, 197, 198, 199, 200, 75, 76, 77, 78, 242, 243, 244, 245, 151, 152, 153, 154, 27, 38, 39, 155, 156, 157, 26, 158, 94, 95, 96, 98, 99, 159, 160, 161, 162, 163, 164, 165, 166, 97, 167, 168, 169, 633, 634, 635, 636, 637, 638, 639, 640, 641, 642, 660, 661, 662, 663, 664, 665, 666, 667, 668, 669, 670, 671, 672, 673, 674, 675] (by decide +kernel) (by decide +kernel)
set_option maxRecDepth 20000 in
theorem gL_law_X6_addRule : GoodIn wsL_law (wsV RL 23 RX6 yX6_addRule wsX6_addRule) := goodIn_app (goodIn_of _ (by decide +kernel)) ggL_law_X6_addRule
set_option maxRecDepth 20000 in
theorem ggL_law_X7_addRule : GoodIn wsL_law wsX7_addRule := goodIn_r _ [249, 126, 175, 176, 5, 177, 216, 217, 218, 219, 125, 250, 251, 252, 220, 221, 222, 223, 174, 127, 643, 644, 645, 646, 647, 648, 649, 650, 651, 652, 653, 654, 655, 656] (by decide +kernel) (by decide +kernel)
set_option maxRecDepth 20000 in
theorem gL_law_X7_addRule : GoodIn wsL_law (wsV RL 27 RX7 yX7_addRule wsX7_addRule) := goodIn_app (goodIn_of _ (by decide +kernel)) ggL_law_X7_addRule
set_option maxRecDepth 20000 in
theorem ggL_law_X6_removeRule : GoodIn wsL_law wsX6_removeRule := goodIn_r _ [256, 19, 23, 186, 187, 188, 22, 189, 86, 87, 88, 190, 191, 54, 192, 193, 194, 195, 18, 196, 79, 80, 74, 197, 198, 199, 200, 75, 76, 77, 78, 257, 258, 259, 260, 261, 262, 263, 264, 151, 152, 153, 2, 154, 27, 38, 39, 155, 156, 157, 26, 158, 94, 95, 96, 98, 99, 159, 160, 161, 162, 163, 164, 165, 166, 97, 167, 168, 169, 633, 634, 635, 636, 637, 638, 639, 640, 641, 642, 660, 661, 662, 663, 664, 665, 666, 667, 668, 669, 670, 671, 672, 673, 674, 675] (by decide +kernel) (by decide +kernel)
set_option maxRecDepth 20000 in
theorem gL_law_X6_removeRule : GoodIn wsL_law (wsV RL 28 RX6 yX6_removeRule wsX6_removeRule) := goodIn_app (goodIn_of _ (by decide +kernel)) ggL_law_X6_removeRule
set_option maxRecDepth 20000 in
theorem ggL_law_X7_removeRule : GoodIn wsL_law wsX7_removeRule := goodIn_r _ [268, 126, 175, 176, 5, 177, 220, 221, 222, 223, 174, 127, 643, 644, 645, 646, 647, 648, 649, 650, 651, 652, 653, 654, 655, 656] (by decide +kernel) (by decide +kernel)
set_option maxRecDepth 20000 in
theorem gL_law_X7_removeRule : GoodIn wsL_law (wsV RL 31 RX7 yX7_removeRule wsX7_removeRule) := goodIn_app (goodIn_of _ (by decide +kernel)) ggL_law_X7_removeRule
set_option maxRecDepth 20000 in
theorem ggL_law_X6_swapStates : GoodIn wsL_law wsX6_swapStates := goodIn_r _ [272, 23, 19, 182, 183, 184, 2, 185, 40, 186, 187, 188, 22, 189, 86, 87, 88, 190, 191, 54, 192, 193, 194, 195, 18, 196, 79, 80, 74, 197, 198, 199, 200, 75, 76, 77, 78, 273, 274, 275, 276, 277, 278, 279, 280, 281, 282, 283, 284, 285, 286, 287, 288, 202, 203, 204, 151, 152, 153, 154, 27, 38, 39, 155, 156, 157, 26, 158, 94, 95, 96, 98, 99, 159, 160, 161, 162, 163, 164, 165, 166, 97, 167, 168, 169, 633, 634, 635, 636, 637, 638, 639, 640, 641, 642, 667, 668, 669, 660, 661, 662, 663, 664, 665, 666, 670, 671, 672, 673, 674, 675] (by decide +kernel) (by decide +kernel)
set_option maxRecDepth 20000 in
theorem gL_law_X6_swapStates : GoodIn wsL_law (wsV RL 32 RX6 yX6_swapStates wsX6_swapStates) := goodIn_app (goodIn_of _ (by decide +kernel)) ggL_law_X6_swapStates
set_option maxRecDepth 20000 in
theorem ggL_law_X7_swapStates : GoodIn wsL_law wsX7_swapStates := goodIn_r _ [292, 126, 125, 216, 217, 218, 5, 219, 175, 176, 177, 220, 221, 222, 223, 174, 127, 250, 251, 252, 293, 294, 295, 224, 225, 226, 643, 644, 645, 646, 647, 648, 649, 650, 651, 652, 653, 654, 655, 656] (by decide +kernel) (by decide +kernel)
set_option maxRecDepth 20000 in
theorem gL_law_X7_swapStates : GoodIn wsL_law (wsV RL 36 RX7 yX7_swapStates wsX7_swapStates) := goodIn_app (goodIn_of _ (by decide +kernel)) ggL_law_X7_swapStates
set_option maxRecDepth 20000 in
theorem ggL_law_X6_ruleCount : GoodIn wsL_law wsX6_ruleCount := goodIn_r _ [299, 19, 633, 634, 635, 636, 637, 638, 639, 640, 641, 642, 660, 661, 662, 663, 664, 665, 666] (by decide +kernel) (by decide +kernel)
set_option maxRecDepth 20000 in
theorem gL_law_X6_ruleCount : GoodIn wsL_law (wsV RL 37 RX6 yX6_ruleCount wsX6_ruleCount) := goodIn_app (goodIn_of _ (by decide +kernel)) ggL_law_X6_ruleCount
set_option maxRecDepth 20000 in
theorem ggL_law_X7_ruleCount : GoodIn wsL_law wsX7_ruleCount := goodIn_r _ [303, 126, 643, 644, 645, 646, 647, 648, 649, 650, 651, 652, 653, 654, 655, 656] (by decide +kernel) (by decide +kernel)
set_option maxRecDepth 20000 in
theorem gL_law_X7_ruleCount : GoodIn wsL_law (wsV RL 41 RX7 yX7_ruleCount wsX7_ruleCount) := goodIn_app (goodIn_of _ (by decide +kernel)) ggL_law_X7_ruleCount
set_option maxRecDepth 20000 in
theorem ggL_law_X6_finalStates : GoodIn wsL_law wsX6_finalStates := goodIn_r _ [307, 19, 633, 634, 635, 636, 637, 638, 639, 640, 641, 642, 660, 661, 662, 663, 664, 665, 666] (by decide +kernel) (by decide +kernel)
set_option maxRecDepth 20000 in
theorem gL_law_X6_finalStates : GoodIn wsL_law (wsV RL 42 RX6 yX6_finalStates wsX6_finalStates) := goodIn_app (goodIn_of _ (by decide +kernel)) ggL_law_X6_finalStates
set_option maxRecDepth 20000 in
theorem ggL_law_X7_finalStates : GoodIn wsL_law wsX7_finalStates := goodIn_r _ [311, 126, 643, 644, 645, 646, 647, 648, 649, 650, 651, 652, 653, 654, 655, 656] (by decide +kernel) (by decide +kernel)
set_option maxRecDepth 20000 in
theorem gL_law_X7_finalStates : GoodIn wsL_law (wsV RL 45 RX7 yX7_finalStates wsX7_finalStates) := goodIn_app (goodIn_of _ (by decide +kernel)) ggL_law_X7_finalStates
set_option maxRecDepth 20000 in
theorem ggL_law_X6_treeCount : GoodIn wsL_law wsX6_treeCount := goodIn_r _ [315, 69, 316, 317, 2, 318] (by decide +kernel) (by decide +kernel)
set_option maxRecDepth 20000 in
theorem gL_law_X6_treeCount : GoodIn wsL_law (wsV RL 46 RX6 yX6_treeCount wsX6_treeCount) := goodIn_app (goodIn_of _ (by decide +kernel)) ggL_law_X6_treeCount
set_option maxRecDepth 20000 in
theorem ggL_law_X7_treeCount : GoodIn wsL_law wsX7_treeCount := goodIn_r _ [322, 123, 323, 324, 5, 325, 175, 176, 177, 643, 644, 645, 646, 647, 648, 649, 650, 651, 652, 653, 654, 655, 656] (by decide +kernel) (by decide +kernel)
set_option maxRecDepth 20000 in
theorem gL_law_X7_treeCount : GoodIn wsL_law (wsV RL 49 RX7 yX7_treeCount wsX7_treeCount) := goodIn_app (goodIn_of _ (by decide +kernel)) ggL_law_X7_treeCount
set_option maxRecDepth 20000 in
theorem ggL_law_X6_treeOf : GoodIn wsL_law wsX6_treeOf := goodIn_r _ [329, 231, 15, 232, 233, 2, 234, 330, 331, 332, 333, 334, 335, 336, 337, 338, 14, 339, 45, 67, 68, 69, 56, 57, 58, 633, 634, 635, 636, 637, 638, 639, 640, 641, 642, 657, 658, 659] (by decide +kernel) (by decide +kernel)
set_option maxRecDepth 20000 in
theorem gL_law_X6_treeOf : GoodIn wsL_law (wsV RL 50 RX6 yX6_treeOf wsX6_treeOf) := goodIn_app (goodIn_of _ (by decide +kernel)) ggL_law_X6_treeOf
set_option maxRecDepth 20000 in
theorem ggL_law_X7_treeOf : GoodIn wsL_law wsX7_treeOf := goodIn_r _ [343, 121, 123, 118, 119, 120, 175, 176, 5, 177, 250, 251, 252, 344, 345, 346, 643, 644, 645, 646, 647, 648, 649, 650, 651, 652, 653, 654, 655, 656] (by decide +kernel) (by decide +kernel)
set_option maxRecDepth 20000 in
theorem gL_law_X7_treeOf : GoodIn wsL_law (wsV RL 54 RX7 yX7_treeOf wsX7_treeOf) := goodIn_app (goodIn_of _ (by decide +kernel)) ggL_law_X7_treeOf
set_option maxRecDepth 20000 in
theorem ggL_law_X6_symbolOf : GoodIn wsL_law wsX6_symbolOf := goodIn_r _ [350, 15, 333, 334, 2, 335, 351, 352, 353, 14, 354, 45, 633, 634, 635, 636, 637, 638, 639, 640, 641, 642, 657, 658, 659] (by decide +kernel) (by decide +kernel)
set_option maxRecDepth 20000 in
theorem gL_law_X6_symbolOf : GoodIn wsL_law (wsV RL 55 RX6 yX6_symbolOf wsX6_symbolOf) := goodIn_app (goodIn_of _ (by decide +kernel)) ggL_law_X6_symbolOf
set_option maxRecDepth 20000 in
theorem ggL_law_X7_symbolOf : GoodIn wsL_law wsX7_symbolOf := goodIn_r _ [358, 118, 344, 345, 5, 346, 175, 176, 177, 643, 644, 645, 646, 647, 648, 649, 650, 651, 652, 653, 654, 655, 656] (by decide +kernel) (by decide +kernel)
set_option maxRecDepth 20000 in
theorem gL_law_X7_symbolOf : GoodIn wsL_law (wsV RL 58 RX7 yX7_symbolOf wsX7_symbolOf) := goodIn_app (goodIn_of _ (by decide +kernel)) ggL_law_X7_symbolOf
set_option maxRecDepth 20000 in
theorem ggL_law_X6_childOf : GoodIn wsL_law wsX6_childOf := goodIn_r _ [362, 15, 333, 334, 2, 335, 363, 364, 365, 14, 366, 367, 352, 353, 354, 45, 368, 369, 370, 371, 372, 373, 374, 375, 633, 634, 635, 636, 637, 638, 639, 640, 641, 642, 657, 658, 659] (by decide +kernel) (by decide +kernel)
set_option maxRecDepth 20000 in
theorem gL_law_X6_childOf : GoodIn wsL_law (wsV RL 59 RX6 yX6_childOf wsX6_childOf) := goodIn_app (goodIn_of _ (by decide +kernel)) ggL_law_X6_childOf
set_option maxRecDepth 20000 in
theorem ggL_law_X7_childOf : GoodIn wsL_law wsX7_childOf := goodIn_r _ [379, 118, 119, 120, 344, 345, 5, 346, 175, 176, 177, 250, 251, 252, 643, 644, 645, 646, 647, 648, 649, 650, 651, 652, 653, 654, 655, 656] (by decide +kernel) (by decide +kernel)
set_option maxRecDepth 20000 in
theorem gL_law_X7_childOf : GoodIn wsL_law (wsV RL 62 RX7 yX7_childOf wsX7_childOf) := goodIn_app (goodIn_of _ (by decide +kernel)) ggL_law_X7_childOf
set_option maxRecDepth 20000 in
theorem ggL_law_X6_sizeOf : GoodIn wsL_law wsX6_sizeOf := goodIn_r _ [383, 333, 334, 2, 335, 384, 67, 68, 69] (by decide +kernel) (by decide +kernel)
set_option maxRecDepth 20000 in
theorem gL_law_X6_sizeOf : GoodIn wsL_law (wsV RL 63 RX6 yX6_sizeOf wsX6_sizeOf) := goodIn_app (goodIn_of _ (by decide +kernel)) ggL_law_X6_sizeOf
set_option maxRecDepth 20000 in
theorem ggL_law_X7_sizeOf : GoodIn wsL_law wsX7_sizeOf := goodIn_r _ [388, 121, 344, 345, 5, 346, 175, 176, 177, 643, 644, 645, 646, 647, 648, 649, 650, 651, 652, 653, 654, 655, 656] (by decide +kernel) (by decide +kernel)
set_option maxRecDepth 20000 in
theorem gL_law_X7_sizeOf : GoodIn wsL_law (wsV RL 66 RX7 yX7_sizeOf wsX7_sizeOf) := goodIn_app (goodIn_of _ (by decide +kernel)) ggL_law_X7_sizeOf
set_option maxRecDepth 20000 in
theorem ggL_law_X6_heightOf : GoodIn wsL_law wsX6_heightOf := goodIn_r _ [392, 15, 333, 334, 2, 335, 633, 634, 635, 636, 637, 638, 639, 640, 641, 642, 657, 658, 659] (by decide +kernel) (by decide +kernel)
set_option maxRecDepth 20000 in
theorem gL_law_X6_heightOf : GoodIn wsL_law (wsV RL 67 RX6 yX6_heightOf wsX6_heightOf) := goodIn_app (goodIn_of _ (by decide +kernel)) ggL_law_X6_heightOf
set_option maxRecDepth 20000 in
theorem ggL_law_X7_heightOf : GoodIn wsL_law wsX7_heightOf := goodIn_r _ [396, 122, 344, 345, 5, 346, 175, 176, 177, 643, 644, 645, 646, 647, 648, 649, 650, 651, 652, 653, 654, 655, 656] (by decide +kernel) (by decide +kernel)
set_option maxRecDepth 20000 in
theorem gL_law_X7_heightOf : GoodIn wsL_law (wsV RL 70 RX7 yX7_heightOf wsX7_heightOf) := goodIn_app (goodIn_of _ (by decide +kernel)) ggL_law_X7_heightOf
set_option maxRecDepth 20000 in
theorem ggL_law_X6_subsetOf : GoodIn wsL_law wsX6_subsetOf := goodIn_r _ [400, 333, 334, 2, 335, 401, 402, 403, 404, 38, 15, 37, 27, 368, 369, 370, 14, 371, 45, 372, 373, 374, 375, 351, 352, 353, 354, 405, 406, 407, 26, 408, 94, 95, 96, 98, 99, 97, 633, 634, 635, 636, 637, 638, 639, 640, 641, 642, 657, 658, 659, 670, 671, 672, 673, 674, 675] (by decide +kernel) (by decide +kernel)
set_option maxRecDepth 20000 in
theorem gL_law_X6_subsetOf : GoodIn wsL_law (wsV RL 71 RX6 yX6_subsetOf wsX6_subsetOf) := goodIn_app (goodIn_of _ (by decide +kernel)) ggL_law_X6_subsetOf
set_option maxRecDepth 20000 in
theorem ggL_law_X7_subsetOf : GoodIn wsL_law wsX7_subsetOf := goodIn_r _ [412, 344, 345, 5, 346, 175, 176, 177, 413, 414, 415, 416, 124, 126, 118, 119, 120, 250, 251, 252, 417, 418, 419, 420, 421, 422, 423, 125, 643, 644, 645, 646, 647, 648, 649, 650, 651, 652, 653, 654, 655, 656] (by decide +kernel) (by decide +kernel)
set_option maxRecDepth 20000 in
theorem gL_law_X7_subsetOf : GoodIn wsL_law (wsV RL 74 RX7 yX7_subsetOf wsX7_subsetOf) := goodIn_app (goodIn_of _ (by decide +kernel)) ggL_law_X7_subsetOf
set_option maxRecDepth 20000 in
theorem ggL_law_X6_accepts : GoodIn wsL_law wsX6_accepts := goodIn_r _ [427, 333, 334, 2, 335, 428, 429, 430, 431, 19, 401, 402, 403, 404, 38, 15, 37, 27, 368, 369, 370, 14, 371, 45, 372, 373, 374, 375, 351, 352, 353, 354, 405, 406, 407, 26, 408, 94, 95, 96, 98, 99, 97, 633, 634, 635, 636, 637, 638, 639, 640, 641, 642, 660, 661, 662, 663, 664, 665, 666, 657, 658, 659, 670, 671, 672, 673, 674, 675] (by decide +kernel) (by decide +kernel)
set_option maxRecDepth 20000 in
theorem gL_law_X6_accepts : GoodIn wsL_law (wsV RL 75 RX6 yX6_accepts wsX6_accepts) := goodIn_app (goodIn_of _ (by decide +kernel)) ggL_law_X6_accepts
set_option maxRecDepth 20000 in
theorem ggL_law_X7_accepts : GoodIn wsL_law wsX7_accepts := goodIn_r _ [435, 344, 345, 5, 346, 175, 176, 177, 413, 414, 415, 416, 124, 126, 118, 119, 120, 250, 251, 252, 417, 418, 419, 436, 437, 438, 439, 420, 421, 422, 423, 125, 643, 644, 645, 646, 647, 648, 649, 650, 651, 652, 653, 654, 655, 656] (by decide +kernel) (by decide +kernel)
set_option maxRecDepth 20000 in
theorem gL_law_X7_accepts : GoodIn wsL_law (wsV RL 78 RX7 yX7_accepts wsX7_accepts) := goodIn_app (goodIn_of _ (by decide +kernel)) ggL_law_X7_accepts
set_option maxRecDepth 20000 in
theorem ggL_law_X6_runCount : GoodIn wsL_law wsX6_runCount := goodIn_r _ [443, 31, 15, 19, 333, 334, 2, 335, 182, 183, 184, 185, 40, 444, 445, 446, 30, 447, 106, 448, 449, 450, 451, 104, 105, 452, 364, 365, 14, 366, 367, 352, 353, 354, 45, 453, 369, 370, 371, 454, 373, 374, 375, 455, 160, 161, 162, 456, 457, 458, 459, 460, 461, 462, 463, 464, 633, 634, 635, 636, 637, 638, 639, 640, 641, 642, 676, 677, 678, 657, 658, 659, 660, 661, 662, 663, 664, 665, 666] (by decide +kernel) (by decide +kernel)
set_option maxRecDepth 20000 in
theorem gL_law_X6_runCount : GoodIn wsL_law (wsV RL 79 RX6 yX6_runCount wsX6_runCount) := goodIn_app (goodIn_of _ (by decide +kernel)) ggL_law_X6_runCount
set_option maxRecDepth 20000 in
theorem ggL_law_X7_runCount : GoodIn wsL_law wsX7_runCount := goodIn_r _ [468, 124, 344, 345, 5, 346, 175, 176, 177, 216, 217, 218, 219, 125, 413, 414, 415, 416, 126, 118, 119, 120, 250, 251, 252, 417, 418, 419, 643, 644, 645, 646, 647, 648, 649, 650, 651, 652, 653, 654, 655, 656] (by decide +kernel) (by decide +kernel)
set_option maxRecDepth 20000 in
theorem gL_law_X7_runCount : GoodIn wsL_law (wsV RL 82 RX7 yX7_runCount wsX7_runCount) := goodIn_app (goodIn_of _ (by decide +kernel)) ggL_law_X7_runCount
set_option maxRecDepth 20000 in
theorem ggL_law_X6_acceptedCount : GoodIn wsL_law wsX6_acceptedCount := goodIn_r _ [472, 69, 316, 317, 2, 318, 428, 429, 430, 431, 19, 401, 402, 403, 404, 38, 15, 37, 27, 368, 369, 370, 14, 371, 45, 372, 373, 374, 375, 351, 352, 353, 354, 405, 406, 407, 26, 408, 94, 95, 96, 98, 99, 97, 633, 634, 635, 636, 637, 638, 639, 640, 641, 642, 660, 661, 662, 663, 664, 665, 666, 657, 658, 659, 670, 671, 672, 673, 674, 675] (by decide +kernel) (by decide +kernel)
set_option maxRecDepth 20000 in
theorem gL_law_X6_acceptedCount : GoodIn wsL_law (wsV RL 83 RX6 yX6_acceptedCount wsX6_acceptedCount) := goodIn_app (goodIn_of _ (by decide +kernel)) ggL_law_X6_acceptedCount
set_option maxRecDepth 20000 in
theorem ggL_law_X7_acceptedCount : GoodIn wsL_law wsX7_acceptedCount := goodIn_r _ [476, 123, 323, 324, 5, 325, 175, 176, 177, 413, 414, 415, 416, 124, 126, 118, 119, 120, 250, 251, 252, 417, 418, 419, 436, 437, 438, 439, 420, 421, 422, 423, 125, 643, 644, 645, 646, 647, 648, 649, 650, 651, 652, 653, 654, 655, 656] (by decide +kernel) (by decide +kernel)
set_option maxRecDepth 20000 in
theorem gL_law_X7_acceptedCount : GoodIn wsL_law (wsV RL 86 RX7 yX7_acceptedCount wsX7_acceptedCount) := goodIn_app (goodIn_of _ (by decide +kernel)) ggL_law_X7_acceptedCount
set_option maxRecDepth 20000 in
theorem ggL_law_X6_acceptedTree : GoodIn wsL_law wsX6_acceptedTree := goodIn_r _ [480, 69, 316, 317, 2, 318, 428, 429, 430, 431, 19, 401, 402, 403, 404, 38, 15, 37, 27, 368, 369, 370, 14, 371, 45, 372, 373, 374, 375, 351, 352, 353, 354, 405, 406, 407, 26, 408, 94, 95, 96, 98, 99, 97, 633, 634, 635, 636, 637, 638, 639, 640, 641, 642, 660, 661, 662, 663, 664, 665, 666, 657, 658, 659, 670, 671, 672, 673, 674, 675] (by decide +kernel) (by decide +kernel)
set_option maxRecDepth 20000 in
theorem gL_law_X6_acceptedTree : GoodIn wsL_law (wsV RL 87 RX6 yX6_acceptedTree wsX6_acceptedTree) := goodIn_app (goodIn_of _ (by decide +kernel)) ggL_law_X6_acceptedTree
set_option maxRecDepth 20000 in
theorem ggL_law_X7_acceptedTree : GoodIn wsL_law wsX7_acceptedTree := goodIn_r _ [484, 123, 323, 324, 5, 325, 175, 176, 177, 413, 414, 415, 416, 124, 126, 118, 119, 120, 250, 251, 252, 417, 418, 419, 436, 437, 438, 439, 420, 421, 422, 423, 125, 643, 644, 645, 646, 647, 648, 649, 650, 651, 652, 653, 654, 655, 656] (by decide +kernel) (by decide +kernel)
set_option maxRecDepth 20000 in
theorem gL_law_X7_acceptedTree : GoodIn wsL_law (wsV RL 90 RX7 yX7_acceptedTree wsX7_acceptedTree) := goodIn_app (goodIn_of _ (by decide +kernel)) ggL_law_X7_acceptedTree
set_option maxRecDepth 20000 in
theorem ggL_law_X6_treesOfSet : GoodIn wsL_law wsX6_treesOfSet := goodIn_r _ [488, 35, 489, 490, 491, 2, 492, 40, 493, 494, 495, 496, 39, 27, 497, 498, 499, 34, 500, 111, 112, 501, 198, 199, 200, 502, 160, 161, 162, 503, 504, 505, 506, 507, 406, 407, 26, 408, 94, 95, 96, 98, 99, 97, 508, 509, 510, 511, 512, 191, 54, 192, 513, 514, 515, 516, 517, 518, 519, 520, 521, 522, 523, 524, 525, 526, 527, 528, 113, 633, 634, 635, 636, 637, 638, 639, 640, 641, 642, 679, 680, 681, 670, 671, 672, 673, 674, 675] (by decide +kernel) (by decide +kernel)
set_option maxRecDepth 20000 in
theorem gL_law_X6_treesOfSet : GoodIn wsL_law (wsV RL 91 RX6 yX6_treesOfSet wsX6_treesOfSet) := goodIn_app (goodIn_of _ (by decide +kernel)) ggL_law_X6_treesOfSet
set_option maxRecDepth 20000 in
theorem ggL_law_X7_treesOfSet : GoodIn wsL_law wsX7_treesOfSet := goodIn_r _ [532, 125, 128, 175, 176, 5, 177, 533, 534, 535, 536, 537, 538, 539, 540, 541, 542, 543, 544, 129, 545, 546, 547, 548, 126, 250, 251, 252, 224, 225, 226, 417, 418, 419, 549, 550, 551, 552, 643, 644, 645, 646, 647, 648, 649, 650, 651, 652, 653, 654, 655, 656] (by decide +kernel) (by decide +kernel)
set_option maxRecDepth 20000 in
theorem gL_law_X7_treesOfSet : GoodIn wsL_law (wsV RL 94 RX7 yX7_treesOfSet wsX7_treesOfSet) := goodIn_app (goodIn_of _ (by decide +kernel)) ggL_law_X7_treesOfSet
set_option maxRecDepth 20000 in
theorem ggL_law_X6_reachedSets : GoodIn wsL_law wsX6_reachedSets := goodIn_r _ [556, 35, 493, 494, 495, 2, 496, 39, 27, 489, 490, 491, 492, 40, 497, 498, 499, 34, 500, 111, 112, 501, 198, 199, 200, 502, 160, 161, 162, 503, 504, 505, 506, 507, 406, 407, 26, 408, 94, 95, 96, 98, 99, 97, 508, 509, 510, 511, 512, 191, 54, 192, 513, 514, 515, 516, 517, 518, 519, 520, 521, 522, 523, 524, 525, 526, 527, 528, 113, 557, 558, 559, 560, 633, 634, 635, 636, 637, 638, 639, 640, 641, 642, 679, 680, 681, 670, 671, 672, 673, 674, 675] (by decide +kernel) (by decide +kernel)
set_option maxRecDepth 20000 in
theorem gL_law_X6_reachedSets : GoodIn wsL_law (wsV RL 95 RX6 yX6_reachedSets wsX6_reachedSets) := goodIn_app (goodIn_of _ (by decide +kernel)) ggL_law_X6_reachedSets
set_option maxRecDepth 20000 in
theorem ggL_law_X7_reachedSets : GoodIn wsL_law wsX7_reachedSets := goodIn_r _ [564, 128, 533, 534, 535, 5, 536, 537, 538, 539, 540, 541, 542, 543, 544, 125, 129, 545, 546, 547, 548, 126, 250, 251, 252, 224, 225, 226, 417, 418, 419, 549, 550, 551, 552, 643, 644, 645, 646, 647, 648, 649, 650, 651, 652, 653, 654, 655, 656] (by decide +kernel) (by decide +kernel)
set_option maxRecDepth 20000 in
theorem gL_law_X7_reachedSets : GoodIn wsL_law (wsV RL 98 RX7 yX7_reachedSets wsX7_reachedSets) := goodIn_app (goodIn_of _ (by decide +kernel)) ggL_law_X7_reachedSets
set_option maxRecDepth 20000 in
theorem ggL_law_X6_isReachable : GoodIn wsL_law wsX6_isReachable := goodIn_r _ [568, 182, 183, 184, 2, 185, 40, 493, 494, 495, 496, 39, 35, 27, 489, 490, 491, 492, 497, 498, 499, 34, 500, 111, 112, 501, 198, 199, 200, 502, 160, 161, 162, 503, 504, 505, 506, 507, 406, 407, 26, 408, 94, 95, 96, 98, 99, 97, 508, 509, 510, 511, 512, 191, 54, 192, 513, 514, 515, 516, 517, 518, 519, 520, 521, 522, 523, 524, 525, 526, 527, 528, 113, 569, 570, 571, 572, 557, 558, 559, 560, 633, 634, 635, 636, 637, 638, 639, 640, 641, 642, 679, 680, 681, 670, 671, 672, 673, 674, 675] (by decide +kernel) (by decide +kernel)
set_option maxRecDepth 20000 in
theorem gL_law_X6_isReachable : GoodIn wsL_law (wsV RL 99 RX6 yX6_isReachable wsX6_isReachable) := goodIn_app (goodIn_of _ (by decide +kernel)) ggL_law_X6_isReachable
set_option maxRecDepth 20000 in
theorem ggL_law_X7_isReachable : GoodIn wsL_law wsX7_isReachable := goodIn_r _ [576, 216, 217, 218, 5, 219, 125, 175, 176, 177, 577, 578, 579, 580, 128, 533, 534, 535, 536, 537, 538, 539, 540, 541, 542, 543, 544, 129, 545, 546, 547, 548, 126, 250, 251, 252, 224, 225, 226, 417, 418, 419, 549, 550, 551, 552, 643, 644, 645, 646, 647, 648, 649, 650, 651, 652, 653, 654, 655, 656] (by decide +kernel) (by decide +kernel)
set_option maxRecDepth 20000 in
theorem gL_law_X7_isReachable : GoodIn wsL_law (wsV RL 102 RX7 yX7_isReachable wsX7_isReachable) := goodIn_app (goodIn_of _ (by decide +kernel)) ggL_law_X7_isReachable
set_option maxRecDepth 20000 in
theorem ggL_law_X6_isEmpty : GoodIn wsL_law wsX6_isEmpty := goodIn_r _ [584, 19, 493, 494, 495, 2, 496, 39, 35, 27, 489, 490, 491, 492, 40, 497, 498, 499, 34, 500, 111, 112, 501, 198, 199, 200, 502, 160, 161, 162, 503, 504, 505, 506, 507, 406, 407, 26, 408, 94, 95, 96, 98, 99, 97, 508, 509, 510, 511, 512, 191, 54, 192, 513, 514, 515, 516, 517, 518, 519, 520, 521, 522, 523, 524, 525, 526, 527, 528, 113, 569, 570, 571, 572, 557, 558, 559, 560, 633, 634, 635, 636, 637, 638, 639, 640, 641, 642, 660, 661, 662, 663, 664, 665, 666, 679, 680, 681, 670, 671, 672, 673, 674, 675] (by decide +kernel) (by decide +kernel)
set_option maxRecDepth 20000 in
theorem gL_law_X6_isEmpty : GoodIn wsL_law (wsV RL 103 RX6 yX6_isEmpty wsX6_isEmpty) := goodIn_app (goodIn_of _ (by decide +kernel)) ggL_law_X6_isEmpty
set_option maxRecDepth 20000 in
theorem ggL_law_X7_isEmpty : GoodIn wsL_law wsX7_isEmpty := goodIn_r _ [588, 126, 577, 578, 579, 5, 580, 128, 533, 534, 535, 536, 537, 538, 539, 540, 541, 542, 543, 544, 125, 129, 545, 546, 547, 548, 250, 251, 252, 224, 225, 226, 417, 418, 419, 549, 550, 551, 552, 643, 644, 645, 646, 647, 648, 649, 650, 651, 652, 653, 654, 655, 656] (by decide +kernel) (by decide +kernel)
set_option maxRecDepth 20000 in
theorem gL_law_X7_isEmpty : GoodIn wsL_law (wsV RL 106 RX7 yX7_isEmpty wsX7_isEmpty) := goodIn_app (goodIn_of _ (by decide +kernel)) ggL_law_X7_isEmpty
set_option maxRecDepth 20000 in
theorem ggL_law_X6_isUniversal : GoodIn wsL_law wsX6_isUniversal := goodIn_r _ [592, 35, 19, 493, 494, 495, 2, 496, 39, 27, 489, 490, 491, 492, 40, 497, 498, 499, 34, 500, 111, 112, 501, 198, 199, 200, 502, 160, 161, 162, 503, 504, 505, 506, 507, 406, 407, 26, 408, 94, 95, 96, 98, 99, 97, 508, 509, 510, 511, 512, 191, 54, 192, 513, 514, 515, 516, 517, 518, 519, 520, 521, 522, 523, 524, 525, 526, 527, 528, 113, 557, 558, 559, 560, 633, 634, 635, 636, 637, 638, 639, 640, 641, 642, 660, 661, 662, 663, 664, 665, 666, 679, 680, 681, 670, 671, 672, 673, 674, 675] (by decide +kernel) (by decide +kernel)
set_option maxRecDepth 20000 in
theorem gL_law_X6_isUniversal : GoodIn wsL_law (wsV RL 107 RX6 yX6_isUniversal wsX6_isUniversal) := goodIn_app (goodIn_of _ (by decide +kernel)) ggL_law_X6_isUniversal
set_option maxRecDepth 20000 in
theorem ggL_law_X7_isUniversal : GoodIn wsL_law wsX7_isUniversal := goodIn_r _ [596, 128, 126, 533, 534, 535, 5, 536, 537, 538, 539, 540, 541, 542, 543, 544, 125, 129, 545, 546, 547, 548, 250, 251, 252, 224, 225, 226, 417, 418, 419, 549, 550, 551, 552, 643, 644, 645, 646, 647, 648, 649, 650, 651, 652, 653, 654, 655, 656] (by decide +kernel) (by decide +kernel)
set_option maxRecDepth 20000 in
theorem gL_law_X7_isUniversal : GoodIn wsL_law (wsV RL 110 RX7 yX7_isUniversal wsX7_isUniversal) := goodIn_app (goodIn_of _ (by decide +kernel)) ggL_law_X7_isUniversal
set_option maxRecDepth 20000 in
theorem ggL_law_X6_isComplete : GoodIn wsL_law wsX6_isComplete := goodIn_r _ [600, 35, 493, 494, 495, 2, 496, 39, 27, 489, 490, 491, 492, 40, 497, 498, 499, 34, 500, 111, 112, 501, 198, 199, 200, 502, 160, 161, 162, 503, 504, 505, 506, 507, 406, 407, 26, 408, 94, 95, 96, 98, 99, 97, 508, 509, 510, 511, 512, 191, 54, 192, 513, 514, 515, 516, 517, 518, 519, 520, 521, 522, 523, 524, 525, 526, 527, 528, 113, 557, 558, 559, 560, 633, 634, 635, 636, 637, 638, 639, 640, 641, 642, 679, 680, 681, 670, 671, 672, 673, 674, 675] (by decide +kernel) (by decide +kernel)
set_option maxRecDepth 20000 in
theorem gL_law_X6_isComplete : GoodIn wsL_law (wsV RL 111 RX6 yX6_isComplete wsX6_isComplete) := goodIn_app (goodIn_of _ (by decide +kernel)) ggL_law_X6_isComplete
set_option maxRecDepth 20000 in
theorem ggL_law_X7_isComplete : GoodIn wsL_law wsX7_isComplete := goodIn_r _ [604, 128, 533, 534, 535, 5, 536, 537, 538, 539, 540, 541, 542, 543, 544, 125, 129, 545, 546, 547, 548, 126, 250, 251, 252, 224, 225, 226, 417, 418, 419, 549, 550, 551, 552, 643, 644, 645, 646, 647, 648, 649, 650, 651, 652, 653, 654, 655, 656] (by decide +kernel) (by decide +kernel)
set_option maxRecDepth 20000 in
theorem gL_law_X7_isComplete : GoodIn wsL_law (wsV RL 114 RX7 yX7_isComplete wsX7_isComplete) := goodIn_app (goodIn_of _ (by decide +kernel)) ggL_law_X7_isComplete
set_option maxRecDepth 20000 in
theorem ggL_law_X6_isDeterministic : GoodIn wsL_law wsX6_isDeterministic := goodIn_r _ [608, 35, 493, 494, 495, 2, 496, 39, 27, 489, 490, 491, 492, 40, 497, 498, 499, 34, 500, 111, 112, 501, 198, 199, 200, 502, 160, 161, 162, 503, 504, 505, 506, 507, 406, 407, 26, 408, 94, 95, 96, 98, 99, 97, 508, 509, 510, 511, 512, 191, 54, 192, 513, 514, 515, 516, 517, 518, 519, 520, 521, 522, 523, 524, 525, 526, 527, 528, 113, 557, 558, 559, 560, 205, 206, 207, 208, 209, 210, 211, 633, 634, 635, 636, 637, 638, 639, 640, 641, 642, 679, 680, 681, 670, 671, 672, 673, 674, 675] (by decide +kernel) (by decide +kernel)
set_option maxRecDepth 20000 in
theorem gL_law_X6_isDeterministic : GoodIn wsL_law (wsV RL 115 RX6 yX6_isDeterministic wsX6_isDeterministic) := goodIn_app (goodIn_of _ (by decide +kernel)) ggL_law_X6_isDeterministic
set_option maxRecDepth 20000 in
theorem ggL_law_X7_isDeterministic : GoodIn wsL_law wsX7_isDeterministic := goodIn_r _ [612, 128, 533, 534, 535, 5, 536, 537, 538, 539, 540, 541, 542, 543, 544, 125, 129, 545, 546, 547, 548, 126, 250, 251, 252, 224, 225, 226, 417, 418, 419, 549, 550, 551, 552, 643, 644, 645, 646, 647, 648, 649, 650, 651, 652, 653, 654, 655, 656] (by decide +kernel) (by decide +kernel)
set_option maxRecDepth 20000 in
theorem gL_law_X7_isDeterministic : GoodIn wsL_law (wsV RL 118 RX7 yX7_isDeterministic wsX7_isDeterministic) := goodIn_app (goodIn_of _ (by decide +kernel)) ggL_law_X7_isDeterministic
set_option maxRecDepth 20000 in
theorem ggL_law_X6_leastHeight : GoodIn wsL_law wsX6_leastHeight := goodIn_r _ [616, 35, 19, 493, 494, 495, 2, 496, 39, 27, 489, 490, 491, 492, 40, 497, 498, 499, 34, 500, 111, 112, 501, 198, 199, 200, 502, 160, 161, 162, 503, 504, 505, 506, 507, 406, 407, 26, 408, 94, 95, 96, 98, 99, 97, 508, 509, 510, 511, 512, 191, 54, 192, 513, 514, 515, 516, 517, 518, 519, 520, 521, 522, 523, 524, 525, 526, 527, 528, 113, 557, 558, 559, 560, 633, 634, 635, 636, 637, 638, 639, 640, 641, 642, 660, 661, 662, 663, 664, 665, 666, 679, 680, 681, 670, 671, 672, 673, 674, 675] (by decide +kernel) (by decide +kernel)
set_option maxRecDepth 20000 in
theorem gL_law_X6_leastHeight : GoodIn wsL_law (wsV RL 119 RX6 yX6_leastHeight wsX6_leastHeight) := goodIn_app (goodIn_of _ (by decide +kernel)) ggL_law_X6_leastHeight
set_option maxRecDepth 20000 in
theorem ggL_law_X7_leastHeight : GoodIn wsL_law wsX7_leastHeight := goodIn_r _ [620, 128, 126, 537, 538, 539, 5, 540, 541, 542, 543, 544, 125, 129, 545, 546, 547, 548, 250, 251, 252, 224, 225, 226, 417, 418, 419, 549, 550, 551, 552, 643, 644, 645, 646, 647, 648, 649, 650, 651, 652, 653, 654, 655, 656] (by decide +kernel) (by decide +kernel)
set_option maxRecDepth 20000 in
theorem gL_law_X7_leastHeight : GoodIn wsL_law (wsV RL 122 RX7 yX7_leastHeight wsX7_leastHeight) := goodIn_app (goodIn_of _ (by decide +kernel)) ggL_law_X7_leastHeight
set_option maxRecDepth 20000 in
theorem ggL_law_X6_undo : GoodIn wsL_law wsX6_undo := goodIn_r _ [624, 23, 19, 625, 626, 627, 22, 628, 88, 87, 86, 193, 194, 195, 18, 196, 79, 80, 74, 197, 198, 199, 200, 75, 76, 77, 78, 151, 152, 153, 2, 154, 27, 38, 39, 155, 156, 157, 26, 158, 94, 95, 96, 98, 99, 159, 160, 161, 162, 163, 164, 165, 166, 97, 167, 168, 169, 633, 634, 635, 636, 637, 638, 639, 640, 641, 642, 667, 668, 669, 660, 661, 662, 663, 664, 665, 666, 670, 671, 672, 673, 674, 675] (by decide +kernel) (by decide +kernel)
set_option maxRecDepth 20000 in
theorem gL_law_X6_undo : GoodIn wsL_law (wsV RL 123 RX6 yX6_undo wsX6_undo) := goodIn_app (goodIn_of _ (by decide +kernel)) ggL_law_X6_undo
set_option maxRecDepth 20000 in
theorem ggL_law_X7_undo : GoodIn wsL_law wsX7_undo := goodIn_r _ [632, 174, 126, 127, 643, 644, 645, 646, 647, 648, 649, 650, 651, 652, 653, 654, 655, 656] (by decide +kernel) (by decide +kernel)
set_option maxRecDepth 20000 in
theorem gL_law_X7_undo : GoodIn wsL_law (wsV RL 126 RX7 yX7_undo wsX7_undo) := goodIn_app (goodIn_of _ (by decide +kernel)) ggL_law_X7_undo
