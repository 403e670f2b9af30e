set_option maxRecDepth 20000 in
theorem ggL_law_X6_init : GoodIn wsL_law wsX6_init := goodIn_r _ [9, 10, 11, 12, 13, 14, 15, 16, 17, 18, 19, 20, 21, 22, 23, 24, 25, 26, 27, 28, 29, 30, 31, 32, 33, 34, 35, 36, 37, 38, 39, 40, 41, 42, 43, 44, 45, 46, 47, 48, 49, 50, 51, 52, 53, 54, 55, 56, 57, 58, 59, 60, 61, 667, 668, 669, 654, 655, 656, 657, 670, 671, 672, 673, 674, 675, 676, 677, 678, 679, 680, 681, 682, 683, 684, 685, 686] (by decide +kernel) (by decide +kernel)
set_option maxRecDepth 20000 in
theorem gL_law_X6_init : GoodIn wsL_law (wsX6_init) := ggL_law_X6_init
set_option maxRecDepth 20000 in
theorem ggL_law_X7_init : GoodIn wsL_law wsX7_init := goodIn_r _ [64, 65, 11, 12, 46, 66, 67, 44, 68, 69, 70, 71, 72, 73, 658, 659, 660, 661, 662, 663, 664, 665, 666] (by decide +kernel) (by decide +kernel)
set_option maxRecDepth 20000 in
theorem gL_law_X7_init : GoodIn wsL_law (wsX7_init) := ggL_law_X7_init
set_option maxRecDepth 20000 in
theorem ggL_law_X6_once : GoodIn wsL_law wsX6_once := goodIn_r _ [77, 78, 28, 79, 16, 80, 81, 82, 2, 83, 84, 85, 86, 87, 88, 27, 89, 90, 91, 92, 93, 94, 60, 95, 96, 97, 98, 15, 99, 100, 33, 32, 26, 101, 102, 103, 104, 105, 56, 57, 58, 11, 12, 59, 46, 61, 106, 107, 108, 109, 110, 111, 112, 113, 114, 115, 116, 117, 118, 119, 120, 121, 122, 123, 124, 125, 126, 127, 128, 129, 130, 131, 132, 133, 134, 135, 136, 137, 138, 654, 655, 656, 657, 675, 676, 677, 678, 679, 680, 681, 682, 667, 668, 669] (by decide +kernel) (by decide +kernel)
set_option maxRecDepth 20000 in
theorem gL_law_X6_once : GoodIn wsL_law (wsV RL 15 RX6 yX6_once wsX6_once) := goodIn_app (goodIn_of _ (by decide +kernel)) ggL_law_X6_once
set_option maxRecDepth 20000 in
theorem ggL_law_X7_once : GoodIn wsL_law wsX7_once := goodIn_r _ [142, 143, 144, 145, 146, 147, 5, 148, 66, 149, 150, 151, 152, 153, 154, 155, 156, 157, 158, 159, 160, 161, 162, 163, 164, 165, 166, 73, 67, 167, 168, 169, 170, 171, 172, 173, 174, 175, 176, 177, 178, 658, 659, 660, 661, 662, 663, 664, 665, 666] (by decide +kernel) (by decide +kernel)
set_option maxRecDepth 20000 in
theorem gL_law_X7_once : GoodIn wsL_law (wsV RL 19 RX7 yX7_once wsX7_once) := goodIn_app (goodIn_of _ (by decide +kernel)) ggL_law_X7_once
set_option maxRecDepth 20000 in
theorem ggL_law_X6_often : GoodIn wsL_law wsX6_often := goodIn_r _ [182, 183, 184, 185, 2, 186, 187, 78, 28, 79, 16, 188, 80, 81, 82, 83, 84, 85, 189, 190, 191, 86, 87, 88, 27, 89, 90, 91, 92, 93, 94, 60, 95, 96, 97, 98, 15, 99, 100, 33, 32, 26, 101, 102, 103, 104, 105, 56, 57, 58, 11, 12, 59, 46, 61, 106, 107, 108, 109, 110, 111, 112, 113, 114, 115, 116, 117, 118, 119, 120, 121, 122, 123, 124, 125, 126, 127, 128, 129, 130, 131, 132, 133, 134, 135, 136, 137, 138, 654, 655, 656, 657, 675, 676, 677, 678, 679, 680, 681, 682, 667, 668, 669] (by decide +kernel) (by decide +kernel)
set_option maxRecDepth 20000 in
theorem gL_law_X6_often : GoodIn wsL_law (wsV RL 20 RX6 yX6_often wsX6_often) := goodIn_app (goodIn_of _ (by decide +kernel)) ggL_law_X6_often
set_option maxRecDepth 20000 in
theorem ggL_law_X7_often : GoodIn wsL_law wsX7_often := goodIn_r _ [195, 196, 197, 198, 5, 199, 149, 200, 143, 144, 145, 146, 147, 148, 66, 201, 202, 203, 150, 151, 152, 153, 154, 155, 156, 157, 158, 159, 160, 161, 162, 163, 164, 165, 166, 73, 67, 167, 168, 169, 170, 171, 172, 173, 174, 175, 176, 177, 178, 658, 659, 660, 661, 662, 663, 664, 665, 666] (by decide +kernel) (by decide +kernel)
set_option maxRecDepth 20000 in
theorem gL_law_X7_often : GoodIn wsL_law (wsV RL 24 RX7 yX7_often wsX7_often) := goodIn_app (goodIn_of _ (by decide +kernel)) ggL_law_X7_often
set_option maxRecDepth 20000 in
theorem ggL_law_X6_loose : GoodIn wsL_law wsX6_loose := goodIn_r _ [207, 78, 28, 79, 16, 188, 80, 81, 82, 2, 83, 84, 85, 86, 87, 88, 27, 89, 90, 91, 92, 93, 94, 60, 95, 96, 97, 98, 15, 99, 100, 33, 32, 26, 101, 102, 103, 104, 105, 56, 57, 58, 11, 12, 59, 46, 61, 106, 107, 108, 109, 110, 111, 112, 113, 114, 115, 116, 117, 118, 119, 120, 121, 122, 123, 124, 125, 126, 127, 128, 129, 130, 131, 132, 133, 134, 135, 136, 137, 138, 654, 655, 656, 657, 675, 676, 677, 678, 679, 680, 681, 682, 667, 668, 669] (by decide +kernel) (by decide +kernel)
set_option maxRecDepth 20000 in
theorem gL_law_X6_loose : GoodIn wsL_law (wsV RL 25 RX6 yX6_loose wsX6_loose) := goodIn_app (goodIn_of _ (by decide +kernel)) ggL_law_X6_loose
set_option maxRecDepth 20000 in
theorem ggL_law_X7_loose : GoodIn wsL_law wsX7_loose := goodIn_r _ [211, 143, 144, 145, 146, 147, 5, 148, 66, 149, 201, 202, 203, 150, 151, 152, 153, 154, 155, 156, 157, 158, 159, 160, 161, 162, 163, 164, 165, 166, 73, 67, 167, 168, 169, 170, 171, 172, 173, 174, 175, 176, 177, 178, 658, 659, 660, 661, 662, 663, 664, 665, 666] (by decide +kernel) (by decide +kernel)
set_option maxRecDepth 20000 in
theorem gL_law_X7_loose : GoodIn wsL_law (wsV RL 29 RX7 yX7_loose wsX7_loose) := goodIn_app (goodIn_of _ (by decide +kernel)) ggL_law_X7_loose
set_option maxRecDepth 20000 in
theorem ggL_law_X6_chained : GoodIn wsL_law wsX6_chained := goodIn_r _ [215, 28, 85, 78, 79, 16, 188, 216, 217, 218, 27, 219, 94, 60, 95, 189, 190, 2, 191, 86, 87, 88, 89, 90, 91, 92, 93, 96, 97, 98, 15, 99, 100, 33, 32, 26, 101, 102, 103, 104, 105, 56, 57, 58, 11, 12, 59, 46, 61, 106, 107, 108, 109, 110, 111, 112, 113, 114, 115, 116, 117, 118, 119, 120, 121, 122, 123, 124, 125, 126, 127, 128, 129, 130, 654, 655, 656, 657, 675, 676, 677, 678, 679, 680, 681, 682, 667, 668, 669] (by decide +kernel) (by decide +kernel)
set_option maxRecDepth 20000 in
theorem gL_law_X6_chained : GoodIn wsL_law (wsV RL 30 RX6 yX6_chained wsX6_chained) := goodIn_app (goodIn_of _ (by decide +kernel)) ggL_law_X6_chained
set_option maxRecDepth 20000 in
theorem ggL_law_X7_chained : GoodIn wsL_law wsX7_chained := goodIn_r _ [223, 149, 143, 144, 224, 225, 226, 5, 227, 228, 201, 202, 203, 154, 155, 156, 157, 66, 150, 151, 152, 153, 158, 159, 160, 161, 162, 163, 164, 165, 166, 73, 67, 167, 168, 169, 170, 171, 172, 173, 174, 658, 659, 660, 661, 662, 663, 664, 665, 666] (by decide +kernel) (by decide +kernel)
set_option maxRecDepth 20000 in
theorem gL_law_X7_chained : GoodIn wsL_law (wsV RL 34 RX7 yX7_chained wsX7_chained) := goodIn_app (goodIn_of _ (by decide +kernel)) ggL_law_X7_chained
set_option maxRecDepth 20000 in
theorem ggL_law_X6_resting : GoodIn wsL_law wsX6_resting := goodIn_r _ [232, 183, 184, 185, 2, 186, 187, 78, 28, 79, 16, 188, 80, 81, 82, 83, 84, 85, 189, 190, 191, 86, 87, 88, 27, 89, 90, 91, 92, 93, 94, 60, 95, 96, 97, 98, 15, 99, 100, 33, 32, 26, 101, 102, 103, 104, 105, 56, 57, 58, 11, 12, 59, 46, 61, 106, 107, 108, 109, 110, 111, 112, 113, 114, 115, 116, 117, 118, 119, 120, 121, 122, 123, 124, 125, 126, 127, 128, 129, 130, 131, 132, 133, 134, 135, 136, 137, 138, 654, 655, 656, 657, 675, 676, 677, 678, 679, 680, 681, 682, 667, 668, 669] (by decide +kernel) (by decide +kernel)
set_option maxRecDepth 20000 in
theorem gL_law_X6_resting : GoodIn wsL_law (wsV RL 35 RX6 yX6_resting wsX6_resting) := goodIn_app (goodIn_of _ (by decide +kernel)) ggL_law_X6_resting
set_option maxRecDepth 20000 in
theorem ggL_law_X7_resting : GoodIn wsL_law wsX7_resting := goodIn_r _ [236, 196, 197, 198, 5, 199, 149, 200, 143, 144, 145, 146, 147, 148, 66, 201, 202, 203, 150, 151, 152, 153, 154, 155, 156, 157, 158, 159, 160, 161, 162, 163, 164, 165, 166, 73, 67, 167, 168, 169, 170, 171, 172, 173, 174, 175, 176, 177, 178, 658, 659, 660, 661, 662, 663, 664, 665, 666] (by decide +kernel) (by decide +kernel)
set_option maxRecDepth 20000 in
theorem gL_law_X7_resting : GoodIn wsL_law (wsV RL 38 RX7 yX7_resting wsX7_resting) := goodIn_app (goodIn_of _ (by decide +kernel)) ggL_law_X7_resting
set_option maxRecDepth 20000 in
theorem ggL_law_X6_drop : GoodIn wsL_law wsX6_drop := goodIn_r _ [240, 28, 78, 16, 188, 216, 217, 218, 27, 219, 94, 60, 95, 96, 97, 98, 15, 99, 100, 33, 32, 26, 101, 102, 103, 104, 105, 56, 57, 58, 11, 12, 59, 46, 61, 106, 107, 108, 109, 110, 111, 112, 113, 114, 115, 116, 117, 118, 241, 242, 243, 244, 245, 246, 247, 248, 132, 133, 134, 135, 136, 137, 138, 249, 250, 251, 252, 123, 124, 125, 126, 654, 655, 656, 657, 675, 676, 677, 678, 679, 680, 681, 682, 667, 668, 669] (by decide +kernel) (by decide +kernel)
set_option maxRecDepth 20000 in
theorem gL_law_X6_drop : GoodIn wsL_law (wsV RL 39 RX6 yX6_drop wsX6_drop) := goodIn_app (goodIn_of _ (by decide +kernel)) ggL_law_X6_drop
set_option maxRecDepth 20000 in
theorem ggL_law_X7_drop : GoodIn wsL_law wsX7_drop := goodIn_r _ [256, 143, 162, 66, 224, 225, 226, 5, 227, 228, 201, 202, 203, 154, 155, 156, 157, 163, 164, 165, 166, 73, 67, 167, 168, 169, 170, 257, 258, 259, 260, 175, 176, 177, 178, 658, 659, 660, 661, 662, 663, 664, 665, 666] (by decide +kernel) (by decide +kernel)
set_option maxRecDepth 20000 in
theorem gL_law_X7_drop : GoodIn wsL_law (wsV RL 43 RX7 yX7_drop wsX7_drop) := goodIn_app (goodIn_of _ (by decide +kernel)) ggL_law_X7_drop
set_option maxRecDepth 20000 in
theorem ggL_law_X6_shift : GoodIn wsL_law wsX6_shift := goodIn_r _ [264, 28, 265, 85, 78, 188, 266, 267, 16, 268, 246, 104, 247, 216, 217, 218, 27, 219, 94, 60, 95, 80, 81, 82, 2, 83, 84, 96, 97, 98, 15, 99, 100, 33, 32, 26, 101, 102, 103, 105, 56, 57, 58, 11, 12, 59, 46, 61, 106, 107, 108, 109, 110, 111, 112, 113, 114, 115, 116, 117, 118, 131, 132, 133, 134, 135, 136, 137, 138, 269, 128, 129, 130, 654, 655, 656, 657, 675, 676, 677, 678, 679, 680, 681, 682, 667, 668, 669] (by decide +kernel) (by decide +kernel)
set_option maxRecDepth 20000 in
theorem gL_law_X6_shift : GoodIn wsL_law (wsV RL 44 RX6 yX6_shift wsX6_shift) := goodIn_app (goodIn_of _ (by decide +kernel)) ggL_law_X6_shift
set_option maxRecDepth 20000 in
theorem ggL_law_X7_shift : GoodIn wsL_law wsX7_shift := goodIn_r _ [273, 274, 149, 143, 275, 276, 224, 225, 226, 5, 227, 228, 201, 202, 203, 154, 155, 156, 157, 66, 277, 278, 279, 280, 162, 145, 146, 147, 148, 163, 164, 165, 166, 73, 67, 175, 176, 177, 178, 167, 168, 169, 170, 171, 172, 173, 174, 658, 659, 660, 661, 662, 663, 664, 665, 666] (by decide +kernel) (by decide +kernel)
set_option maxRecDepth 20000 in
theorem gL_law_X7_shift : GoodIn wsL_law (wsV RL 48 RX7 yX7_shift wsX7_shift) := goodIn_app (goodIn_of _ (by decide +kernel)) ggL_law_X7_shift
set_option maxRecDepth 20000 in
theorem ggL_law_X6_chain : GoodIn wsL_law wsX6_chain := goodIn_r _ [284, 28, 78, 188, 266, 267, 285, 16, 216, 217, 218, 27, 219, 94, 60, 95, 286, 287, 288, 289, 96, 97, 98, 15, 99, 100, 33, 32, 26, 101, 102, 103, 104, 105, 56, 57, 58, 11, 12, 59, 46, 61, 106, 107, 108, 109, 110, 111, 112, 113, 114, 115, 116, 117, 118, 654, 655, 656, 657, 675, 676, 677, 678, 679, 680, 681, 682, 667, 668, 669] (by decide +kernel) (by decide +kernel)
set_option maxRecDepth 20000 in
theorem gL_law_X6_chain : GoodIn wsL_law (wsV RL 49 RX6 yX6_chain wsX6_chain) := goodIn_app (goodIn_of _ (by decide +kernel)) ggL_law_X6_chain
set_option maxRecDepth 20000 in
theorem ggL_law_X7_chain : GoodIn wsL_law wsX7_chain := goodIn_r _ [293, 143, 275, 294, 224, 225, 226, 5, 227, 228, 201, 202, 203, 154, 155, 156, 157, 66, 257, 258, 259, 260, 162, 295, 296, 297, 298, 163, 164, 165, 166, 73, 67, 167, 168, 169, 170, 658, 659, 660, 661, 662, 663, 664, 665, 666] (by decide +kernel) (by decide +kernel)
set_option maxRecDepth 20000 in
theorem gL_law_X7_chain : GoodIn wsL_law (wsV RL 53 RX7 yX7_chain wsX7_chain) := goodIn_app (goodIn_of _ (by decide +kernel)) ggL_law_X7_chain
set_option maxRecDepth 20000 in
theorem ggL_law_X6_rest : GoodIn wsL_law wsX6_rest := goodIn_r _ [302, 28, 78, 188, 303, 266, 267, 16, 84, 216, 217, 218, 27, 219, 94, 60, 95, 96, 97, 98, 15, 99, 100, 33, 32, 26, 101, 102, 103, 104, 105, 56, 57, 58, 11, 12, 59, 46, 61, 106, 107, 108, 109, 110, 111, 112, 113, 114, 115, 116, 117, 118, 654, 655, 656, 657, 675, 676, 677, 678, 679, 680, 681, 682, 667, 668, 669] (by decide +kernel) (by decide +kernel)
set_option maxRecDepth 20000 in
theorem gL_law_X6_rest : GoodIn wsL_law (wsV RL 54 RX6 yX6_rest wsX6_rest) := goodIn_app (goodIn_of _ (by decide +kernel)) ggL_law_X6_rest
set_option maxRecDepth 20000 in
theorem ggL_law_X7_rest : GoodIn wsL_law wsX7_rest := goodIn_r _ [307, 143, 308, 275, 66, 162, 224, 225, 226, 5, 227, 228, 201, 202, 203, 154, 155, 156, 157, 309, 310, 311, 312, 163, 164, 165, 166, 73, 67, 167, 168, 169, 170, 658, 659, 660, 661, 662, 663, 664, 665, 666] (by decide +kernel) (by decide +kernel)
set_option maxRecDepth 20000 in
theorem gL_law_X7_rest : GoodIn wsL_law (wsV RL 57 RX7 yX7_rest wsX7_rest) := goodIn_app (goodIn_of _ (by decide +kernel)) ggL_law_X7_rest
set_option maxRecDepth 20000 in
theorem ggL_law_X6_wake : GoodIn wsL_law wsX6_wake := goodIn_r _ [316, 28, 78, 188, 266, 267, 16, 84, 216, 217, 218, 27, 219, 94, 60, 95, 96, 97, 98, 15, 99, 100, 33, 32, 26, 101, 102, 103, 104, 105, 56, 57, 58, 11, 12, 59, 46, 61, 106, 107, 108, 109, 110, 111, 112, 113, 114, 115, 116, 117, 118, 131, 132, 133, 134, 135, 136, 137, 138, 269, 128, 129, 130, 654, 655, 656, 657, 675, 676, 677, 678, 679, 680, 681, 682, 667, 668, 669] (by decide +kernel) (by decide +kernel)
set_option maxRecDepth 20000 in
theorem gL_law_X6_wake : GoodIn wsL_law (wsV RL 58 RX6 yX6_wake wsX6_wake) := goodIn_app (goodIn_of _ (by decide +kernel)) ggL_law_X6_wake
set_option maxRecDepth 20000 in
theorem ggL_law_X7_wake : GoodIn wsL_law wsX7_wake := goodIn_r _ [320, 143, 275, 66, 149, 162, 224, 225, 226, 5, 227, 228, 201, 202, 203, 154, 155, 156, 157, 309, 310, 311, 312, 163, 164, 165, 166, 73, 67, 167, 168, 169, 170, 175, 176, 177, 178, 171, 172, 173, 174, 658, 659, 660, 661, 662, 663, 664, 665, 666] (by decide +kernel) (by decide +kernel)
set_option maxRecDepth 20000 in
theorem gL_law_X7_wake : GoodIn wsL_law (wsV RL 61 RX7 yX7_wake wsX7_wake) := goodIn_app (goodIn_of _ (by decide +kernel)) ggL_law_X7_wake
set_option maxRecDepth 20000 in
theorem ggL_law_X6_about : GoodIn wsL_law wsX6_about := goodIn_r _ [324, 28, 78, 188, 216, 217, 218, 27, 219, 94, 60, 95, 654, 655, 656, 657, 675, 676, 677, 678, 679, 680, 681, 682] (by decide +kernel) (by decide +kernel)
set_option maxRecDepth 20000 in
theorem gL_law_X6_about : GoodIn wsL_law (wsV RL 62 RX6 yX6_about wsX6_about) := goodIn_app (goodIn_of _ (by decide +kernel)) ggL_law_X6_about
set_option maxRecDepth 20000 in
theorem ggL_law_X7_about : GoodIn wsL_law wsX7_about := goodIn_r _ [328, 329, 143, 224, 225, 226, 5, 227, 228, 201, 202, 203, 154, 155, 156, 157, 66, 658, 659, 660, 661, 662, 663, 664, 665, 666] (by decide +kernel) (by decide +kernel)
set_option maxRecDepth 20000 in
theorem gL_law_X7_about : GoodIn wsL_law (wsV RL 65 RX7 yX7_about wsX7_about) := goodIn_app (goodIn_of _ (by decide +kernel)) ggL_law_X7_about
set_option maxRecDepth 20000 in
theorem ggL_law_X6_isOf : GoodIn wsL_law wsX6_isOf := goodIn_r _ [333, 28, 78, 188, 303, 216, 217, 218, 27, 219, 94, 60, 95, 654, 655, 656, 657, 675, 676, 677, 678, 679, 680, 681, 682] (by decide +kernel) (by decide +kernel)
set_option maxRecDepth 20000 in
theorem gL_law_X6_isOf : GoodIn wsL_law (wsV RL 66 RX6 yX6_isOf wsX6_isOf) := goodIn_app (goodIn_of _ (by decide +kernel)) ggL_law_X6_isOf
set_option maxRecDepth 20000 in
theorem ggL_law_X7_isOf : GoodIn wsL_law wsX7_isOf := goodIn_r _ [337, 308, 143, 224, 225, 226, 5, 227, 228, 201, 202, 203, 154, 155, 156, 157, 66, 658, 659, 660, 661, 662, 663, 664, 665, 666] (by decide +kernel) (by decide +kernel)
set_option maxRecDepth 20000 in
theorem gL_law_X7_isOf : GoodIn wsL_law (wsV RL 69 RX7 yX7_isOf wsX7_isOf) := goodIn_app (goodIn_of _ (by decide +kernel)) ggL_law_X7_isOf
set_option maxRecDepth 20000 in
theorem ggL_law_X6_go : GoodIn wsL_law wsX6_go := goodIn_r _ [341, 28, 84, 342, 78, 16, 20, 96, 97, 98, 15, 99, 100, 33, 32, 26, 27, 101, 102, 103, 104, 105, 56, 57, 58, 11, 12, 59, 46, 60, 61, 106, 107, 108, 109, 110, 111, 112, 113, 94, 114, 115, 116, 117, 118, 343, 344, 345, 19, 346, 347, 348, 349, 350, 351, 352, 40, 353, 354, 355, 356, 357, 358, 135, 95, 359, 360, 361, 362, 363, 364, 365, 366, 367, 368, 369, 370, 371, 372, 373, 374, 375, 376, 377, 378, 379, 380, 381, 382, 383, 384, 385, 386, 387, 388, 389, 390, 391, 392, 393, 394, 39, 395, 396, 45, 47, 48, 397, 398, 399, 400, 401, 402, 403, 404, 405, 406, 407, 408, 409, 410, 248, 132, 133, 134, 136, 137, 138, 411, 412, 413, 414, 415, 416, 417, 418, 419, 420, 421, 250, 251, 252, 123, 124, 125, 126, 654, 655, 656, 657, 675, 676, 677, 678, 679, 680, 681, 682, 667, 668, 669, 670, 683, 684, 685, 686] (by decide +kernel) (by decide +kernel)
set_option maxRecDepth 20000 in
theorem gL_law_X6_go : GoodIn wsL_law (wsV RL 70 RX6 yX6_go wsX6_go) := goodIn_app (goodIn_of _ (by decide +kernel)) ggL_law_X6_go
set_option maxRecDepth 20000 in
theorem ggL_law_X7_go : GoodIn wsL_law wsX7_go := goodIn_r _ [425, 66, 426, 143, 427, 428, 201, 202, 5, 203, 163, 164, 165, 166, 73, 67, 429, 430, 431, 432, 149, 277, 278, 279, 280, 162, 224, 225, 226, 227, 228, 154, 155, 156, 157, 433, 434, 435, 436, 437, 438, 439, 440, 68, 441, 442, 443, 444, 445, 446, 447, 448, 449, 450, 167, 168, 169, 170, 451, 452, 453, 454, 455, 456, 457, 458, 459, 460, 257, 258, 259, 260, 175, 176, 177, 178, 461, 462, 463, 464, 308, 658, 659, 660, 661, 662, 663, 664, 665, 666] (by decide +kernel) (by decide +kernel)
set_option maxRecDepth 20000 in
theorem gL_law_X7_go : GoodIn wsL_law (wsV RL 74 RX7 yX7_go wsX7_go) := goodIn_app (goodIn_of _ (by decide +kernel)) ggL_law_X7_go
set_option maxRecDepth 20000 in
theorem ggL_law_X6_went : GoodIn wsL_law wsX6_went := goodIn_r _ [468, 78, 28, 469, 470, 266, 654, 655, 656, 657, 675, 676, 677, 678, 679, 680, 681, 682] (by decide +kernel) (by decide +kernel)
set_option maxRecDepth 20000 in
theorem gL_law_X6_went : GoodIn wsL_law (wsV RL 75 RX6 yX6_went wsX6_went) := goodIn_app (goodIn_of _ (by decide +kernel)) ggL_law_X6_went
set_option maxRecDepth 20000 in
theorem ggL_law_X7_went : GoodIn wsL_law wsX7_went := goodIn_r _ [474, 276, 143, 66, 162, 201, 202, 5, 203, 658, 659, 660, 661, 662, 663, 664, 665, 666] (by decide +kernel) (by decide +kernel)
set_option maxRecDepth 20000 in
theorem gL_law_X7_went : GoodIn wsL_law (wsV RL 78 RX7 yX7_went wsX7_went) := goodIn_app (goodIn_of _ (by decide +kernel)) ggL_law_X7_went
set_option maxRecDepth 20000 in
theorem ggL_law_X6_next : GoodIn wsL_law wsX6_next := goodIn_r _ [478, 28, 479, 356, 357, 27, 358, 135, 94, 60, 95, 654, 655, 656, 657, 675, 676, 677, 678, 679, 680, 681, 682] (by decide +kernel) (by decide +kernel)
set_option maxRecDepth 20000 in
theorem gL_law_X6_next : GoodIn wsL_law (wsV RL 79 RX6 yX6_next wsX6_next) := goodIn_app (goodIn_of _ (by decide +kernel)) ggL_law_X6_next
set_option maxRecDepth 20000 in
theorem ggL_law_X7_next : GoodIn wsL_law wsX7_next := goodIn_r _ [483, 149, 162, 429, 430, 431, 5, 432, 277, 278, 279, 280, 224, 225, 226, 227, 228, 201, 202, 203, 154, 155, 156, 157, 66, 658, 659, 660, 661, 662, 663, 664, 665, 666] (by decide +kernel) (by decide +kernel)
set_option maxRecDepth 20000 in
theorem gL_law_X7_next : GoodIn wsL_law (wsV RL 83 RX7 yX7_next wsX7_next) := goodIn_app (goodIn_of _ (by decide +kernel)) ggL_law_X7_next
set_option maxRecDepth 20000 in
theorem ggL_law_X6_fewest : GoodIn wsL_law wsX6_fewest := goodIn_r _ [487, 24, 28, 488, 489, 490, 23, 491, 53, 492, 493, 494, 495, 496, 246, 104, 247, 497, 54, 498, 499, 500, 501, 502, 503, 504, 505, 506, 507, 508, 55, 509, 510, 511, 512, 513, 393, 394, 39, 395, 396, 45, 47, 48, 397, 398, 399, 400, 514, 515, 516, 517, 654, 655, 656, 657, 671, 672, 673, 674, 683, 684, 685, 686, 675, 676, 677, 678, 679, 680, 681, 682] (by decide +kernel) (by decide +kernel)
set_option maxRecDepth 20000 in
theorem gL_law_X6_fewest : GoodIn wsL_law (wsV RL 84 RX6 yX6_fewest wsX6_fewest) := goodIn_app (goodIn_of _ (by decide +kernel)) ggL_law_X6_fewest
set_option maxRecDepth 20000 in
theorem ggL_law_X7_fewest : GoodIn wsL_law wsX7_fewest := goodIn_r _ [521, 522, 523, 524, 5, 525, 72, 276, 526, 69, 162, 70, 527, 528, 529, 530, 277, 278, 279, 280, 224, 225, 226, 227, 228, 201, 202, 203, 154, 155, 156, 157, 66, 531, 532, 533, 534, 535, 536, 537, 538, 658, 659, 660, 661, 662, 663, 664, 665, 666] (by decide +kernel) (by decide +kernel)
set_option maxRecDepth 20000 in
theorem gL_law_X7_fewest : GoodIn wsL_law (wsV RL 87 RX7 yX7_fewest wsX7_fewest) := goodIn_app (goodIn_of _ (by decide +kernel)) ggL_law_X7_fewest
set_option maxRecDepth 20000 in
theorem ggL_law_X6_settle : GoodIn wsL_law wsX6_settle := goodIn_r _ [542, 16, 28, 24, 96, 97, 98, 15, 99, 100, 33, 32, 26, 27, 101, 102, 103, 104, 105, 56, 57, 58, 11, 12, 59, 46, 60, 61, 106, 107, 108, 109, 110, 111, 112, 113, 94, 114, 115, 116, 117, 118, 488, 489, 490, 23, 491, 53, 492, 493, 494, 495, 496, 246, 247, 497, 54, 498, 499, 500, 501, 502, 503, 504, 505, 506, 507, 508, 55, 509, 510, 511, 512, 513, 393, 394, 39, 395, 396, 45, 47, 48, 397, 398, 399, 400, 514, 515, 516, 517, 543, 544, 545, 546, 547, 132, 133, 134, 135, 136, 137, 138, 654, 655, 656, 657, 667, 668, 669, 675, 676, 677, 678, 679, 680, 681, 682, 671, 672, 673, 674, 683, 684, 685, 686] (by decide +kernel) (by decide +kernel)
set_option maxRecDepth 20000 in
theorem gL_law_X6_settle : GoodIn wsL_law (wsV RL 88 RX6 yX6_settle wsX6_settle) := goodIn_app (goodIn_of _ (by decide +kernel)) ggL_law_X6_settle
set_option maxRecDepth 20000 in
theorem ggL_law_X7_settle : GoodIn wsL_law wsX7_settle := goodIn_r _ [551, 526, 69, 70, 163, 164, 165, 5, 166, 73, 67, 66, 522, 523, 524, 525, 72, 276, 162, 527, 528, 529, 530, 277, 278, 279, 280, 224, 225, 226, 227, 228, 201, 202, 203, 154, 155, 156, 157, 531, 532, 533, 534, 535, 536, 537, 538, 175, 176, 177, 178, 167, 168, 169, 170, 658, 659, 660, 661, 662, 663, 664, 665, 666] (by decide +kernel) (by decide +kernel)
set_option maxRecDepth 20000 in
theorem gL_law_X7_settle : GoodIn wsL_law (wsV RL 91 RX7 yX7_settle wsX7_settle) := goodIn_app (goodIn_of _ (by decide +kernel)) ggL_law_X7_settle
set_option maxRecDepth 20000 in
theorem ggL_law_X6_lies : GoodIn wsL_law wsX6_lies := goodIn_r _ [555, 28, 78, 188, 266, 84, 216, 217, 218, 27, 219, 94, 60, 95, 556, 372, 369, 373, 557, 558, 559, 560, 654, 655, 656, 657, 675, 676, 677, 678, 679, 680, 681, 682] (by decide +kernel) (by decide +kernel)
set_option maxRecDepth 20000 in
theorem gL_law_X6_lies : GoodIn wsL_law (wsV RL 92 RX6 yX6_lies wsX6_lies) := goodIn_app (goodIn_of _ (by decide +kernel)) ggL_law_X6_lies
set_option maxRecDepth 20000 in
theorem ggL_law_X7_lies : GoodIn wsL_law wsX7_lies := goodIn_r _ [564, 276, 143, 162, 224, 225, 226, 5, 227, 228, 201, 202, 203, 154, 155, 156, 157, 66, 277, 278, 279, 280, 565, 566, 567, 568, 448, 449, 450, 569, 570, 571, 572, 658, 659, 660, 661, 662, 663, 664, 665, 666] (by decide +kernel) (by decide +kernel)
set_option maxRecDepth 20000 in
theorem gL_law_X7_lies : GoodIn wsL_law (wsV RL 95 RX7 yX7_lies wsX7_lies) := goodIn_app (goodIn_of _ (by decide +kernel)) ggL_law_X7_lies
set_option maxRecDepth 20000 in
theorem ggL_law_X6_bits : GoodIn wsL_law wsX6_bits := goodIn_r _ [576, 78, 28, 577, 188, 266, 84, 556, 372, 369, 373, 557, 558, 559, 560, 654, 655, 656, 657, 675, 676, 677, 678, 679, 680, 681, 682] (by decide +kernel) (by decide +kernel)
set_option maxRecDepth 20000 in
theorem gL_law_X6_bits : GoodIn wsL_law (wsV RL 96 RX6 yX6_bits wsX6_bits) := goodIn_app (goodIn_of _ (by decide +kernel)) ggL_law_X6_bits
set_option maxRecDepth 20000 in
theorem ggL_law_X7_bits : GoodIn wsL_law wsX7_bits := goodIn_r _ [581, 308, 143, 201, 202, 5, 203, 277, 278, 279, 280, 162, 224, 225, 226, 227, 228, 154, 155, 156, 157, 66, 565, 566, 567, 568, 448, 449, 450, 569, 570, 571, 572, 658, 659, 660, 661, 662, 663, 664, 665, 666] (by decide +kernel) (by decide +kernel)
set_option maxRecDepth 20000 in
theorem gL_law_X7_bits : GoodIn wsL_law (wsV RL 99 RX7 yX7_bits wsX7_bits) := goodIn_app (goodIn_of _ (by decide +kernel)) ggL_law_X7_bits
set_option maxRecDepth 20000 in
theorem ggL_law_X6_many : GoodIn wsL_law wsX6_many := goodIn_r _ [585, 78, 28, 577, 586, 587, 369, 588, 589, 590, 591, 27, 592, 60, 95, 110, 593, 372, 373, 594, 558, 559, 560, 654, 655, 656, 657, 675, 676, 677, 678, 679, 680, 681, 682] (by decide +kernel) (by decide +kernel)
set_option maxRecDepth 20000 in
theorem gL_law_X6_many : GoodIn wsL_law (wsV RL 100 RX6 yX6_many wsX6_many) := goodIn_app (goodIn_of _ (by decide +kernel)) ggL_law_X6_many
set_option maxRecDepth 20000 in
theorem ggL_law_X7_many : GoodIn wsL_law wsX7_many := goodIn_r _ [598, 143, 599, 600, 5, 601, 602, 572, 201, 202, 203, 603, 604, 605, 606, 277, 278, 279, 280, 162, 224, 225, 226, 227, 228, 154, 155, 156, 157, 66, 565, 566, 567, 568, 448, 449, 450, 569, 570, 571, 658, 659, 660, 661, 662, 663, 664, 665, 666] (by decide +kernel) (by decide +kernel)
set_option maxRecDepth 20000 in
theorem gL_law_X7_many : GoodIn wsL_law (wsV RL 103 RX7 yX7_many wsX7_many) := goodIn_app (goodIn_of _ (by decide +kernel)) ggL_law_X7_many
set_option maxRecDepth 20000 in
theorem ggL_law_X6_in : GoodIn wsL_law wsX6_in := goodIn_r _ [610, 78, 28, 577, 266, 586, 587, 369, 588, 589, 590, 591, 27, 592, 60, 95, 110, 593, 372, 373, 594, 558, 559, 560, 654, 655, 656, 657, 675, 676, 677, 678, 679, 680, 681, 682] (by decide +kernel) (by decide +kernel)
set_option maxRecDepth 20000 in
theorem gL_law_X6_in : GoodIn wsL_law (wsV RL 104 RX6 yX6_in wsX6_in) := goodIn_app (goodIn_of _ (by decide +kernel)) ggL_law_X6_in
set_option maxRecDepth 20000 in
theorem ggL_law_X7_in : GoodIn wsL_law wsX7_in := goodIn_r _ [614, 143, 162, 599, 600, 5, 601, 602, 572, 201, 202, 203, 603, 604, 605, 606, 277, 278, 279, 280, 224, 225, 226, 227, 228, 154, 155, 156, 157, 66, 565, 566, 567, 568, 448, 449, 450, 569, 570, 571, 658, 659, 660, 661, 662, 663, 664, 665, 666] (by decide +kernel) (by decide +kernel)
set_option maxRecDepth 20000 in
theorem gL_law_X7_in : GoodIn wsL_law (wsV RL 108 RX7 yX7_in wsX7_in) := goodIn_app (goodIn_of _ (by decide +kernel)) ggL_law_X7_in
set_option maxRecDepth 20000 in
theorem ggL_law_X6_now : GoodIn wsL_law wsX6_now := goodIn_r _ [618, 28, 84, 654, 655, 656, 657, 675, 676, 677, 678, 679, 680, 681, 682] (by decide +kernel) (by decide +kernel)
set_option maxRecDepth 20000 in
theorem gL_law_X6_now : GoodIn wsL_law (wsV RL 109 RX6 yX6_now wsX6_now) := goodIn_app (goodIn_of _ (by decide +kernel)) ggL_law_X6_now
set_option maxRecDepth 20000 in
theorem ggL_law_X7_now : GoodIn wsL_law wsX7_now := goodIn_r _ [622, 66, 658, 659, 660, 661, 662, 663, 664, 665, 666] (by decide +kernel) (by decide +kernel)
set_option maxRecDepth 20000 in
theorem gL_law_X7_now : GoodIn wsL_law (wsV RL 112 RX7 yX7_now wsX7_now) := goodIn_app (goodIn_of _ (by decide +kernel)) ggL_law_X7_now
set_option maxRecDepth 20000 in
theorem ggL_law_X6_undo : GoodIn wsL_law wsX6_undo := goodIn_r _ [626, 16, 627, 267, 28, 628, 629, 630, 15, 631, 33, 100, 101, 654, 655, 656, 657, 667, 668, 669] (by decide +kernel) (by decide +kernel)
set_option maxRecDepth 20000 in
theorem gL_law_X6_undo : GoodIn wsL_law (wsV RL 113 RX6 yX6_undo wsX6_undo) := goodIn_app (goodIn_of _ (by decide +kernel)) ggL_law_X6_undo
set_option maxRecDepth 20000 in
theorem ggL_law_X7_undo : GoodIn wsL_law wsX7_undo := goodIn_r _ [635, 73, 275, 66, 67, 658, 659, 660, 661, 662, 663, 664, 665, 666] (by decide +kernel) (by decide +kernel)
set_option maxRecDepth 20000 in
theorem gL_law_X7_undo : GoodIn wsL_law (wsV RL 116 RX7 yX7_undo wsX7_undo) := goodIn_app (goodIn_of _ (by decide +kernel)) ggL_law_X7_undo
set_option maxRecDepth 20000 in
theorem ggL_law_X6_count : GoodIn wsL_law wsX6_count := goodIn_r _ [639, 28, 469, 640, 641, 16, 627, 78, 642, 643, 644, 27, 645, 94, 60, 95, 654, 655, 656, 657, 675, 676, 677, 678, 679, 680, 681, 682, 667, 668, 669] (by decide +kernel) (by decide +kernel)
set_option maxRecDepth 20000 in
theorem gL_law_X6_count : GoodIn wsL_law (wsV RL 117 RX6 yX6_count wsX6_count) := goodIn_app (goodIn_of _ (by decide +kernel)) ggL_law_X6_count
set_option maxRecDepth 20000 in
theorem ggL_law_X7_count : GoodIn wsL_law wsX7_count := goodIn_r _ [649, 66, 73, 143, 650, 651, 652, 5, 653, 224, 225, 226, 227, 228, 201, 202, 203, 154, 155, 156, 157, 277, 278, 279, 280, 162, 257, 258, 259, 260, 309, 310, 311, 312, 658, 659, 660, 661, 662, 663, 664, 665, 666] (by decide +kernel) (by decide +kernel)
set_option maxRecDepth 20000 in
theorem gL_law_X7_count : GoodIn wsL_law (wsV RL 120 RX7 yX7_count wsX7_count) := goodIn_app (goodIn_of _ (by decide +kernel)) ggL_law_X7_count
theorem dL_law_0 : decode cL_law 0 = .ok (.new 7, 3) := by decide +kernel
theorem dL_law_3 : decode cL_law 3 = .ok (.dup, 1) := by decide +kernel
theorem dL_law_4 : decode cL_law 4 = .ok (.invokespecial 9, 3) := by decide +kernel
theorem dL_law_7 : decode cL_law 7 = .ok (.astore_n 1, 1) := by decide +kernel
theorem dL_law_8 : decode cL_law 8 = .ok (.new 10, 3) := by decide +kernel
theorem dL_law_11 : decode cL_law 11 = .ok (.dup, 1) := by decide +kernel
theorem dL_law_12 : decode cL_law 12 = .ok (.invokespecial 12, 3) := by decide +kernel
theorem dL_law_15 : decode cL_law 15 = .ok (.astore_n 2, 1) := by decide +kernel
theorem dL_law_16 : decode cL_law 16 = .ok (.iconst 0, 1) := by decide +kernel
theorem dL_law_17 : decode cL_law 17 = .ok (.istore_n 3, 1) := by decide +kernel
theorem dL_law_18 : decode cL_law 18 = .ok (.iload_n 3, 1) := by decide +kernel
theorem dL_law_19 : decode cL_law 19 = .ok (.aload_n 0, 1) := by decide +kernel
theorem dL_law_20 : decode cL_law 20 = .ok (.arraylength, 1) := by decide +kernel
theorem dL_law_21 : decode cL_law 21 = .ok (.bipush 7, 2) := by decide +kernel
theorem dL_law_23 : decode cL_law 23 = .ok (.isub, 1) := by decide +kernel
theorem dL_law_24 : decode cL_law 24 = .ok (.if_icmp .gt 1198, 3) := by decide +kernel
theorem dL_law_27 : decode cL_law 27 = .ok (.aload_n 0, 1) := by decide +kernel
theorem dL_law_28 : decode cL_law 28 = .ok (.iload_n 3, 1) := by decide +kernel
theorem dL_law_29 : decode cL_law 29 = .ok (.iaload, 1) := by decide +kernel
theorem dL_law_30 : decode cL_law 30 = .ok (.bipush 31, 2) := by decide +kernel
theorem dL_law_32 : decode cL_law 32 = .ok (.iand, 1) := by decide +kernel
theorem dL_law_33 : decode cL_law 33 = .ok (.tableswitch 1183 0 23 #[111, 175, 291, 395, 511, 627, 651, 715, 749, 773, 797, 831, 865, 919, 953, 967, 981, 995, 1029, 1053, 1087, 1131, 1145, 1159], 111) := by decide +kernel
theorem dL_law_144 : decode cL_law 144 = .ok (.aload_n 1, 1) := by decide +kernel
theorem dL_law_145 : decode cL_law 145 = .ok (.aload_n 0, 1) := by decide +kernel
theorem dL_law_146 : decode cL_law 146 = .ok (.iload_n 3, 1) := by decide +kernel
theorem dL_law_147 : decode cL_law 147 = .ok (.iconst 1, 1) := by decide +kernel
theorem dL_law_148 : decode cL_law 148 = .ok (.iadd, 1) := by decide +kernel
theorem dL_law_149 : decode cL_law 149 = .ok (.iaload, 1) := by decide +kernel
theorem dL_law_150 : decode cL_law 150 = .ok (.i2l, 1) := by decide +kernel
theorem dL_law_151 : decode cL_law 151 = .ok (.bipush 32, 2) := by decide +kernel
theorem dL_law_153 : decode cL_law 153 = .ok (.lshl, 1) := by decide +kernel
theorem dL_law_154 : decode cL_law 154 = .ok (.aload_n 0, 1) := by decide +kernel
theorem dL_law_155 : decode cL_law 155 = .ok (.iload_n 3, 1) := by decide +kernel
theorem dL_law_156 : decode cL_law 156 = .ok (.iconst 2, 1) := by decide +kernel
theorem dL_law_157 : decode cL_law 157 = .ok (.iadd, 1) := by decide +kernel
theorem dL_law_158 : decode cL_law 158 = .ok (.iaload, 1) := by decide +kernel
theorem dL_law_159 : decode cL_law 159 = .ok (.i2l, 1) := by decide +kernel
theorem dL_law_160 : decode cL_law 160 = .ok (.ldc2_w 13, 3) := by decide +kernel
theorem dL_law_163 : decode cL_law 163 = .ok (.land, 1) := by decide +kernel
theorem dL_law_164 : decode cL_law 164 = .ok (.lor, 1) := by decide +kernel
theorem dL_law_165 : decode cL_law 165 = .ok (.aload_n 0, 1) := by decide +kernel
theorem dL_law_166 : decode cL_law 166 = .ok (.iload_n 3, 1) := by decide +kernel
theorem dL_law_167 : decode cL_law 167 = .ok (.iconst 3, 1) := by decide +kernel
theorem dL_law_168 : decode cL_law 168 = .ok (.iadd, 1) := by decide +kernel
theorem dL_law_169 : decode cL_law 169 = .ok (.iaload, 1) := by decide +kernel
theorem dL_law_170 : decode cL_law 170 = .ok (.invokevirtual 15, 3) := by decide +kernel
theorem dL_law_173 : decode cL_law 173 = .ok (.aload_n 2, 1) := by decide +kernel
theorem dL_law_174 : decode cL_law 174 = .ok (.aload_n 0, 1) := by decide +kernel
theorem dL_law_175 : decode cL_law 175 = .ok (.iload_n 3, 1) := by decide +kernel
theorem dL_law_176 : decode cL_law 176 = .ok (.iconst 1, 1) := by decide +kernel
theorem dL_law_177 : decode cL_law 177 = .ok (.iadd, 1) := by decide +kernel
theorem dL_law_178 : decode cL_law 178 = .ok (.iaload, 1) := by decide +kernel
theorem dL_law_179 : decode cL_law 179 = .ok (.i2l, 1) := by decide +kernel
theorem dL_law_180 : decode cL_law 180 = .ok (.bipush 32, 2) := by decide +kernel
theorem dL_law_182 : decode cL_law 182 = .ok (.lshl, 1) := by decide +kernel
theorem dL_law_183 : decode cL_law 183 = .ok (.aload_n 0, 1) := by decide +kernel
theorem dL_law_184 : decode cL_law 184 = .ok (.iload_n 3, 1) := by decide +kernel
theorem dL_law_185 : decode cL_law 185 = .ok (.iconst 2, 1) := by decide +kernel
theorem dL_law_186 : decode cL_law 186 = .ok (.iadd, 1) := by decide +kernel
theorem dL_law_187 : decode cL_law 187 = .ok (.iaload, 1) := by decide +kernel
theorem dL_law_188 : decode cL_law 188 = .ok (.i2l, 1) := by decide +kernel
theorem dL_law_189 : decode cL_law 189 = .ok (.ldc2_w 13, 3) := by decide +kernel
theorem dL_law_192 : decode cL_law 192 = .ok (.land, 1) := by decide +kernel
theorem dL_law_193 : decode cL_law 193 = .ok (.lor, 1) := by decide +kernel
theorem dL_law_194 : decode cL_law 194 = .ok (.aload_n 0, 1) := by decide +kernel
theorem dL_law_195 : decode cL_law 195 = .ok (.iload_n 3, 1) := by decide +kernel
theorem dL_law_196 : decode cL_law 196 = .ok (.iconst 3, 1) := by decide +kernel
theorem dL_law_197 : decode cL_law 197 = .ok (.iadd, 1) := by decide +kernel
theorem dL_law_198 : decode cL_law 198 = .ok (.iaload, 1) := by decide +kernel
theorem dL_law_199 : decode cL_law 199 = .ok (.invokevirtual 19, 3) := by decide +kernel
theorem dL_law_202 : decode cL_law 202 = .ok (.lcmp, 1) := by decide +kernel
theorem dL_law_203 : decode cL_law 203 = .ok (.ifCond .eq 1013, 3) := by decide +kernel
theorem dL_law_206 : decode cL_law 206 = .ok (.iconst 0, 1) := by decide +kernel
theorem dL_law_207 : decode cL_law 207 = .ok (.ireturn, 1) := by decide +kernel
theorem dL_law_208 : decode cL_law 208 = .ok (.aload_n 1, 1) := by decide +kernel
theorem dL_law_209 : decode cL_law 209 = .ok (.aload_n 0, 1) := by decide +kernel
theorem dL_law_210 : decode cL_law 210 = .ok (.iload_n 3, 1) := by decide +kernel
theorem dL_law_211 : decode cL_law 211 = .ok (.iconst 1, 1) := by decide +kernel
theorem dL_law_212 : decode cL_law 212 = .ok (.iadd, 1) := by decide +kernel
theorem dL_law_213 : decode cL_law 213 = .ok (.iaload, 1) := by decide +kernel
theorem dL_law_214 : decode cL_law 214 = .ok (.i2l, 1) := by decide +kernel
theorem dL_law_215 : decode cL_law 215 = .ok (.bipush 32, 2) := by decide +kernel
theorem dL_law_217 : decode cL_law 217 = .ok (.lshl, 1) := by decide +kernel
theorem dL_law_218 : decode cL_law 218 = .ok (.aload_n 0, 1) := by decide +kernel
theorem dL_law_219 : decode cL_law 219 = .ok (.iload_n 3, 1) := by decide +kernel
theorem dL_law_220 : decode cL_law 220 = .ok (.iconst 2, 1) := by decide +kernel
theorem dL_law_221 : decode cL_law 221 = .ok (.iadd, 1) := by decide +kernel
theorem dL_law_222 : decode cL_law 222 = .ok (.iaload, 1) := by decide +kernel
theorem dL_law_223 : decode cL_law 223 = .ok (.i2l, 1) := by decide +kernel
theorem dL_law_224 : decode cL_law 224 = .ok (.ldc2_w 13, 3) := by decide +kernel
theorem dL_law_227 : decode cL_law 227 = .ok (.land, 1) := by decide +kernel
theorem dL_law_228 : decode cL_law 228 = .ok (.lor, 1) := by decide +kernel
theorem dL_law_229 : decode cL_law 229 = .ok (.aload_n 0, 1) := by decide +kernel
theorem dL_law_230 : decode cL_law 230 = .ok (.iload_n 3, 1) := by decide +kernel
theorem dL_law_231 : decode cL_law 231 = .ok (.iconst 3, 1) := by decide +kernel
theorem dL_law_232 : decode cL_law 232 = .ok (.iadd, 1) := by decide +kernel
theorem dL_law_233 : decode cL_law 233 = .ok (.iaload, 1) := by decide +kernel
theorem dL_law_234 : decode cL_law 234 = .ok (.i2l, 1) := by decide +kernel
theorem dL_law_235 : decode cL_law 235 = .ok (.bipush 32, 2) := by decide +kernel
theorem dL_law_237 : decode cL_law 237 = .ok (.lshl, 1) := by decide +kernel
theorem dL_law_238 : decode cL_law 238 = .ok (.aload_n 0, 1) := by decide +kernel
theorem dL_law_239 : decode cL_law 239 = .ok (.iload_n 3, 1) := by decide +kernel
theorem dL_law_240 : decode cL_law 240 = .ok (.iconst 4, 1) := by decide +kernel
theorem dL_law_241 : decode cL_law 241 = .ok (.iadd, 1) := by decide +kernel
theorem dL_law_242 : decode cL_law 242 = .ok (.iaload, 1) := by decide +kernel
theorem dL_law_243 : decode cL_law 243 = .ok (.i2l, 1) := by decide +kernel
theorem dL_law_244 : decode cL_law 244 = .ok (.ldc2_w 13, 3) := by decide +kernel
theorem dL_law_247 : decode cL_law 247 = .ok (.land, 1) := by decide +kernel
theorem dL_law_248 : decode cL_law 248 = .ok (.lor, 1) := by decide +kernel
theorem dL_law_249 : decode cL_law 249 = .ok (.aload_n 0, 1) := by decide +kernel
theorem dL_law_250 : decode cL_law 250 = .ok (.iload_n 3, 1) := by decide +kernel
theorem dL_law_251 : decode cL_law 251 = .ok (.iconst 5, 1) := by decide +kernel
theorem dL_law_252 : decode cL_law 252 = .ok (.iadd, 1) := by decide +kernel
theorem dL_law_253 : decode cL_law 253 = .ok (.iaload, 1) := by decide +kernel
theorem dL_law_254 : decode cL_law 254 = .ok (.aload_n 0, 1) := by decide +kernel
theorem dL_law_255 : decode cL_law 255 = .ok (.iload_n 3, 1) := by decide +kernel
theorem dL_law_256 : decode cL_law 256 = .ok (.bipush 6, 2) := by decide +kernel
theorem dL_law_258 : decode cL_law 258 = .ok (.iadd, 1) := by decide +kernel
theorem dL_law_259 : decode cL_law 259 = .ok (.iaload, 1) := by decide +kernel
theorem dL_law_260 : decode cL_law 260 = .ok (.invokevirtual 20, 3) := by decide +kernel
theorem dL_law_263 : decode cL_law 263 = .ok (.aload_n 2, 1) := by decide +kernel
theorem dL_law_264 : decode cL_law 264 = .ok (.aload_n 0, 1) := by decide +kernel
theorem dL_law_265 : decode cL_law 265 = .ok (.iload_n 3, 1) := by decide +kernel
theorem dL_law_266 : decode cL_law 266 = .ok (.iconst 1, 1) := by decide +kernel
theorem dL_law_267 : decode cL_law 267 = .ok (.iadd, 1) := by decide +kernel
theorem dL_law_268 : decode cL_law 268 = .ok (.iaload, 1) := by decide +kernel
theorem dL_law_269 : decode cL_law 269 = .ok (.i2l, 1) := by decide +kernel
theorem dL_law_270 : decode cL_law 270 = .ok (.bipush 32, 2) := by decide +kernel
theorem dL_law_272 : decode cL_law 272 = .ok (.lshl, 1) := by decide +kernel
theorem dL_law_273 : decode cL_law 273 = .ok (.aload_n 0, 1) := by decide +kernel
theorem dL_law_274 : decode cL_law 274 = .ok (.iload_n 3, 1) := by decide +kernel
theorem dL_law_275 : decode cL_law 275 = .ok (.iconst 2, 1) := by decide +kernel
theorem dL_law_276 : decode cL_law 276 = .ok (.iadd, 1) := by decide +kernel
theorem dL_law_277 : decode cL_law 277 = .ok (.iaload, 1) := by decide +kernel
theorem dL_law_278 : decode cL_law 278 = .ok (.i2l, 1) := by decide +kernel
theorem dL_law_279 : decode cL_law 279 = .ok (.ldc2_w 13, 3) := by decide +kernel
theorem dL_law_282 : decode cL_law 282 = .ok (.land, 1) := by decide +kernel
theorem dL_law_283 : decode cL_law 283 = .ok (.lor, 1) := by decide +kernel
theorem dL_law_284 : decode cL_law 284 = .ok (.aload_n 0, 1) := by decide +kernel
theorem dL_law_285 : decode cL_law 285 = .ok (.iload_n 3, 1) := by decide +kernel
theorem dL_law_286 : decode cL_law 286 = .ok (.iconst 3, 1) := by decide +kernel
theorem dL_law_287 : decode cL_law 287 = .ok (.iadd, 1) := by decide +kernel
theorem dL_law_288 : decode cL_law 288 = .ok (.iaload, 1) := by decide +kernel
theorem dL_law_289 : decode cL_law 289 = .ok (.i2l, 1) := by decide +kernel
theorem dL_law_290 : decode cL_law 290 = .ok (.bipush 32, 2) := by decide +kernel
theorem dL_law_292 : decode cL_law 292 = .ok (.lshl, 1) := by decide +kernel
