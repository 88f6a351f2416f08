set_option maxRecDepth 20000 in
theorem ggL_law_X6_init : GoodIn wsL_law wsX6_init := goodIn_r _ [8, 9, 10, 11, 12, 13, 14, 15, 16, 17, 18, 19, 20, 21, 22, 23, 24, 25, 26, 27, 28, 29, 30, 31, 32, 33, 34, 35, 36, 37, 38, 39, 40, 41, 42, 43, 44, 45, 46, 47, 48, 49, 50, 51, 52, 53, 54, 55, 56, 57, 58, 59, 60, 61, 62, 63, 64, 65, 66, 67, 68, 69, 70, 71, 72, 73, 74, 75, 76, 77, 78, 79, 80, 81, 82, 83, 84, 85, 86, 87, 88, 89, 90, 91, 92, 93, 94, 95, 96, 97, 98, 99, 100, 101, 102, 103, 104, 105, 106, 107, 108, 109, 110, 111, 680, 681, 682, 683, 684, 685, 686, 687, 688, 689, 640, 641, 642, 643, 644, 690, 691, 692, 693, 694, 695, 696, 697, 698, 699, 700, 701, 702, 703, 704, 705, 706, 707, 708, 709, 710, 711, 712, 713, 714, 715, 716, 717, 718, 719, 720, 721] (by decide +kernel) (by decide +kernel)
set_option maxRecDepth 20000 in
theorem gL_law_X6_init : GoodIn wsL_law (wsX6_init) := ggL_law_X6_init
set_option maxRecDepth 20000 in
theorem ggL_law_X7_init : GoodIn wsL_law wsX7_init := goodIn_r _ [114, 115, 10, 11, 116, 37, 117, 118, 119, 120, 121, 122, 123, 124, 125, 126, 127, 128, 129, 130, 131, 132, 133, 85, 134, 135, 136, 137, 138, 139, 140, 141, 142, 143, 144, 645, 646, 647, 648, 649, 650, 651, 652, 653, 654, 655, 656, 657, 658, 659, 660, 661, 662, 663, 664, 665, 666, 667, 668, 669, 670, 671, 672, 673, 674, 675, 676, 677, 678, 679] (by decide +kernel) (by decide +kernel)
set_option maxRecDepth 20000 in
theorem gL_law_X7_init : GoodIn wsL_law (wsX7_init) := ggL_law_X7_init
set_option maxRecDepth 20000 in
theorem ggL_law_X6_classOf : GoodIn wsL_law wsX6_classOf := goodIn_r _ [148, 15, 149, 150, 151, 14, 152, 40, 153, 154, 155, 156, 44, 157, 48, 49, 50, 36, 38, 39, 640, 641, 642, 643, 644, 680, 681, 682, 683, 684, 685, 686, 687, 688, 689] (by decide +kernel) (by decide +kernel)
set_option maxRecDepth 20000 in
theorem gL_law_X6_classOf : GoodIn wsL_law (wsV RL 13 RX6 yX6_classOf wsX6_classOf) := goodIn_app (goodIn_of _ (by decide +kernel)) ggL_law_X6_classOf
set_option maxRecDepth 20000 in
theorem ggL_law_X7_classOf : GoodIn wsL_law wsX7_classOf := goodIn_r _ [161, 123, 116, 117, 118, 162, 163, 5, 164, 165, 166, 167, 168, 119, 645, 646, 647, 648, 649, 650, 651, 652, 653, 654, 655, 656, 657, 658, 659, 660, 661, 662, 663, 664, 665, 666, 667, 668, 669, 670, 671, 672, 673, 674, 675, 676, 677, 678, 679] (by decide +kernel) (by decide +kernel)
set_option maxRecDepth 20000 in
theorem gL_law_X7_classOf : GoodIn wsL_law (wsV RL 17 RX7 yX7_classOf wsX7_classOf) := goodIn_app (goodIn_of _ (by decide +kernel)) ggL_law_X7_classOf
set_option maxRecDepth 20000 in
theorem ggL_law_X6_type : GoodIn wsL_law wsX6_type := goodIn_r _ [172, 15, 173, 174, 175, 176, 14, 177, 36, 178, 179, 180, 181, 40, 182, 56, 57, 58, 41, 42, 43, 44, 640, 641, 642, 643, 644, 680, 681, 682, 683, 684, 685, 686, 687, 688, 689] (by decide +kernel) (by decide +kernel)
set_option maxRecDepth 20000 in
theorem gL_law_X6_type : GoodIn wsL_law (wsV RL 18 RX6 yX6_type wsX6_type) := goodIn_app (goodIn_of _ (by decide +kernel)) ggL_law_X6_type
set_option maxRecDepth 20000 in
theorem ggL_law_X7_type : GoodIn wsL_law wsX7_type := goodIn_r _ [186, 117, 187, 188, 189, 5, 190, 116, 162, 163, 164, 191, 192, 193, 194, 195, 196, 197, 198, 119, 199, 200, 201, 202, 203, 204, 205, 120, 121, 122, 123, 645, 646, 647, 648, 649, 650, 651, 652, 653, 654, 655, 656, 657, 658, 659, 660, 661, 662, 663, 664, 665, 666, 667, 668, 669, 670, 671, 672, 673, 674, 675, 676, 677, 678, 679] (by decide +kernel) (by decide +kernel)
set_option maxRecDepth 20000 in
theorem gL_law_X7_type : GoodIn wsL_law (wsV RL 22 RX7 yX7_type wsX7_type) := goodIn_app (goodIn_of _ (by decide +kernel)) ggL_law_X7_type
set_option maxRecDepth 20000 in
theorem ggL_law_X6_member : GoodIn wsL_law wsX6_member := goodIn_r _ [209, 15, 173, 19, 174, 175, 176, 14, 177, 36, 210, 211, 212, 213, 40, 153, 154, 155, 156, 44, 214, 215, 216, 18, 217, 62, 63, 64, 640, 641, 642, 643, 644, 680, 681, 682, 683, 684, 685, 686, 687, 688, 689, 690, 691, 692] (by decide +kernel) (by decide +kernel)
set_option maxRecDepth 20000 in
theorem gL_law_X6_member : GoodIn wsL_law (wsV RL 23 RX6 yX6_member wsX6_member) := goodIn_app (goodIn_of _ (by decide +kernel)) ggL_law_X6_member
set_option maxRecDepth 20000 in
theorem ggL_law_X7_member : GoodIn wsL_law wsX7_member := goodIn_r _ [221, 123, 117, 222, 126, 127, 187, 188, 189, 5, 190, 116, 162, 163, 164, 195, 196, 197, 198, 119, 645, 646, 647, 648, 649, 650, 651, 652, 653, 654, 655, 656, 657, 658, 659, 660, 661, 662, 663, 664, 665, 666, 667, 668, 669, 670, 671, 672, 673, 674, 675, 676, 677, 678, 679] (by decide +kernel) (by decide +kernel)
set_option maxRecDepth 20000 in
theorem gL_law_X7_member : GoodIn wsL_law (wsV RL 26 RX7 yX7_member wsX7_member) := goodIn_app (goodIn_of _ (by decide +kernel)) ggL_law_X7_member
set_option maxRecDepth 20000 in
theorem ggL_law_X6_function : GoodIn wsL_law wsX6_function := goodIn_r _ [226, 15, 23, 210, 211, 212, 14, 213, 40, 227, 228, 229, 22, 230, 68, 69, 70, 71, 72, 640, 641, 642, 643, 644, 680, 681, 682, 683, 684, 685, 686, 687, 688, 689, 693, 694, 695, 696, 697] (by decide +kernel) (by decide +kernel)
set_option maxRecDepth 20000 in
theorem gL_law_X6_function : GoodIn wsL_law (wsV RL 27 RX6 yX6_function wsX6_function) := goodIn_app (goodIn_of _ (by decide +kernel)) ggL_law_X6_function
set_option maxRecDepth 20000 in
theorem ggL_law_X7_function : GoodIn wsL_law wsX7_function := goodIn_r _ [234, 235, 128, 129, 130, 131, 195, 196, 197, 5, 198, 119, 162, 163, 164, 645, 646, 647, 648, 649, 650, 651, 652, 653, 654, 655, 656, 657, 658, 659, 660, 661, 662, 663, 664, 665, 666, 667, 668, 669, 670, 671, 672, 673, 674, 675, 676, 677, 678, 679] (by decide +kernel) (by decide +kernel)
set_option maxRecDepth 20000 in
theorem gL_law_X7_function : GoodIn wsL_law (wsV RL 30 RX7 yX7_function wsX7_function) := goodIn_app (goodIn_of _ (by decide +kernel)) ggL_law_X7_function
set_option maxRecDepth 20000 in
theorem ggL_law_X6_bound : GoodIn wsL_law wsX6_bound := goodIn_r _ [239, 23, 15, 240, 241, 242, 243, 22, 244, 68, 245, 246, 2, 247, 149, 150, 151, 14, 152, 40, 248, 249, 250, 251, 44, 252, 211, 212, 213, 640, 641, 642, 643, 644, 693, 694, 695, 696, 697, 680, 681, 682, 683, 684, 685, 686, 687, 688, 689] (by decide +kernel) (by decide +kernel)
set_option maxRecDepth 20000 in
theorem gL_law_X6_bound : GoodIn wsL_law (wsV RL 31 RX6 yX6_bound wsX6_bound) := goodIn_app (goodIn_of _ (by decide +kernel)) ggL_law_X6_bound
set_option maxRecDepth 20000 in
theorem ggL_law_X7_bound : GoodIn wsL_law wsX7_bound := goodIn_r _ [256, 235, 131, 162, 163, 5, 164, 165, 166, 167, 168, 119, 257, 258, 259, 260, 123, 195, 196, 197, 198, 645, 646, 647, 648, 649, 650, 651, 652, 653, 654, 655, 656, 657, 658, 659, 660, 661, 662, 663, 664, 665, 666, 667, 668, 669, 670, 671, 672, 673, 674, 675, 676, 677, 678, 679] (by decide +kernel) (by decide +kernel)
set_option maxRecDepth 20000 in
theorem gL_law_X7_bound : GoodIn wsL_law (wsV RL 34 RX7 yX7_bound wsX7_bound) := goodIn_app (goodIn_of _ (by decide +kernel)) ggL_law_X7_bound
set_option maxRecDepth 20000 in
theorem ggL_law_X6_operator : GoodIn wsL_law wsX6_operator := goodIn_r _ [264, 27, 265, 266, 267, 2, 268, 15, 23, 19, 173, 248, 249, 250, 14, 251, 44, 252, 211, 212, 213, 40, 269, 270, 271, 26, 272, 76, 273, 274, 275, 22, 276, 70, 277, 242, 243, 244, 68, 278, 279, 280, 18, 281, 62, 174, 175, 176, 177, 36, 282, 283, 284, 285, 77, 78, 79, 80, 81, 82, 286, 287, 288, 289, 83, 84, 86, 290, 291, 292, 293, 87, 640, 641, 642, 643, 644, 680, 681, 682, 683, 684, 685, 686, 687, 688, 689, 698, 699, 700, 701, 702, 703, 704, 705, 706, 707, 708, 693, 694, 695, 696, 697, 690, 691, 692] (by decide +kernel) (by decide +kernel)
set_option maxRecDepth 20000 in
theorem gL_law_X6_operator : GoodIn wsL_law (wsV RL 35 RX6 yX6_operator wsX6_operator) := goodIn_app (goodIn_of _ (by decide +kernel)) ggL_law_X6_operator
