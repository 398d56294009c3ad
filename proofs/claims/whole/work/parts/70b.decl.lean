set_option maxRecDepth 20000 in
theorem ggL_law_X5_init : GoodIn wsL_law wsX5_init := goodIn_r _ [9, 10, 11, 12, 13, 14, 15, 16, 17, 18, 19, 20, 21, 22, 23, 24, 25, 26, 27, 28, 29, 30, 31, 32, 33, 34, 35, 36, 37, 38, 39, 40, 41, 42, 43, 44, 45, 46, 47, 48, 49, 50, 51, 52, 53, 54, 55, 56, 57, 58, 59, 60, 61, 62, 63, 64, 65, 66, 67, 68, 69, 70, 71, 72, 73, 74, 75, 76, 77, 723, 724, 681, 682, 683, 684, 685, 686, 687, 688, 689, 690, 725, 726, 727, 728, 729, 730, 731, 732, 733, 734, 735, 736, 737, 738, 739, 740, 741, 742, 743, 744] (by decide +kernel) (by decide +kernel)
set_option maxRecDepth 20000 in
theorem gL_law_X5_init : GoodIn wsL_law (wsX5_init) := ggL_law_X5_init
set_option maxRecDepth 20000 in
theorem ggL_law_X6_init : GoodIn wsL_law wsX6_init := goodIn_r _ [80, 81, 11, 12, 47, 82, 83, 84, 85, 86, 87, 88, 89, 90, 91, 92, 93, 94, 691, 692, 693, 694, 695, 696, 697, 698, 699, 700, 701, 702, 703, 704, 705, 706, 707, 708, 709, 710, 711, 712, 713, 714, 715, 716, 717, 718, 719, 720, 721, 722] (by decide +kernel) (by decide +kernel)
set_option maxRecDepth 20000 in
theorem gL_law_X6_init : GoodIn wsL_law (wsX6_init) := ggL_law_X6_init
set_option maxRecDepth 20000 in
theorem ggL_law_X5_letters : GoodIn wsL_law wsX5_letters := goodIn_r _ [98, 16, 99, 100, 101, 15, 102, 103, 104, 105, 106, 107, 108, 109, 110, 43, 42, 681, 682, 683, 684, 685, 686, 687, 688, 689, 690, 723, 724] (by decide +kernel) (by decide +kernel)
set_option maxRecDepth 20000 in
theorem gL_law_X5_letters : GoodIn wsL_law (wsV RL 15 RX5 yX5_letters wsX5_letters) := goodIn_app (goodIn_of _ (by decide +kernel)) ggL_law_X5_letters
set_option maxRecDepth 20000 in
theorem ggL_law_X6_letters : GoodIn wsL_law wsX6_letters := goodIn_r _ [114, 115, 116, 82, 691, 692, 693, 694, 695, 696, 697, 698, 699, 700, 701, 702, 703, 704, 705, 706, 707, 708, 709, 710, 711, 712, 713, 714, 715, 716, 717, 718, 719, 720, 721, 722] (by decide +kernel) (by decide +kernel)
set_option maxRecDepth 20000 in
theorem gL_law_X6_letters : GoodIn wsL_law (wsV RL 19 RX6 yX6_letters wsX6_letters) := goodIn_app (goodIn_of _ (by decide +kernel)) ggL_law_X6_letters
set_option maxRecDepth 20000 in
theorem ggL_law_X5_blank : GoodIn wsL_law wsX5_blank := goodIn_r _ [120, 16, 99, 681, 682, 683, 684, 685, 686, 687, 688, 689, 690, 723, 724] (by decide +kernel) (by decide +kernel)
set_option maxRecDepth 20000 in
theorem gL_law_X5_blank : GoodIn wsL_law (wsV RL 20 RX5 yX5_blank wsX5_blank) := goodIn_app (goodIn_of _ (by decide +kernel)) ggL_law_X5_blank
set_option maxRecDepth 20000 in
theorem ggL_law_X6_blank : GoodIn wsL_law wsX6_blank := goodIn_r _ [124, 116, 691, 692, 693, 694, 695, 696, 697, 698, 699, 700, 701, 702, 703, 704, 705, 706, 707, 708, 709, 710, 711, 712, 713, 714, 715, 716, 717, 718, 719, 720, 721, 722] (by decide +kernel) (by decide +kernel)
set_option maxRecDepth 20000 in
theorem gL_law_X6_blank : GoodIn wsL_law (wsV RL 24 RX6 yX6_blank wsX6_blank) := goodIn_app (goodIn_of _ (by decide +kernel)) ggL_law_X6_blank
set_option maxRecDepth 20000 in
theorem ggL_law_X5_fault : GoodIn wsL_law wsX5_fault := goodIn_r _ [128, 16, 129, 130, 131, 15, 132, 43, 42, 133, 134, 135, 136, 137, 138, 139, 140, 141, 142, 2, 143, 681, 682, 683, 684, 685, 686, 687, 688, 689, 690, 723, 724] (by decide +kernel) (by decide +kernel)
set_option maxRecDepth 20000 in
theorem gL_law_X5_fault : GoodIn wsL_law (wsV RL 25 RX5 yX5_fault wsX5_fault) := goodIn_app (goodIn_of _ (by decide +kernel)) ggL_law_X5_fault
set_option maxRecDepth 20000 in
theorem ggL_law_X6_fault : GoodIn wsL_law wsX6_fault := goodIn_r _ [147, 148, 149, 150, 5, 151, 152, 153, 154, 116, 82, 155, 156, 157, 158, 159, 83, 84, 160, 161, 162, 163, 164, 165, 166, 691, 692, 693, 694, 695, 696, 697, 698, 699, 700, 701, 702, 703, 704, 705, 706, 707, 708, 709, 710, 711, 712, 713, 714, 715, 716, 717, 718, 719, 720, 721, 722] (by decide +kernel) (by decide +kernel)
set_option maxRecDepth 20000 in
theorem gL_law_X6_fault : GoodIn wsL_law (wsV RL 28 RX6 yX6_fault wsX6_fault) := goodIn_app (goodIn_of _ (by decide +kernel)) ggL_law_X6_fault
set_option maxRecDepth 20000 in
theorem ggL_law_X5_shore : GoodIn wsL_law wsX5_shore := goodIn_r _ [170, 16, 20, 24, 99, 35, 171, 172, 173, 174, 15, 175, 43, 176, 177, 178, 179, 42, 180, 130, 131, 132, 133, 134, 135, 136, 137, 138, 139, 140, 141, 142, 2, 143, 181, 182, 183, 19, 184, 48, 185, 51, 50, 186, 49, 187, 188, 189, 190, 23, 191, 58, 59, 60, 61, 681, 682, 683, 684, 685, 686, 687, 688, 689, 690, 723, 724, 725, 726, 727, 728, 729, 730, 731, 732, 733, 734, 735, 736, 737] (by decide +kernel) (by decide +kernel)
set_option maxRecDepth 20000 in
theorem gL_law_X5_shore : GoodIn wsL_law (wsV RL 29 RX5 yX5_shore wsX5_shore) := goodIn_app (goodIn_of _ (by decide +kernel)) ggL_law_X5_shore
set_option maxRecDepth 20000 in
theorem ggL_law_X6_shore : GoodIn wsL_law wsX6_shore := goodIn_r _ [195, 116, 154, 153, 85, 83, 86, 84, 196, 152, 197, 198, 94, 199, 200, 201, 148, 149, 150, 5, 151, 82, 155, 156, 157, 158, 159, 160, 161, 162, 163, 164, 165, 166, 691, 692, 693, 694, 695, 696, 697, 698, 699, 700, 701, 702, 703, 704, 705, 706, 707, 708, 709, 710, 711, 712, 713, 714, 715, 716, 717, 718, 719, 720, 721, 722] (by decide +kernel) (by decide +kernel)
set_option maxRecDepth 20000 in
theorem gL_law_X6_shore : GoodIn wsL_law (wsV RL 32 RX6 yX6_shore wsX6_shore) := goodIn_app (goodIn_of _ (by decide +kernel)) ggL_law_X6_shore
set_option maxRecDepth 20000 in
theorem ggL_law_X5_cell : GoodIn wsL_law wsX5_cell := goodIn_r _ [205, 20, 206, 24, 207, 142, 2, 143, 208, 209, 210, 211, 35, 212, 213, 214, 19, 215, 51, 216, 217, 218, 219, 220, 221, 222, 223, 224, 225, 226, 227, 228, 229, 50, 49, 230, 231, 232, 233, 234, 235, 236, 237, 238, 239, 240, 241, 48, 242, 243, 244, 245, 246, 247, 23, 248, 58, 56, 681, 682, 683, 684, 685, 686, 687, 688, 689, 690, 725, 726, 727, 728, 729, 730, 731, 732, 733, 734, 735, 736, 737] (by decide +kernel) (by decide +kernel)
set_option maxRecDepth 20000 in
theorem gL_law_X5_cell : GoodIn wsL_law (wsV RL 33 RX5 yX5_cell wsX5_cell) := goodIn_app (goodIn_of _ (by decide +kernel)) ggL_law_X5_cell
set_option maxRecDepth 20000 in
theorem ggL_law_X6_cell : GoodIn wsL_law wsX6_cell := goodIn_r _ [252, 253, 254, 255, 5, 256, 257, 164, 165, 166, 258, 259, 260, 261, 196, 262, 263, 264, 265, 85, 197, 198, 94, 266, 267, 268, 269, 270, 271, 272, 273, 86, 274, 275, 276, 277, 278, 279, 280, 281, 199, 87, 691, 692, 693, 694, 695, 696, 697, 698, 699, 700, 701, 702, 703, 704, 705, 706, 707, 708, 709, 710, 711, 712, 713, 714, 715, 716, 717, 718, 719, 720, 721, 722] (by decide +kernel) (by decide +kernel)
set_option maxRecDepth 20000 in
theorem gL_law_X6_cell : GoodIn wsL_law (wsV RL 37 RX6 yX6_cell wsX6_cell) := goodIn_app (goodIn_of _ (by decide +kernel)) ggL_law_X6_cell
set_option maxRecDepth 20000 in
theorem ggL_law_X5_tide : GoodIn wsL_law wsX5_tide := goodIn_r _ [285, 20, 24, 220, 208, 209, 210, 2, 211, 35, 286, 227, 228, 19, 229, 50, 49, 230, 231, 232, 233, 681, 682, 683, 684, 685, 686, 687, 688, 689, 690, 729, 730, 731, 732, 733, 734, 735, 736, 737, 725, 726, 727, 728] (by decide +kernel) (by decide +kernel)
set_option maxRecDepth 20000 in
theorem gL_law_X5_tide : GoodIn wsL_law (wsV RL 38 RX5 yX5_tide wsX5_tide) := goodIn_app (goodIn_of _ (by decide +kernel)) ggL_law_X5_tide
set_option maxRecDepth 20000 in
theorem ggL_law_X6_tide : GoodIn wsL_law wsX6_tide := goodIn_r _ [290, 291, 198, 164, 165, 5, 166, 258, 259, 260, 261, 196, 270, 271, 272, 273, 86, 691, 692, 693, 694, 695, 696, 697, 698, 699, 700, 701, 702, 703, 704, 705, 706, 707, 708, 709, 710, 711, 712, 713, 714, 715, 716, 717, 718, 719, 720, 721, 722] (by decide +kernel) (by decide +kernel)
set_option maxRecDepth 20000 in
theorem gL_law_X6_tide : GoodIn wsL_law (wsV RL 42 RX6 yX6_tide wsX6_tide) := goodIn_app (goodIn_of _ (by decide +kernel)) ggL_law_X6_tide
set_option maxRecDepth 20000 in
theorem ggL_law_X5_barge : GoodIn wsL_law wsX5_barge := goodIn_r _ [295, 24, 221, 207, 142, 2, 143, 208, 209, 210, 211, 35, 681, 682, 683, 684, 685, 686, 687, 688, 689, 690, 729, 730, 731, 732, 733, 734, 735, 736, 737] (by decide +kernel) (by decide +kernel)
set_option maxRecDepth 20000 in
theorem gL_law_X5_barge : GoodIn wsL_law (wsV RL 43 RX5 yX5_barge wsX5_barge) := goodIn_app (goodIn_of _ (by decide +kernel)) ggL_law_X5_barge
set_option maxRecDepth 20000 in
theorem ggL_law_X6_barge : GoodIn wsL_law wsX6_barge := goodIn_r _ [299, 94, 254, 255, 5, 256, 257, 164, 165, 166, 258, 259, 260, 261, 196, 691, 692, 693, 694, 695, 696, 697, 698, 699, 700, 701, 702, 703, 704, 705, 706, 707, 708, 709, 710, 711, 712, 713, 714, 715, 716, 717, 718, 719, 720, 721, 722] (by decide +kernel) (by decide +kernel)
set_option maxRecDepth 20000 in
theorem gL_law_X6_barge : GoodIn wsL_law (wsV RL 46 RX6 yX6_barge wsX6_barge) := goodIn_app (goodIn_of _ (by decide +kernel)) ggL_law_X6_barge
set_option maxRecDepth 20000 in
theorem ggL_law_X5_hour : GoodIn wsL_law wsX5_hour := goodIn_r _ [303, 24, 20, 208, 209, 210, 2, 211, 35, 304, 305, 306, 23, 307, 58, 55, 56, 60, 59, 308, 309, 310, 19, 311, 312, 313, 142, 143, 314, 223, 224, 225, 226, 227, 228, 229, 50, 49, 230, 231, 232, 233, 234, 235, 236, 237, 238, 239, 240, 241, 48, 242, 243, 244, 315, 316, 317, 318, 681, 682, 683, 684, 685, 686, 687, 688, 689, 690, 729, 730, 731, 732, 733, 734, 735, 736, 737, 725, 726, 727, 728] (by decide +kernel) (by decide +kernel)
set_option maxRecDepth 20000 in
theorem gL_law_X5_hour : GoodIn wsL_law (wsV RL 47 RX5 yX5_hour wsX5_hour) := goodIn_app (goodIn_of _ (by decide +kernel)) ggL_law_X5_hour
set_option maxRecDepth 20000 in
theorem ggL_law_X6_hour : GoodIn wsL_law wsX6_hour := goodIn_r _ [322, 199, 87, 198, 258, 259, 260, 5, 261, 196, 323, 324, 325, 326, 94, 266, 267, 268, 269, 270, 271, 272, 273, 86, 274, 275, 276, 277, 85, 691, 692, 693, 694, 695, 696, 697, 698, 699, 700, 701, 702, 703, 704, 705, 706, 707, 708, 709, 710, 711, 712, 713, 714, 715, 716, 717, 718, 719, 720, 721, 722] (by decide +kernel) (by decide +kernel)
set_option maxRecDepth 20000 in
theorem gL_law_X6_hour : GoodIn wsL_law (wsV RL 50 RX6 yX6_hour wsX6_hour) := goodIn_app (goodIn_of _ (by decide +kernel)) ggL_law_X6_hour
set_option maxRecDepth 20000 in
theorem ggL_law_X5_thing : GoodIn wsL_law wsX5_thing := goodIn_r _ [330, 24, 207, 142, 2, 143, 331, 312, 313, 208, 209, 210, 211, 35, 332, 333, 334, 23, 335, 58, 55, 56, 57, 681, 682, 683, 684, 685, 686, 687, 688, 689, 690, 729, 730, 731, 732, 733, 734, 735, 736, 737] (by decide +kernel) (by decide +kernel)
set_option maxRecDepth 20000 in
theorem gL_law_X5_thing : GoodIn wsL_law (wsV RL 51 RX5 yX5_thing wsX5_thing) := goodIn_app (goodIn_of _ (by decide +kernel)) ggL_law_X5_thing
