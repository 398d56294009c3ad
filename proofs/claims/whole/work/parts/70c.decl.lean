set_option maxRecDepth 20000 in
theorem ggL_law_X6_thing : GoodIn wsL_law wsX6_thing := goodIn_r _ [339, 340, 341, 199, 87, 254, 255, 5, 256, 257, 164, 165, 166, 258, 259, 260, 261, 196, 691, 692, 693, 694, 695, 696, 697, 698, 699, 700, 701, 702, 703, 704, 705, 706, 707, 708, 709, 710, 711, 712, 713, 714, 715, 716, 717, 718, 719, 720, 721, 722] (by decide +kernel) (by decide +kernel)
set_option maxRecDepth 20000 in
theorem gL_law_X6_thing : GoodIn wsL_law (wsV RL 55 RX6 yX6_thing wsX6_thing) := goodIn_app (goodIn_of _ (by decide +kernel)) ggL_law_X6_thing
set_option maxRecDepth 20000 in
theorem ggL_law_X5_about : GoodIn wsL_law wsX5_about := goodIn_r _ [345, 24, 346, 347, 348, 20, 349, 350, 351, 23, 352, 58, 353, 354, 355, 19, 356, 238, 239, 240, 241, 142, 2, 143, 357, 213, 214, 215, 51, 681, 682, 683, 684, 685, 686, 687, 688, 689, 690, 729, 730, 731, 732, 733, 734, 735, 736, 737, 725, 726, 727, 728] (by decide +kernel) (by decide +kernel)
set_option maxRecDepth 20000 in
theorem gL_law_X5_about : GoodIn wsL_law (wsV RL 56 RX5 yX5_about wsX5_about) := goodIn_app (goodIn_of _ (by decide +kernel)) ggL_law_X5_about
set_option maxRecDepth 20000 in
theorem ggL_law_X6_about : GoodIn wsL_law wsX6_about := goodIn_r _ [361, 362, 363, 364, 5, 365, 199, 164, 165, 166, 366, 367, 368, 369, 87, 197, 370, 371, 372, 373, 374, 375, 376, 691, 692, 693, 694, 695, 696, 697, 698, 699, 700, 701, 702, 703, 704, 705, 706, 707, 708, 709, 710, 711, 712, 713, 714, 715, 716, 717, 718, 719, 720, 721, 722] (by decide +kernel) (by decide +kernel)
set_option maxRecDepth 20000 in
theorem gL_law_X6_about : GoodIn wsL_law (wsV RL 59 RX6 yX6_about wsX6_about) := goodIn_app (goodIn_of _ (by decide +kernel)) ggL_law_X6_about
set_option maxRecDepth 20000 in
theorem ggL_law_X5_as : GoodIn wsL_law wsX5_as := goodIn_r _ [380, 24, 346, 349, 350, 351, 23, 352, 58, 331, 312, 2, 313, 381, 382, 383, 681, 682, 683, 684, 685, 686, 687, 688, 689, 690, 729, 730, 731, 732, 733, 734, 735, 736, 737] (by decide +kernel) (by decide +kernel)
set_option maxRecDepth 20000 in
theorem gL_law_X5_as : GoodIn wsL_law (wsV RL 60 RX5 yX5_as wsX5_as) := goodIn_app (goodIn_of _ (by decide +kernel)) ggL_law_X5_as
set_option maxRecDepth 20000 in
theorem ggL_law_X6_as : GoodIn wsL_law wsX6_as := goodIn_r _ [387, 340, 87, 362, 363, 364, 5, 365, 199, 164, 165, 166, 691, 692, 693, 694, 695, 696, 697, 698, 699, 700, 701, 702, 703, 704, 705, 706, 707, 708, 709, 710, 711, 712, 713, 714, 715, 716, 717, 718, 719, 720, 721, 722] (by decide +kernel) (by decide +kernel)
set_option maxRecDepth 20000 in
theorem gL_law_X6_as : GoodIn wsL_law (wsV RL 63 RX6 yX6_as wsX6_as) := goodIn_app (goodIn_of _ (by decide +kernel)) ggL_law_X6_as
set_option maxRecDepth 20000 in
theorem ggL_law_X5_take : GoodIn wsL_law wsX5_take := goodIn_r _ [391, 24, 207, 142, 2, 143, 208, 209, 210, 211, 35, 216, 217, 218, 219, 20, 220, 221, 222, 223, 224, 19, 225, 226, 227, 228, 229, 50, 49, 230, 231, 232, 233, 234, 235, 236, 237, 238, 239, 240, 241, 48, 242, 243, 244, 392, 393, 394, 23, 395, 58, 56, 57, 681, 682, 683, 684, 685, 686, 687, 688, 689, 690, 729, 730, 731, 732, 733, 734, 735, 736, 737, 725, 726, 727, 728] (by decide +kernel) (by decide +kernel)
set_option maxRecDepth 20000 in
theorem gL_law_X5_take : GoodIn wsL_law (wsV RL 64 RX5 yX5_take wsX5_take) := goodIn_app (goodIn_of _ (by decide +kernel)) ggL_law_X5_take
set_option maxRecDepth 20000 in
theorem ggL_law_X6_take : GoodIn wsL_law wsX6_take := goodIn_r _ [399, 198, 94, 199, 87, 254, 255, 5, 256, 257, 164, 165, 166, 258, 259, 260, 261, 196, 266, 267, 268, 269, 270, 271, 272, 273, 86, 274, 275, 276, 277, 85, 691, 692, 693, 694, 695, 696, 697, 698, 699, 700, 701, 702, 703, 704, 705, 706, 707, 708, 709, 710, 711, 712, 713, 714, 715, 716, 717, 718, 719, 720, 721, 722] (by decide +kernel) (by decide +kernel)
set_option maxRecDepth 20000 in
theorem gL_law_X6_take : GoodIn wsL_law (wsV RL 67 RX6 yX6_take wsX6_take) := goodIn_app (goodIn_of _ (by decide +kernel)) ggL_law_X6_take
set_option maxRecDepth 20000 in
theorem ggL_law_X5_share : GoodIn wsL_law wsX5_share := goodIn_r _ [403, 20, 24, 207, 142, 2, 143, 212, 213, 214, 19, 215, 51, 404, 405, 406, 23, 407, 58, 56, 57, 408, 354, 355, 356, 238, 239, 240, 241, 357, 681, 682, 683, 684, 685, 686, 687, 688, 689, 690, 725, 726, 727, 728, 729, 730, 731, 732, 733, 734, 735, 736, 737] (by decide +kernel) (by decide +kernel)
set_option maxRecDepth 20000 in
theorem gL_law_X5_share : GoodIn wsL_law (wsV RL 68 RX5 yX5_share wsX5_share) := goodIn_app (goodIn_of _ (by decide +kernel)) ggL_law_X5_share
set_option maxRecDepth 20000 in
theorem ggL_law_X6_share : GoodIn wsL_law wsX6_share := goodIn_r _ [412, 197, 254, 255, 5, 256, 257, 164, 165, 166, 258, 259, 260, 261, 196, 413, 414, 415, 416, 199, 87, 371, 372, 373, 374, 375, 376, 691, 692, 693, 694, 695, 696, 697, 698, 699, 700, 701, 702, 703, 704, 705, 706, 707, 708, 709, 710, 711, 712, 713, 714, 715, 716, 717, 718, 719, 720, 721, 722] (by decide +kernel) (by decide +kernel)
set_option maxRecDepth 20000 in
theorem gL_law_X6_share : GoodIn wsL_law (wsV RL 71 RX6 yX6_share wsX6_share) := goodIn_app (goodIn_of _ (by decide +kernel)) ggL_law_X6_share
set_option maxRecDepth 20000 in
theorem ggL_law_X5_best : GoodIn wsL_law wsX5_best := goodIn_r _ [420, 36, 26, 24, 34, 20, 421, 207, 142, 2, 143, 208, 209, 210, 211, 35, 422, 423, 424, 23, 425, 55, 426, 427, 428, 429, 56, 57, 62, 58, 59, 60, 61, 63, 430, 431, 432, 33, 433, 434, 435, 240, 436, 437, 243, 244, 76, 438, 75, 439, 74, 440, 213, 214, 19, 215, 51, 441, 442, 443, 444, 71, 73, 445, 446, 447, 448, 449, 223, 224, 225, 226, 227, 228, 229, 50, 49, 230, 231, 232, 233, 234, 235, 236, 237, 238, 239, 241, 48, 242, 450, 305, 306, 307, 308, 309, 310, 311, 312, 313, 314, 315, 316, 317, 318, 451, 452, 453, 454, 77, 455, 456, 457, 458, 459, 460, 461, 681, 682, 683, 684, 685, 686, 687, 688, 689, 690, 739, 740, 741, 742, 743, 744, 729, 730, 731, 732, 733, 734, 735, 736, 737, 725, 726, 727, 728] (by decide +kernel) (by decide +kernel)
set_option maxRecDepth 20000 in
theorem gL_law_X5_best : GoodIn wsL_law (wsV RL 72 RX5 yX5_best wsX5_best) := goodIn_app (goodIn_of _ (by decide +kernel)) ggL_law_X5_best
set_option maxRecDepth 20000 in
theorem ggL_law_X6_best : GoodIn wsL_law wsX6_best := goodIn_r _ [465, 257, 466, 254, 255, 5, 256, 164, 165, 166, 258, 259, 260, 261, 196, 467, 468, 469, 470, 199, 88, 87, 198, 323, 324, 325, 326, 94, 266, 267, 268, 269, 270, 271, 272, 273, 86, 274, 275, 276, 277, 85, 471, 472, 473, 474, 197, 691, 692, 693, 694, 695, 696, 697, 698, 699, 700, 701, 702, 703, 704, 705, 706, 707, 708, 709, 710, 711, 712, 713, 714, 715, 716, 717, 718, 719, 720, 721, 722] (by decide +kernel) (by decide +kernel)
set_option maxRecDepth 20000 in
theorem gL_law_X6_best : GoodIn wsL_law (wsV RL 75 RX6 yX6_best wsX6_best) := goodIn_app (goodIn_of _ (by decide +kernel)) ggL_law_X6_best
set_option maxRecDepth 20000 in
theorem ggL_law_X5_whence : GoodIn wsL_law wsX5_whence := goodIn_r _ [478, 24, 220, 331, 312, 2, 313, 207, 142, 143, 208, 209, 210, 211, 35, 479, 480, 481, 482, 20, 221, 483, 309, 310, 19, 311, 314, 223, 224, 225, 226, 227, 228, 229, 50, 49, 230, 231, 232, 233, 234, 235, 236, 237, 238, 239, 240, 241, 48, 242, 243, 244, 315, 316, 317, 318, 681, 682, 683, 684, 685, 686, 687, 688, 689, 690, 729, 730, 731, 732, 733, 734, 735, 736, 737, 725, 726, 727, 728] (by decide +kernel) (by decide +kernel)
set_option maxRecDepth 20000 in
theorem gL_law_X5_whence : GoodIn wsL_law (wsV RL 76 RX5 yX5_whence wsX5_whence) := goodIn_app (goodIn_of _ (by decide +kernel)) ggL_law_X5_whence
set_option maxRecDepth 20000 in
theorem ggL_law_X6_whence : GoodIn wsL_law wsX6_whence := goodIn_r _ [487, 340, 488, 198, 164, 165, 5, 166, 254, 255, 256, 257, 258, 259, 260, 261, 196, 323, 324, 325, 326, 94, 266, 267, 268, 269, 270, 271, 272, 273, 86, 274, 275, 276, 277, 85, 691, 692, 693, 694, 695, 696, 697, 698, 699, 700, 701, 702, 703, 704, 705, 706, 707, 708, 709, 710, 711, 712, 713, 714, 715, 716, 717, 718, 719, 720, 721, 722] (by decide +kernel) (by decide +kernel)
set_option maxRecDepth 20000 in
theorem gL_law_X6_whence : GoodIn wsL_law (wsV RL 79 RX6 yX6_whence wsX6_whence) := goodIn_app (goodIn_of _ (by decide +kernel)) ggL_law_X6_whence
set_option maxRecDepth 20000 in
theorem ggL_law_X5_uncovered : GoodIn wsL_law wsX5_uncovered := goodIn_r _ [492, 20, 24, 220, 207, 142, 2, 143, 208, 209, 210, 211, 35, 216, 217, 218, 219, 221, 222, 223, 224, 19, 225, 226, 227, 228, 229, 50, 49, 230, 231, 232, 233, 234, 235, 236, 237, 238, 239, 240, 241, 48, 242, 243, 244, 681, 682, 683, 684, 685, 686, 687, 688, 689, 690, 729, 730, 731, 732, 733, 734, 735, 736, 737, 725, 726, 727, 728] (by decide +kernel) (by decide +kernel)
set_option maxRecDepth 20000 in
theorem gL_law_X5_uncovered : GoodIn wsL_law (wsV RL 80 RX5 yX5_uncovered wsX5_uncovered) := goodIn_app (goodIn_of _ (by decide +kernel)) ggL_law_X5_uncovered
set_option maxRecDepth 20000 in
theorem ggL_law_X6_uncovered : GoodIn wsL_law wsX6_uncovered := goodIn_r _ [496, 198, 94, 254, 255, 5, 256, 257, 164, 165, 166, 258, 259, 260, 261, 196, 266, 267, 268, 269, 270, 271, 272, 273, 86, 274, 275, 276, 277, 85, 691, 692, 693, 694, 695, 696, 697, 698, 699, 700, 701, 702, 703, 704, 705, 706, 707, 708, 709, 710, 711, 712, 713, 714, 715, 716, 717, 718, 719, 720, 721, 722] (by decide +kernel) (by decide +kernel)
set_option maxRecDepth 20000 in
theorem gL_law_X6_uncovered : GoodIn wsL_law (wsV RL 83 RX6 yX6_uncovered wsX6_uncovered) := goodIn_app (goodIn_of _ (by decide +kernel)) ggL_law_X6_uncovered
set_option maxRecDepth 20000 in
theorem ggL_law_X5_bell : GoodIn wsL_law wsX5_bell := goodIn_r _ [500, 20, 171, 24, 220, 208, 209, 210, 2, 211, 35, 286, 227, 228, 19, 229, 50, 49, 230, 231, 232, 233, 681, 682, 683, 684, 685, 686, 687, 688, 689, 690, 725, 726, 727, 728, 729, 730, 731, 732, 733, 734, 735, 736, 737] (by decide +kernel) (by decide +kernel)
set_option maxRecDepth 20000 in
theorem gL_law_X5_bell : GoodIn wsL_law (wsV RL 84 RX5 yX5_bell wsX5_bell) := goodIn_app (goodIn_of _ (by decide +kernel)) ggL_law_X5_bell
set_option maxRecDepth 20000 in
theorem ggL_law_X6_bell : GoodIn wsL_law wsX6_bell := goodIn_r _ [504, 159, 196, 198, 164, 165, 5, 166, 258, 259, 260, 261, 270, 271, 272, 273, 86, 691, 692, 693, 694, 695, 696, 697, 698, 699, 700, 701, 702, 703, 704, 705, 706, 707, 708, 709, 710, 711, 712, 713, 714, 715, 716, 717, 718, 719, 720, 721, 722] (by decide +kernel) (by decide +kernel)
set_option maxRecDepth 20000 in
theorem gL_law_X6_bell : GoodIn wsL_law (wsV RL 87 RX6 yX6_bell wsX6_bell) := goodIn_app (goodIn_of _ (by decide +kernel)) ggL_law_X6_bell
set_option maxRecDepth 20000 in
theorem ggL_law_X5_newStair : GoodIn wsL_law wsX5_newStair := goodIn_r _ [508, 20, 24, 208, 209, 210, 2, 211, 35, 212, 213, 214, 19, 215, 51, 142, 143, 404, 405, 406, 23, 407, 58, 56, 57, 408, 354, 355, 356, 238, 239, 240, 241, 357, 681, 682, 683, 684, 685, 686, 687, 688, 689, 690, 725, 726, 727, 728, 729, 730, 731, 732, 733, 734, 735, 736, 737] (by decide +kernel) (by decide +kernel)
set_option maxRecDepth 20000 in
theorem gL_law_X5_newStair : GoodIn wsL_law (wsV RL 88 RX5 yX5_newStair wsX5_newStair) := goodIn_app (goodIn_of _ (by decide +kernel)) ggL_law_X5_newStair
