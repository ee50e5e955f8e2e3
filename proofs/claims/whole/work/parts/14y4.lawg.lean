set_option maxRecDepth 20000 in
theorem ggL_law_X5_about : GoodIn wsL_law wsX5_about := goodIn_r _ [348, 186, 79, 80, 81, 82, 252, 253, 254, 5, 255, 212, 120, 121, 122, 349, 350, 351, 352, 353, 354, 355, 356, 357, 358, 359, 360, 361, 362, 74, 75, 76, 363, 364, 365, 366, 367, 368, 369, 370, 371, 372, 373, 374, 375, 376, 377, 378, 379, 380, 381, 382, 72, 73, 699, 700, 701, 702, 703, 704, 705, 706, 707, 708, 709, 710, 711, 712, 713, 714, 715, 716, 717, 718, 719, 720, 721, 722, 723, 724, 725, 726, 727, 728, 729] (by decide +kernel) (by decide +kernel)
set_option maxRecDepth 20000 in
theorem gL_law_X5_about : GoodIn wsL_law (wsV RL 58 RX5 yX5_about wsX5_about) := goodIn_app (goodIn_of _ (by decide +kernel)) ggL_law_X5_about
set_option maxRecDepth 20000 in
theorem ggL_law_X4_own : GoodIn wsL_law wsX4_own := goodIn_r _ [386, 17, 25, 31, 268, 245, 246, 16, 247, 46, 96, 97, 2, 98, 387, 388, 389, 390, 285, 286, 287, 288, 30, 21, 289, 290, 291, 292, 24, 293, 58, 59, 60, 61, 294, 295, 296, 297, 298, 299, 300, 301, 13, 89, 90, 91, 92, 302, 303, 304, 37, 305, 67, 65, 306, 307, 308, 20, 309, 50, 51, 52, 53, 54, 310, 311, 312, 313, 314, 269, 270, 271, 272, 42, 244, 315, 316, 317, 318, 319, 320, 321, 322, 323, 324, 325, 326, 327, 328, 329, 330, 331, 332, 333, 334, 274, 275, 276, 43, 335, 336, 337, 338, 339, 278, 279, 280, 44, 340, 341, 342, 343, 391, 392, 393, 394, 395, 396, 397, 398, 399, 400, 401, 402, 685, 686, 687, 688, 689, 690, 691, 692, 693, 694, 695, 696, 697, 698, 730, 731, 732, 733, 734, 735, 736, 737, 738, 739, 740, 741, 742, 743, 744, 745, 746] (by decide +kernel) (by decide +kernel)
set_option maxRecDepth 20000 in
theorem gL_law_X4_own : GoodIn wsL_law (wsV RL 59 RX4 yX4_own wsX4_own) := goodIn_app (goodIn_of _ (by decide +kernel)) ggL_law_X4_own
set_option maxRecDepth 20000 in
theorem ggL_law_X5_own : GoodIn wsL_law wsX5_own := goodIn_r _ [406, 353, 354, 252, 253, 254, 5, 255, 212, 120, 121, 122, 407, 408, 409, 410, 349, 350, 351, 352, 355, 356, 357, 358, 80, 81, 359, 360, 361, 362, 74, 75, 76, 363, 364, 365, 366, 367, 368, 369, 370, 371, 372, 373, 374, 375, 376, 377, 378, 79, 379, 380, 381, 382, 72, 73, 699, 700, 701, 702, 703, 704, 705, 706, 707, 708, 709, 710, 711, 712, 713, 714, 715, 716, 717, 718, 719, 720, 721, 722, 723, 724, 725, 726, 727, 728, 729] (by decide +kernel) (by decide +kernel)
set_option maxRecDepth 20000 in
theorem gL_law_X5_own : GoodIn wsL_law (wsV RL 63 RX5 yX5_own wsX5_own) := goodIn_app (goodIn_of _ (by decide +kernel)) ggL_law_X5_own
set_option maxRecDepth 20000 in
theorem ggL_law_X4_motion : GoodIn wsL_law wsX4_motion := goodIn_r _ [414, 30, 96, 97, 2, 98, 685, 686, 687, 688, 689, 690, 691, 692, 693, 694, 695, 696, 697, 698] (by decide +kernel) (by decide +kernel)
set_option maxRecDepth 20000 in
theorem gL_law_X4_motion : GoodIn wsL_law (wsV RL 64 RX4 yX4_motion wsX4_motion) := goodIn_app (goodIn_of _ (by decide +kernel)) ggL_law_X4_motion
set_option maxRecDepth 20000 in
theorem ggL_law_X5_motion : GoodIn wsL_law wsX5_motion := goodIn_r _ [418, 115, 355, 120, 121, 5, 122, 699, 700, 701, 702, 703, 704, 705, 706, 707, 708, 709, 710, 711, 712, 713, 714, 715, 716, 717, 718, 719, 720, 721, 722, 723, 724, 725, 726, 727, 728, 729] (by decide +kernel) (by decide +kernel)
set_option maxRecDepth 20000 in
theorem gL_law_X5_motion : GoodIn wsL_law (wsV RL 67 RX5 yX5_motion wsX5_motion) := goodIn_app (goodIn_of _ (by decide +kernel)) ggL_law_X5_motion
set_option maxRecDepth 20000 in
theorem ggL_law_X4_skew : GoodIn wsL_law wsX4_skew := goodIn_r _ [422, 31, 217, 218, 2, 219, 96, 97, 98, 685, 686, 687, 688, 689, 690, 691, 692, 693, 694, 695, 696, 697, 698] (by decide +kernel) (by decide +kernel)
set_option maxRecDepth 20000 in
theorem gL_law_X4_skew : GoodIn wsL_law (wsV RL 68 RX4 yX4_skew wsX4_skew) := goodIn_app (goodIn_of _ (by decide +kernel)) ggL_law_X4_skew
set_option maxRecDepth 20000 in
theorem ggL_law_X5_skew : GoodIn wsL_law wsX5_skew := goodIn_r _ [426, 233, 378, 120, 121, 5, 122, 699, 700, 701, 702, 703, 704, 705, 706, 707, 708, 709, 710, 711, 712, 713, 714, 715, 716, 717, 718, 719, 720, 721, 722, 723, 724, 725, 726, 727, 728, 729] (by decide +kernel) (by decide +kernel)
set_option maxRecDepth 20000 in
theorem gL_law_X5_skew : GoodIn wsL_law (wsV RL 71 RX5 yX5_skew wsX5_skew) := goodIn_app (goodIn_of _ (by decide +kernel)) ggL_law_X5_skew
