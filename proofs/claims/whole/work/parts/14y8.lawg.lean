set_option maxRecDepth 20000 in
theorem ggL_law_X5_askew : GoodIn wsL_law wsX5_askew := goodIn_r _ [641, 78, 564, 378, 565, 566, 571, 572, 573, 5, 574, 252, 253, 254, 255, 212, 120, 121, 122, 575, 576, 577, 578, 521, 522, 494, 495, 496, 497, 437, 82, 370, 83, 373, 84, 371, 459, 372, 349, 350, 351, 352, 353, 354, 355, 356, 357, 358, 80, 81, 359, 360, 361, 362, 74, 75, 76, 363, 364, 365, 366, 367, 368, 369, 374, 375, 376, 377, 79, 379, 380, 381, 382, 72, 73, 498, 499, 500, 501, 502, 503, 504, 523, 524, 525, 526, 699, 700, 701, 702, 703, 704, 705, 706, 707, 708, 709, 710, 711, 712, 713, 714, 715, 716, 717, 718, 719, 720, 721, 722, 723, 724, 725, 726, 727, 728, 729] (by decide +kernel) (by decide +kernel)
set_option maxRecDepth 20000 in
theorem gL_law_X5_askew : GoodIn wsL_law (wsV RL 118 RX5 yX5_askew wsX5_askew) := goodIn_app (goodIn_of _ (by decide +kernel)) ggL_law_X5_askew
set_option maxRecDepth 20000 in
theorem ggL_law_X4_closes : GoodIn wsL_law wsX4_closes := goodIn_r _ [645, 17, 224, 268, 245, 246, 16, 247, 46, 96, 97, 2, 98, 646, 647, 648, 649, 650, 651, 109, 652, 334, 274, 275, 276, 43, 244, 339, 278, 279, 280, 44, 685, 686, 687, 688, 689, 690, 691, 692, 693, 694, 695, 696, 697, 698, 730, 731, 732, 733, 734] (by decide +kernel) (by decide +kernel)
set_option maxRecDepth 20000 in
theorem gL_law_X4_closes : GoodIn wsL_law (wsV RL 119 RX4 yX4_closes wsX4_closes) := goodIn_app (goodIn_of _ (by decide +kernel)) ggL_law_X4_closes
set_option maxRecDepth 20000 in
theorem ggL_law_X5_closes : GoodIn wsL_law wsX5_closes := goodIn_r _ [656, 235, 212, 80, 81, 252, 253, 254, 5, 255, 120, 121, 122, 502, 503, 504, 699, 700, 701, 702, 703, 704, 705, 706, 707, 708, 709, 710, 711, 712, 713, 714, 715, 716, 717, 718, 719, 720, 721, 722, 723, 724, 725, 726, 727, 728, 729] (by decide +kernel) (by decide +kernel)
set_option maxRecDepth 20000 in
theorem gL_law_X5_closes : GoodIn wsL_law (wsV RL 122 RX5 yX5_closes wsX5_closes) := goodIn_app (goodIn_of _ (by decide +kernel)) ggL_law_X5_closes
set_option maxRecDepth 20000 in
theorem ggL_law_X4_count : GoodIn wsL_law wsX4_count := goodIn_r _ [660, 17, 29, 30, 31, 32, 35, 34, 33, 344, 313, 2, 314, 685, 686, 687, 688, 689, 690, 691, 692, 693, 694, 695, 696, 697, 698, 730, 731, 732, 733, 734] (by decide +kernel) (by decide +kernel)
set_option maxRecDepth 20000 in
theorem gL_law_X4_count : GoodIn wsL_law (wsV RL 123 RX4 yX4_count wsX4_count) := goodIn_app (goodIn_of _ (by decide +kernel)) ggL_law_X4_count
set_option maxRecDepth 20000 in
theorem ggL_law_X5_count : GoodIn wsL_law wsX5_count := goodIn_r _ [664, 212, 78, 355, 378, 437, 127, 84, 83, 699, 700, 701, 702, 703, 704, 705, 706, 707, 708, 709, 710, 711, 712, 713, 714, 715, 716, 717, 718, 719, 720, 721, 722, 723, 724, 725, 726, 727, 728, 729] (by decide +kernel) (by decide +kernel)
set_option maxRecDepth 20000 in
theorem gL_law_X5_count : GoodIn wsL_law (wsV RL 126 RX5 yX5_count wsX5_count) := goodIn_app (goodIn_of _ (by decide +kernel)) ggL_law_X5_count
set_option maxRecDepth 20000 in
theorem ggL_law_X4_digest : GoodIn wsL_law wsX4_digest := goodIn_r _ [668, 669, 670, 17, 671, 658, 659, 2, 660, 29, 30, 31, 32, 35, 34, 33, 344, 313, 314, 672, 673, 674, 675, 26, 676, 265, 266, 267, 177, 268, 245, 246, 16, 247, 46, 269, 270, 271, 272, 42, 244, 273, 274, 275, 276, 43, 277, 278, 279, 280, 44, 281, 282, 283, 284, 45, 285, 286, 287, 288, 25, 21, 289, 290, 291, 292, 24, 293, 58, 59, 60, 61, 294, 295, 296, 297, 298, 299, 300, 301, 13, 89, 90, 91, 92, 302, 303, 304, 37, 305, 67, 65, 306, 307, 308, 20, 309, 50, 51, 52, 53, 54, 310, 311, 312, 315, 316, 317, 318, 319, 320, 321, 322, 323, 324, 325, 326, 327, 328, 329, 330, 331, 332, 333, 334, 335, 336, 337, 338, 339, 340, 341, 342, 343, 478, 479, 480, 481, 482, 483, 484, 485, 96, 97, 98, 451, 452, 453, 509, 510, 511, 512, 513, 514, 515, 516, 603, 396, 397, 398, 604, 400, 401, 402, 685, 686, 687, 688, 689, 690, 691, 692, 693, 694, 695, 696, 697, 698, 730, 731, 732, 733, 734, 735, 736, 737, 738, 739, 740, 741, 742, 743, 744, 745, 746] (by decide +kernel) (by decide +kernel)
set_option maxRecDepth 20000 in
theorem gL_law_X4_digest : GoodIn wsL_law (wsV RL 127 RX4 yX4_digest wsX4_digest) := goodIn_app (goodIn_of _ (by decide +kernel)) ggL_law_X4_digest
set_option maxRecDepth 20000 in
theorem ggL_law_X5_digest : GoodIn wsL_law wsX5_digest := goodIn_r _ [680, 681, 682, 212, 78, 521, 522, 683, 662, 663, 5, 664, 355, 378, 437, 127, 84, 83, 684, 346, 347, 348, 186, 79, 80, 81, 82, 252, 253, 254, 255, 120, 121, 122, 349, 350, 351, 352, 353, 354, 356, 357, 358, 359, 360, 361, 362, 74, 75, 76, 363, 364, 365, 366, 367, 368, 369, 370, 371, 372, 373, 374, 375, 376, 377, 379, 380, 381, 382, 72, 73, 494, 495, 496, 497, 459, 498, 499, 500, 501, 502, 503, 504, 523, 524, 525, 526, 699, 700, 701, 702, 703, 704, 705, 706, 707, 708, 709, 710, 711, 712, 713, 714, 715, 716, 717, 718, 719, 720, 721, 722, 723, 724, 725, 726, 727, 728, 729] (by decide +kernel) (by decide +kernel)
set_option maxRecDepth 20000 in
theorem gL_law_X5_digest : GoodIn wsL_law (wsV RL 131 RX5 yX5_digest wsX5_digest) := goodIn_app (goodIn_of _ (by decide +kernel)) ggL_law_X5_digest
