set_option maxRecDepth 20000 in
theorem ggL_law_X4_ping : GoodIn wsL_law wsX4_ping := goodIn_r _ [216, 17, 217, 218, 2, 219, 96, 97, 98, 220, 221, 222, 223, 224, 225, 226, 227, 16, 228, 46, 42, 43, 44, 45, 685, 686, 687, 688, 689, 690, 691, 692, 693, 694, 695, 696, 697, 698, 730, 731, 732, 733, 734] (by decide +kernel) (by decide +kernel)
set_option maxRecDepth 20000 in
theorem gL_law_X4_ping : GoodIn wsL_law (wsV RL 41 RX4 yX4_ping wsX4_ping) := goodIn_app (goodIn_of _ (by decide +kernel)) ggL_law_X4_ping
set_option maxRecDepth 20000 in
theorem ggL_law_X5_ping : GoodIn wsL_law wsX5_ping := goodIn_r _ [232, 233, 234, 235, 211, 212, 79, 80, 81, 82, 120, 121, 5, 122, 699, 700, 701, 702, 703, 704, 705, 706, 707, 708, 709, 710, 711, 712, 713, 714, 715, 716, 717, 718, 719, 720, 721, 722, 723, 724, 725, 726, 727, 728, 729] (by decide +kernel) (by decide +kernel)
set_option maxRecDepth 20000 in
theorem gL_law_X5_ping : GoodIn wsL_law (wsV RL 44 RX5 yX5_ping wsX5_ping) := goodIn_app (goodIn_of _ (by decide +kernel)) ggL_law_X5_ping
set_option maxRecDepth 20000 in
theorem ggL_law_X4_mend : GoodIn wsL_law wsX4_mend := goodIn_r _ [239, 17, 217, 218, 2, 219, 96, 97, 98, 240, 241, 242, 16, 243, 42, 244, 245, 246, 247, 46, 685, 686, 687, 688, 689, 690, 691, 692, 693, 694, 695, 696, 697, 698, 730, 731, 732, 733, 734] (by decide +kernel) (by decide +kernel)
set_option maxRecDepth 20000 in
theorem gL_law_X4_mend : GoodIn wsL_law (wsV RL 45 RX4 yX4_mend wsX4_mend) := goodIn_app (goodIn_of _ (by decide +kernel)) ggL_law_X4_mend
set_option maxRecDepth 20000 in
theorem ggL_law_X5_mend : GoodIn wsL_law wsX5_mend := goodIn_r _ [251, 233, 79, 252, 253, 254, 5, 255, 212, 120, 121, 122, 699, 700, 701, 702, 703, 704, 705, 706, 707, 708, 709, 710, 711, 712, 713, 714, 715, 716, 717, 718, 719, 720, 721, 722, 723, 724, 725, 726, 727, 728, 729] (by decide +kernel) (by decide +kernel)
set_option maxRecDepth 20000 in
theorem gL_law_X5_mend : GoodIn wsL_law (wsV RL 49 RX5 yX5_mend wsX5_mend) := goodIn_app (goodIn_of _ (by decide +kernel)) ggL_law_X5_mend
set_option maxRecDepth 20000 in
theorem ggL_law_X4_clear : GoodIn wsL_law wsX4_clear := goodIn_r _ [259, 17, 685, 686, 687, 688, 689, 690, 691, 692, 693, 694, 695, 696, 697, 698, 730, 731, 732, 733, 734] (by decide +kernel) (by decide +kernel)
set_option maxRecDepth 20000 in
theorem gL_law_X4_clear : GoodIn wsL_law (wsV RL 50 RX4 yX4_clear wsX4_clear) := goodIn_app (goodIn_of _ (by decide +kernel)) ggL_law_X4_clear
set_option maxRecDepth 20000 in
theorem ggL_law_X5_clear : GoodIn wsL_law wsX5_clear := goodIn_r _ [263, 212, 699, 700, 701, 702, 703, 704, 705, 706, 707, 708, 709, 710, 711, 712, 713, 714, 715, 716, 717, 718, 719, 720, 721, 722, 723, 724, 725, 726, 727, 728, 729] (by decide +kernel) (by decide +kernel)
set_option maxRecDepth 20000 in
theorem gL_law_X5_clear : GoodIn wsL_law (wsV RL 54 RX5 yX5_clear wsX5_clear) := goodIn_app (goodIn_of _ (by decide +kernel)) ggL_law_X5_clear
set_option maxRecDepth 20000 in
theorem ggL_law_X4_about : GoodIn wsL_law wsX4_about := goodIn_r _ [267, 17, 177, 268, 245, 246, 16, 247, 46, 269, 270, 271, 272, 42, 244, 273, 274, 275, 276, 43, 277, 278, 279, 280, 44, 281, 282, 283, 284, 45, 285, 286, 287, 2, 288, 25, 30, 21, 289, 290, 291, 292, 24, 293, 58, 59, 60, 61, 294, 295, 296, 297, 298, 299, 300, 301, 13, 89, 90, 91, 92, 302, 303, 304, 37, 305, 67, 65, 306, 307, 308, 20, 309, 50, 51, 52, 53, 54, 310, 311, 312, 313, 314, 315, 316, 317, 318, 319, 320, 321, 322, 323, 324, 325, 326, 327, 328, 329, 330, 331, 332, 333, 334, 335, 336, 337, 338, 339, 340, 341, 342, 343, 344, 685, 686, 687, 688, 689, 690, 691, 692, 693, 694, 695, 696, 697, 698, 730, 731, 732, 733, 734, 735, 736, 737, 738, 739, 740, 741, 742, 743, 744, 745, 746] (by decide +kernel) (by decide +kernel)
set_option maxRecDepth 20000 in
theorem gL_law_X4_about : GoodIn wsL_law (wsV RL 55 RX4 yX4_about wsX4_about) := goodIn_app (goodIn_of _ (by decide +kernel)) ggL_law_X4_about
