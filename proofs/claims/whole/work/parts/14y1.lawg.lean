set_option maxRecDepth 20000 in
theorem ggL_law_X4_init : GoodIn wsL_law wsX4_init := goodIn_r _ [8, 9, 10, 11, 12, 13, 14, 15, 16, 17, 18, 19, 20, 21, 22, 23, 24, 25, 26, 27, 28, 29, 30, 31, 32, 33, 34, 35, 36, 37, 38, 39, 40, 41, 42, 43, 44, 45, 46, 47, 48, 49, 50, 51, 52, 53, 54, 55, 56, 57, 58, 59, 60, 61, 62, 63, 64, 65, 66, 67, 685, 686, 687, 688, 689, 690, 691, 692, 693, 694, 695, 696, 697, 698, 730, 731, 732, 733, 734, 735, 736, 737, 738, 739, 740, 741, 742, 743, 744, 745, 746] (by decide +kernel) (by decide +kernel)
set_option maxRecDepth 20000 in
theorem gL_law_X4_init : GoodIn wsL_law (wsX4_init) := ggL_law_X4_init
set_option maxRecDepth 20000 in
theorem ggL_law_X5_init : GoodIn wsL_law wsX5_init := goodIn_r _ [70, 71, 10, 11, 41, 72, 73, 74, 75, 76, 77, 78, 79, 80, 81, 82, 83, 84, 699, 700, 701, 702, 703, 704, 705, 706, 707, 708, 709, 710, 711, 712, 713, 714, 715, 716, 717, 718, 719, 720, 721, 722, 723, 724, 725, 726, 727, 728, 729] (by decide +kernel) (by decide +kernel)
set_option maxRecDepth 20000 in
theorem gL_law_X5_init : GoodIn wsL_law (wsX5_init) := ggL_law_X5_init
set_option maxRecDepth 20000 in
theorem ggL_law_X4_reel : GoodIn wsL_law wsX4_reel := goodIn_r _ [88, 13, 89, 90, 91, 2, 92, 93, 94, 95, 96, 97, 98, 99, 100, 101, 102, 35, 103, 104, 105, 37, 106, 66, 65, 107, 108, 109, 110, 67, 685, 686, 687, 688, 689, 690, 691, 692, 693, 694, 695, 696, 697, 698, 744, 745, 746] (by decide +kernel) (by decide +kernel)
set_option maxRecDepth 20000 in
theorem gL_law_X4_reel : GoodIn wsL_law (wsV RL 13 RX4 yX4_reel wsX4_reel) := goodIn_app (goodIn_of _ (by decide +kernel)) ggL_law_X4_reel
set_option maxRecDepth 20000 in
theorem ggL_law_X5_reel : GoodIn wsL_law wsX5_reel := goodIn_r _ [114, 115, 74, 75, 76, 116, 117, 5, 118, 119, 120, 121, 122, 123, 124, 125, 126, 127, 699, 700, 701, 702, 703, 704, 705, 706, 707, 708, 709, 710, 711, 712, 713, 714, 715, 716, 717, 718, 719, 720, 721, 722, 723, 724, 725, 726, 727, 728, 729] (by decide +kernel) (by decide +kernel)
set_option maxRecDepth 20000 in
theorem gL_law_X5_reel : GoodIn wsL_law (wsV RL 17 RX5 yX5_reel wsX5_reel) := goodIn_app (goodIn_of _ (by decide +kernel)) ggL_law_X5_reel
set_option maxRecDepth 20000 in
theorem ggL_law_X4_lose : GoodIn wsL_law wsX4_lose := goodIn_r _ [131, 13, 89, 90, 91, 2, 92, 132, 133, 134, 37, 135, 66, 99, 100, 101, 102, 35, 136, 137, 138, 139, 67, 685, 686, 687, 688, 689, 690, 691, 692, 693, 694, 695, 696, 697, 698, 744, 745, 746] (by decide +kernel) (by decide +kernel)
set_option maxRecDepth 20000 in
theorem gL_law_X4_lose : GoodIn wsL_law (wsV RL 18 RX4 yX4_lose wsX4_lose) := goodIn_app (goodIn_of _ (by decide +kernel)) ggL_law_X4_lose
set_option maxRecDepth 20000 in
theorem ggL_law_X5_lose : GoodIn wsL_law wsX5_lose := goodIn_r _ [143, 74, 75, 116, 117, 5, 118, 119, 120, 121, 122, 123, 124, 125, 126, 127, 699, 700, 701, 702, 703, 704, 705, 706, 707, 708, 709, 710, 711, 712, 713, 714, 715, 716, 717, 718, 719, 720, 721, 722, 723, 724, 725, 726, 727, 728, 729] (by decide +kernel) (by decide +kernel)
set_option maxRecDepth 20000 in
theorem gL_law_X5_lose : GoodIn wsL_law (wsV RL 22 RX5 yX5_lose wsX5_lose) := goodIn_app (goodIn_of _ (by decide +kernel)) ggL_law_X5_lose
set_option maxRecDepth 20000 in
theorem ggL_law_X4_put : GoodIn wsL_law wsX4_put := goodIn_r _ [147, 13, 89, 90, 91, 2, 92, 93, 94, 95, 96, 97, 98, 148, 149, 150, 37, 151, 66, 152, 133, 134, 135, 153, 154, 155, 156, 67, 99, 100, 101, 102, 35, 157, 158, 159, 160, 65, 161, 162, 163, 164, 685, 686, 687, 688, 689, 690, 691, 692, 693, 694, 695, 696, 697, 698, 744, 745, 746] (by decide +kernel) (by decide +kernel)
set_option maxRecDepth 20000 in
theorem gL_law_X4_put : GoodIn wsL_law (wsV RL 23 RX4 yX4_put wsX4_put) := goodIn_app (goodIn_of _ (by decide +kernel)) ggL_law_X4_put
