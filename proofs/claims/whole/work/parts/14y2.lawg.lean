set_option maxRecDepth 20000 in
theorem ggL_law_X5_put : GoodIn wsL_law wsX5_put := goodIn_r _ [168, 115, 76, 116, 117, 5, 118, 119, 120, 121, 122, 169, 170, 171, 172, 74, 75, 123, 124, 125, 126, 127, 699, 700, 701, 702, 703, 704, 705, 706, 707, 708, 709, 710, 711, 712, 713, 714, 715, 716, 717, 718, 719, 720, 721, 722, 723, 724, 725, 726, 727, 728, 729] (by decide +kernel) (by decide +kernel)
set_option maxRecDepth 20000 in
theorem gL_law_X5_put : GoodIn wsL_law (wsV RL 27 RX5 yX5_put wsX5_put) := goodIn_app (goodIn_of _ (by decide +kernel)) ggL_law_X5_put
set_option maxRecDepth 20000 in
theorem ggL_law_X4_get : GoodIn wsL_law wsX4_get := goodIn_r _ [176, 177, 13, 89, 90, 91, 2, 92, 93, 94, 95, 96, 97, 98, 148, 149, 150, 37, 151, 66, 152, 133, 134, 135, 153, 154, 155, 156, 67, 99, 100, 101, 102, 35, 178, 179, 180, 181, 65, 685, 686, 687, 688, 689, 690, 691, 692, 693, 694, 695, 696, 697, 698, 744, 745, 746] (by decide +kernel) (by decide +kernel)
set_option maxRecDepth 20000 in
theorem gL_law_X4_get : GoodIn wsL_law (wsV RL 28 RX4 yX4_get wsX4_get) := goodIn_app (goodIn_of _ (by decide +kernel)) ggL_law_X4_get
set_option maxRecDepth 20000 in
theorem ggL_law_X5_get : GoodIn wsL_law wsX5_get := goodIn_r _ [185, 115, 186, 76, 116, 117, 5, 118, 119, 120, 121, 122, 169, 170, 171, 172, 74, 75, 123, 124, 125, 126, 127, 699, 700, 701, 702, 703, 704, 705, 706, 707, 708, 709, 710, 711, 712, 713, 714, 715, 716, 717, 718, 719, 720, 721, 722, 723, 724, 725, 726, 727, 728, 729] (by decide +kernel) (by decide +kernel)
set_option maxRecDepth 20000 in
theorem gL_law_X5_get : GoodIn wsL_law (wsV RL 31 RX5 yX5_get wsX5_get) := goodIn_app (goodIn_of _ (by decide +kernel)) ggL_law_X5_get
set_option maxRecDepth 20000 in
theorem ggL_law_X4_copy : GoodIn wsL_law wsX4_copy := goodIn_r _ [190, 13, 191, 192, 193, 194, 89, 90, 91, 2, 92, 132, 133, 134, 37, 135, 66, 99, 100, 101, 102, 35, 195, 196, 197, 198, 67, 685, 686, 687, 688, 689, 690, 691, 692, 693, 694, 695, 696, 697, 698, 744, 745, 746] (by decide +kernel) (by decide +kernel)
set_option maxRecDepth 20000 in
theorem gL_law_X4_copy : GoodIn wsL_law (wsV RL 32 RX4 yX4_copy wsX4_copy) := goodIn_app (goodIn_of _ (by decide +kernel)) ggL_law_X4_copy
set_option maxRecDepth 20000 in
theorem ggL_law_X5_copy : GoodIn wsL_law wsX5_copy := goodIn_r _ [202, 74, 75, 77, 76, 116, 117, 5, 118, 119, 120, 121, 122, 123, 124, 125, 126, 127, 699, 700, 701, 702, 703, 704, 705, 706, 707, 708, 709, 710, 711, 712, 713, 714, 715, 716, 717, 718, 719, 720, 721, 722, 723, 724, 725, 726, 727, 728, 729] (by decide +kernel) (by decide +kernel)
set_option maxRecDepth 20000 in
theorem gL_law_X5_copy : GoodIn wsL_law (wsV RL 36 RX5 yX5_copy wsX5_copy) := goodIn_app (goodIn_of _ (by decide +kernel)) ggL_law_X5_copy
set_option maxRecDepth 20000 in
theorem ggL_law_X4_cells : GoodIn wsL_law wsX4_cells := goodIn_r _ [206, 17, 29, 96, 97, 2, 98, 685, 686, 687, 688, 689, 690, 691, 692, 693, 694, 695, 696, 697, 698, 730, 731, 732, 733, 734] (by decide +kernel) (by decide +kernel)
set_option maxRecDepth 20000 in
theorem gL_law_X4_cells : GoodIn wsL_law (wsV RL 37 RX4 yX4_cells wsX4_cells) := goodIn_app (goodIn_of _ (by decide +kernel)) ggL_law_X4_cells
set_option maxRecDepth 20000 in
theorem ggL_law_X5_cells : GoodIn wsL_law wsX5_cells := goodIn_r _ [210, 211, 212, 78, 120, 121, 5, 122, 699, 700, 701, 702, 703, 704, 705, 706, 707, 708, 709, 710, 711, 712, 713, 714, 715, 716, 717, 718, 719, 720, 721, 722, 723, 724, 725, 726, 727, 728, 729] (by decide +kernel) (by decide +kernel)
set_option maxRecDepth 20000 in
theorem gL_law_X5_cells : GoodIn wsL_law (wsV RL 40 RX5 yX5_cells wsX5_cells) := goodIn_app (goodIn_of _ (by decide +kernel)) ggL_law_X5_cells
