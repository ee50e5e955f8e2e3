set_option maxRecDepth 20000 in
theorem ggL_law_X4_laws : GoodIn wsL_law wsX4_laws := goodIn_r _ [430, 431, 32, 33, 34, 96, 97, 2, 98, 685, 686, 687, 688, 689, 690, 691, 692, 693, 694, 695, 696, 697, 698] (by decide +kernel) (by decide +kernel)
set_option maxRecDepth 20000 in
theorem gL_law_X4_laws : GoodIn wsL_law (wsV RL 72 RX4 yX4_laws wsX4_laws) := goodIn_app (goodIn_of _ (by decide +kernel)) ggL_law_X4_laws
set_option maxRecDepth 20000 in
theorem ggL_law_X5_laws : GoodIn wsL_law wsX5_laws := goodIn_r _ [435, 211, 436, 437, 83, 84, 120, 121, 5, 122, 699, 700, 701, 702, 703, 704, 705, 706, 707, 708, 709, 710, 711, 712, 713, 714, 715, 716, 717, 718, 719, 720, 721, 722, 723, 724, 725, 726, 727, 728, 729] (by decide +kernel) (by decide +kernel)
set_option maxRecDepth 20000 in
theorem gL_law_X5_laws : GoodIn wsL_law (wsV RL 76 RX5 yX5_laws wsX5_laws) := goodIn_app (goodIn_of _ (by decide +kernel)) ggL_law_X5_laws
set_option maxRecDepth 20000 in
theorem ggL_law_X4_answer : GoodIn wsL_law wsX4_answer := goodIn_r _ [441, 21, 177, 306, 307, 308, 20, 309, 50, 51, 52, 53, 54, 310, 311, 312, 313, 2, 314, 344, 685, 686, 687, 688, 689, 690, 691, 692, 693, 694, 695, 696, 697, 698, 735, 736, 737, 738, 739] (by decide +kernel) (by decide +kernel)
set_option maxRecDepth 20000 in
theorem gL_law_X4_answer : GoodIn wsL_law (wsV RL 77 RX4 yX4_answer wsX4_answer) := goodIn_app (goodIn_of _ (by decide +kernel)) ggL_law_X4_answer
set_option maxRecDepth 20000 in
theorem ggL_law_X5_answer : GoodIn wsL_law wsX5_answer := goodIn_r _ [445, 446, 186, 371, 372, 373, 370, 120, 121, 5, 122, 363, 364, 365, 366, 367, 368, 369, 699, 700, 701, 702, 703, 704, 705, 706, 707, 708, 709, 710, 711, 712, 713, 714, 715, 716, 717, 718, 719, 720, 721, 722, 723, 724, 725, 726, 727, 728, 729] (by decide +kernel) (by decide +kernel)
set_option maxRecDepth 20000 in
theorem gL_law_X5_answer : GoodIn wsL_law (wsV RL 80 RX5 yX5_answer wsX5_answer) := goodIn_app (goodIn_of _ (by decide +kernel)) ggL_law_X5_answer
set_option maxRecDepth 20000 in
theorem ggL_law_X4_beam : GoodIn wsL_law wsX4_beam := goodIn_r _ [450, 223, 224, 177, 451, 452, 2, 453, 96, 97, 98] (by decide +kernel) (by decide +kernel)
set_option maxRecDepth 20000 in
theorem gL_law_X4_beam : GoodIn wsL_law (wsV RL 81 RX4 yX4_beam wsX4_beam) := goodIn_app (goodIn_of _ (by decide +kernel)) ggL_law_X4_beam
set_option maxRecDepth 20000 in
theorem ggL_law_X5_beam : GoodIn wsL_law wsX5_beam := goodIn_r _ [457, 458, 459, 234, 235, 446, 186, 120, 121, 5, 122] (by decide +kernel) (by decide +kernel)
set_option maxRecDepth 20000 in
theorem gL_law_X5_beam : GoodIn wsL_law (wsV RL 84 RX5 yX5_beam wsX5_beam) := goodIn_app (goodIn_of _ (by decide +kernel)) ggL_law_X5_beam
set_option maxRecDepth 20000 in
theorem ggL_law_X4_turned : GoodIn wsL_law wsX4_turned := goodIn_r _ [463, 177, 220, 221, 2, 222, 223, 224, 96, 97, 98, 217, 218, 219, 464, 319, 320, 321, 322, 323, 324, 325, 326, 327, 465, 328, 329] (by decide +kernel) (by decide +kernel)
set_option maxRecDepth 20000 in
theorem gL_law_X4_turned : GoodIn wsL_law (wsV RL 85 RX4 yX4_turned wsX4_turned) := goodIn_app (goodIn_of _ (by decide +kernel)) ggL_law_X4_turned
