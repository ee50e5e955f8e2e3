theorem dX5_findOwn_95 : decode cX5_findOwn 95 = .ok (.iconst 0, 1) := by decide +kernel
theorem dX5_findOwn_96 : decode cX5_findOwn 96 = .ok (.ireturn, 1) := by decide +kernel
theorem dX5_findOwn_97 : decode cX5_findOwn 97 = .ok (.aload_n 0, 1) := by decide +kernel
theorem dX5_findOwn_98 : decode cX5_findOwn 98 = .ok (.ldc2_w 155, 3) := by decide +kernel
theorem dX5_findOwn_101 : decode cX5_findOwn 101 = .ok (.aload_n 0, 1) := by decide +kernel
theorem dX5_findOwn_102 : decode cX5_findOwn 102 = .ok (.getfield 35, 3) := by decide +kernel
theorem dX5_findOwn_105 : decode cX5_findOwn 105 = .ok (.iload_n 1, 1) := by decide +kernel
theorem dX5_findOwn_106 : decode cX5_findOwn 106 = .ok (.iconst 1, 1) := by decide +kernel
theorem dX5_findOwn_107 : decode cX5_findOwn 107 = .ok (.iadd, 1) := by decide +kernel
theorem dX5_findOwn_108 : decode cX5_findOwn 108 = .ok (.iaload, 1) := by decide +kernel
theorem dX5_findOwn_109 : decode cX5_findOwn 109 = .ok (.aload_n 0, 1) := by decide +kernel
theorem dX5_findOwn_110 : decode cX5_findOwn 110 = .ok (.getfield 35, 3) := by decide +kernel
theorem dX5_findOwn_113 : decode cX5_findOwn 113 = .ok (.iload_n 1, 1) := by decide +kernel
theorem dX5_findOwn_114 : decode cX5_findOwn 114 = .ok (.iaload, 1) := by decide +kernel
theorem dX5_findOwn_115 : decode cX5_findOwn 115 = .ok (.isub, 1) := by decide +kernel
theorem dX5_findOwn_116 : decode cX5_findOwn 116 = .ok (.i2l, 1) := by decide +kernel
theorem dX5_findOwn_117 : decode cX5_findOwn 117 = .ok (.lmul, 1) := by decide +kernel
theorem dX5_findOwn_118 : decode cX5_findOwn 118 = .ok (.putfield 141, 3) := by decide +kernel
theorem dX5_findOwn_121 : decode cX5_findOwn 121 = .ok (.aload_n 0, 1) := by decide +kernel
theorem dX5_findOwn_122 : decode cX5_findOwn 122 = .ok (.ldc2_w 155, 3) := by decide +kernel
theorem dX5_findOwn_125 : decode cX5_findOwn 125 = .ok (.aload_n 0, 1) := by decide +kernel
theorem dX5_findOwn_126 : decode cX5_findOwn 126 = .ok (.getfield 38, 3) := by decide +kernel
theorem dX5_findOwn_129 : decode cX5_findOwn 129 = .ok (.iload_n 1, 1) := by decide +kernel
theorem dX5_findOwn_130 : decode cX5_findOwn 130 = .ok (.iconst 1, 1) := by decide +kernel
theorem dX5_findOwn_131 : decode cX5_findOwn 131 = .ok (.iadd, 1) := by decide +kernel
theorem dX5_findOwn_132 : decode cX5_findOwn 132 = .ok (.iaload, 1) := by decide +kernel
theorem dX5_findOwn_133 : decode cX5_findOwn 133 = .ok (.aload_n 0, 1) := by decide +kernel
theorem dX5_findOwn_134 : decode cX5_findOwn 134 = .ok (.getfield 38, 3) := by decide +kernel
theorem dX5_findOwn_137 : decode cX5_findOwn 137 = .ok (.iload_n 1, 1) := by decide +kernel
theorem dX5_findOwn_138 : decode cX5_findOwn 138 = .ok (.iaload, 1) := by decide +kernel
theorem dX5_findOwn_139 : decode cX5_findOwn 139 = .ok (.isub, 1) := by decide +kernel
theorem dX5_findOwn_140 : decode cX5_findOwn 140 = .ok (.i2l, 1) := by decide +kernel
theorem dX5_findOwn_141 : decode cX5_findOwn 141 = .ok (.lmul, 1) := by decide +kernel
theorem dX5_findOwn_142 : decode cX5_findOwn 142 = .ok (.putfield 144, 3) := by decide +kernel
theorem dX5_findOwn_145 : decode cX5_findOwn 145 = .ok (.iconst 1, 1) := by decide +kernel
theorem dX5_findOwn_146 : decode cX5_findOwn 146 = .ok (.ireturn, 1) := by decide +kernel
set_option maxRecDepth 20000 in
theorem ggX5_own_X5_isPing : GoodIn wsX5_own wsX5_isPing := goodIn_r _ [7, 8, 9, 10, 6, 11, 56, 57, 58, 59, 60, 61, 62, 63, 64, 65, 66, 67, 68, 69, 70, 71, 72, 73, 74, 75, 76, 77, 78, 79, 80, 81, 82, 83, 84, 85, 86] (by decide +kernel) (by decide +kernel)
set_option maxRecDepth 20000 in
theorem gX5_own_X5_isPing : GoodIn wsX5_own (wsV RX5 91 RX5 yX5_isPing wsX5_isPing) := goodIn_app (goodIn_of _ (by decide +kernel)) ggX5_own_X5_isPing
set_option maxRecDepth 20000 in
theorem ggX5_own_X5_in : GoodIn wsX5_own wsX5_in := goodIn_r _ [11] (by decide +kernel) (by decide +kernel)
set_option maxRecDepth 20000 in
theorem gX5_own_X5_in : GoodIn wsX5_own (va_wsS RX5 58 yX5_in wsX5_in) := goodIn_app (goodIn_of _ (by decide +kernel)) ggX5_own_X5_in
set_option maxRecDepth 20000 in
theorem ggX5_own_X5_no : GoodIn wsX5_own wsX5_no := goodIn_r _ [14, 15] (by decide +kernel) (by decide +kernel)
set_option maxRecDepth 20000 in
theorem gX5_own_X5_no : GoodIn wsX5_own (va_wsS RX5 157 yX5_no wsX5_no) := goodIn_app (goodIn_of _ (by decide +kernel)) ggX5_own_X5_no
set_option maxRecDepth 20000 in
theorem ggX5_own_X5_findOwn : GoodIn wsX5_own wsX5_findOwn := goodIn_r _ [19, 1, 2, 20, 21, 22, 8, 23, 24, 25, 26, 27, 28, 6, 29, 30, 31, 32, 33, 34, 35, 36, 37, 38, 39, 40, 41, 42, 43, 44, 45, 46, 47, 48, 49, 50, 51, 52, 53, 54, 55, 56, 57, 58, 59, 60, 61, 62, 63, 64, 65, 66, 67, 68, 69, 70, 71, 72, 73, 74, 75, 76, 77, 78, 79, 80, 81, 82, 83, 84, 85, 86] (by decide +kernel) (by decide +kernel)
set_option maxRecDepth 20000 in
theorem gX5_own_X5_findOwn : GoodIn wsX5_own (wsV RX5 94 RX5 yX5_findOwn wsX5_findOwn) := goodIn_app (goodIn_of _ (by decide +kernel)) ggX5_own_X5_findOwn
theorem dX5_own_0 : decode cX5_own 0 = .ok (.aload_n 0, 1) := by decide +kernel
theorem dX5_own_1 : decode cX5_own 1 = .ok (.iload_n 1, 1) := by decide +kernel
theorem dX5_own_2 : decode cX5_own 2 = .ok (.invokevirtual 91, 3) := by decide +kernel
theorem dX5_own_5 : decode cX5_own 5 = .ok (.ifCond .eq 13, 3) := by decide +kernel
theorem dX5_own_8 : decode cX5_own 8 = .ok (.iload_n 2, 1) := by decide +kernel
theorem dX5_own_9 : decode cX5_own 9 = .ok (.i2l, 1) := by decide +kernel
theorem dX5_own_10 : decode cX5_own 10 = .ok (.lconst 0, 1) := by decide +kernel
theorem dX5_own_11 : decode cX5_own 11 = .ok (.lconst 1, 1) := by decide +kernel
theorem dX5_own_12 : decode cX5_own 12 = .ok (.invokestatic 58, 3) := by decide +kernel
theorem dX5_own_15 : decode cX5_own 15 = .ok (.ifCond .ne 9, 3) := by decide +kernel
theorem dX5_own_18 : decode cX5_own 18 = .ok (.bipush (-2), 2) := by decide +kernel
theorem dX5_own_20 : decode cX5_own 20 = .ok (.invokestatic 157, 3) := by decide +kernel
theorem dX5_own_23 : decode cX5_own 23 = .ok (.lreturn, 1) := by decide +kernel
theorem dX5_own_24 : decode cX5_own 24 = .ok (.aload_n 0, 1) := by decide +kernel
theorem dX5_own_25 : decode cX5_own 25 = .ok (.iload_n 1, 1) := by decide +kernel
theorem dX5_own_26 : decode cX5_own 26 = .ok (.invokevirtual 94, 3) := by decide +kernel
theorem dX5_own_29 : decode cX5_own 29 = .ok (.ifCond .ne 9, 3) := by decide +kernel
theorem dX5_own_32 : decode cX5_own 32 = .ok (.bipush (-3), 2) := by decide +kernel
theorem dX5_own_34 : decode cX5_own 34 = .ok (.invokestatic 157, 3) := by decide +kernel
theorem dX5_own_37 : decode cX5_own 37 = .ok (.lreturn, 1) := by decide +kernel
theorem dX5_own_38 : decode cX5_own 38 = .ok (.iload_n 2, 1) := by decide +kernel
theorem dX5_own_39 : decode cX5_own 39 = .ok (.ifCond .ne 10, 3) := by decide +kernel
theorem dX5_own_42 : decode cX5_own 42 = .ok (.aload_n 0, 1) := by decide +kernel
theorem dX5_own_43 : decode cX5_own 43 = .ok (.getfield 141, 3) := by decide +kernel
theorem dX5_own_46 : decode cX5_own 46 = .ok (.goto 7, 3) := by decide +kernel
theorem dX5_own_49 : decode cX5_own 49 = .ok (.aload_n 0, 1) := by decide +kernel
theorem dX5_own_50 : decode cX5_own 50 = .ok (.getfield 144, 3) := by decide +kernel
theorem dX5_own_53 : decode cX5_own 53 = .ok (.lreturn, 1) := by decide +kernel
set_option maxRecDepth 20000 in
theorem ggX5_cellAnswers_X5_reading : GoodIn wsX5_cellAnswers wsX5_reading := goodIn_r _ [6, 7, 8, 9, 10, 11, 5, 12, 21, 22, 23, 24, 25, 26, 27, 28, 29, 30, 31, 32, 33, 34, 35, 36, 37, 38, 39, 40, 41, 42, 43, 44, 45, 46, 47, 48, 49, 50, 51] (by decide +kernel) (by decide +kernel)
set_option maxRecDepth 20000 in
theorem gX5_cellAnswers_X5_reading : GoodIn wsX5_cellAnswers (wsV RX5 147 RX5 yX5_reading wsX5_reading) := goodIn_app (goodIn_of _ (by decide +kernel)) ggX5_cellAnswers_X5_reading
set_option maxRecDepth 20000 in
theorem ggX5_cellAnswers_X5_answers : GoodIn wsX5_cellAnswers wsX5_answers := goodIn_r _ [16, 17, 18, 19, 20, 21, 22, 23, 24, 25, 26, 27, 28, 29, 30, 31, 32, 33, 34, 35, 36, 37, 38, 39, 40, 41, 42, 43, 44, 45, 46, 47, 48, 49, 50, 51] (by decide +kernel) (by decide +kernel)
set_option maxRecDepth 20000 in
theorem gX5_cellAnswers_X5_answers : GoodIn wsX5_cellAnswers (wsV RX5 122 RX5 yX5_answers wsX5_answers) := goodIn_app (goodIn_of _ (by decide +kernel)) ggX5_cellAnswers_X5_answers
theorem dX5_cellAnswers_0 : decode cX5_cellAnswers 0 = .ok (.aload_n 0, 1) := by decide +kernel
theorem dX5_cellAnswers_1 : decode cX5_cellAnswers 1 = .ok (.getfield 28, 3) := by decide +kernel
theorem dX5_cellAnswers_4 : decode cX5_cellAnswers 4 = .ok (.iload_n 1, 1) := by decide +kernel
theorem dX5_cellAnswers_5 : decode cX5_cellAnswers 5 = .ok (.imul, 1) := by decide +kernel
theorem dX5_cellAnswers_6 : decode cX5_cellAnswers 6 = .ok (.iload_n 2, 1) := by decide +kernel
theorem dX5_cellAnswers_7 : decode cX5_cellAnswers 7 = .ok (.iadd, 1) := by decide +kernel
theorem dX5_cellAnswers_8 : decode cX5_cellAnswers 8 = .ok (.istore_n 3, 1) := by decide +kernel
theorem dX5_cellAnswers_9 : decode cX5_cellAnswers 9 = .ok (.aload_n 0, 1) := by decide +kernel
theorem dX5_cellAnswers_10 : decode cX5_cellAnswers 10 = .ok (.aload_n 0, 1) := by decide +kernel
theorem dX5_cellAnswers_11 : decode cX5_cellAnswers 11 = .ok (.iconst 0, 1) := by decide +kernel
theorem dX5_cellAnswers_12 : decode cX5_cellAnswers 12 = .ok (.iload_n 3, 1) := by decide +kernel
theorem dX5_cellAnswers_13 : decode cX5_cellAnswers 13 = .ok (.invokevirtual 147, 3) := by decide +kernel
theorem dX5_cellAnswers_16 : decode cX5_cellAnswers 16 = .ok (.aload_n 0, 1) := by decide +kernel
theorem dX5_cellAnswers_17 : decode cX5_cellAnswers 17 = .ok (.iconst 1, 1) := by decide +kernel
theorem dX5_cellAnswers_18 : decode cX5_cellAnswers 18 = .ok (.iload_n 3, 1) := by decide +kernel
theorem dX5_cellAnswers_19 : decode cX5_cellAnswers 19 = .ok (.invokevirtual 147, 3) := by decide +kernel
theorem dX5_cellAnswers_22 : decode cX5_cellAnswers 22 = .ok (.aload_n 0, 1) := by decide +kernel
theorem dX5_cellAnswers_23 : decode cX5_cellAnswers 23 = .ok (.iconst 2, 1) := by decide +kernel
theorem dX5_cellAnswers_24 : decode cX5_cellAnswers 24 = .ok (.iload_n 3, 1) := by decide +kernel
theorem dX5_cellAnswers_25 : decode cX5_cellAnswers 25 = .ok (.invokevirtual 147, 3) := by decide +kernel
theorem dX5_cellAnswers_28 : decode cX5_cellAnswers 28 = .ok (.aload_n 0, 1) := by decide +kernel
theorem dX5_cellAnswers_29 : decode cX5_cellAnswers 29 = .ok (.iconst 3, 1) := by decide +kernel
theorem dX5_cellAnswers_30 : decode cX5_cellAnswers 30 = .ok (.iload_n 3, 1) := by decide +kernel
theorem dX5_cellAnswers_31 : decode cX5_cellAnswers 31 = .ok (.invokevirtual 147, 3) := by decide +kernel
theorem dX5_cellAnswers_34 : decode cX5_cellAnswers 34 = .ok (.invokevirtual 122, 3) := by decide +kernel
theorem dX5_cellAnswers_37 : decode cX5_cellAnswers 37 = .ok (.ireturn, 1) := by decide +kernel
set_option maxRecDepth 20000 in
theorem ggX5_isCell_X5_isPing : GoodIn wsX5_isCell wsX5_isPing := goodIn_r _ [6, 7, 8, 9, 5, 10, 11, 12, 13, 14, 15, 16, 17, 18, 19, 20, 21, 22, 23, 24, 25, 26, 27, 28, 29, 30, 31, 32, 33, 34, 35, 36, 37, 38, 39, 40, 41] (by decide +kernel) (by decide +kernel)
set_option maxRecDepth 20000 in
theorem gX5_isCell_X5_isPing : GoodIn wsX5_isCell (wsV RX5 91 RX5 yX5_isPing wsX5_isPing) := goodIn_app (goodIn_of _ (by decide +kernel)) ggX5_isCell_X5_isPing
set_option maxRecDepth 20000 in
theorem ggX5_isCell_X5_in : GoodIn wsX5_isCell wsX5_in := goodIn_r _ [10] (by decide +kernel) (by decide +kernel)
set_option maxRecDepth 20000 in
theorem gX5_isCell_X5_in : GoodIn wsX5_isCell (va_wsS RX5 58 yX5_in wsX5_in) := goodIn_app (goodIn_of _ (by decide +kernel)) ggX5_isCell_X5_in
theorem dX5_isCell_0 : decode cX5_isCell 0 = .ok (.aload_n 0, 1) := by decide +kernel
theorem dX5_isCell_1 : decode cX5_isCell 1 = .ok (.iload_n 1, 1) := by decide +kernel
theorem dX5_isCell_2 : decode cX5_isCell 2 = .ok (.invokevirtual 91, 3) := by decide +kernel
theorem dX5_isCell_5 : decode cX5_isCell 5 = .ok (.ifCond .eq 23, 3) := by decide +kernel
theorem dX5_isCell_8 : decode cX5_isCell 8 = .ok (.iload_n 2, 1) := by decide +kernel
theorem dX5_isCell_9 : decode cX5_isCell 9 = .ok (.i2l, 1) := by decide +kernel
theorem dX5_isCell_10 : decode cX5_isCell 10 = .ok (.lconst 0, 1) := by decide +kernel
theorem dX5_isCell_11 : decode cX5_isCell 11 = .ok (.aload_n 0, 1) := by decide +kernel
theorem dX5_isCell_12 : decode cX5_isCell 12 = .ok (.getfield 28, 3) := by decide +kernel
theorem dX5_isCell_15 : decode cX5_isCell 15 = .ok (.iconst 1, 1) := by decide +kernel
theorem dX5_isCell_16 : decode cX5_isCell 16 = .ok (.isub, 1) := by decide +kernel
theorem dX5_isCell_17 : decode cX5_isCell 17 = .ok (.i2l, 1) := by decide +kernel
theorem dX5_isCell_18 : decode cX5_isCell 18 = .ok (.invokestatic 58, 3) := by decide +kernel
theorem dX5_isCell_21 : decode cX5_isCell 21 = .ok (.ifCond .eq 7, 3) := by decide +kernel
theorem dX5_isCell_24 : decode cX5_isCell 24 = .ok (.iconst 1, 1) := by decide +kernel
theorem dX5_isCell_25 : decode cX5_isCell 25 = .ok (.goto 4, 3) := by decide +kernel
theorem dX5_isCell_28 : decode cX5_isCell 28 = .ok (.iconst 0, 1) := by decide +kernel
theorem dX5_isCell_29 : decode cX5_isCell 29 = .ok (.ireturn, 1) := by decide +kernel
set_option maxRecDepth 20000 in
theorem ggX5_fateOf_X5_findOwn : GoodIn wsX5_fateOf wsX5_findOwn := goodIn_r _ [14, 15, 16, 17, 18, 19, 20, 21, 22, 23, 24, 25, 26, 13, 27, 28, 29, 30, 31, 32, 33, 34, 35, 36, 37, 3, 7, 9, 5, 38, 39, 40, 41, 42, 43, 44, 45, 46, 47, 48, 49, 58, 59, 60, 61, 62, 63, 64, 65, 66, 67, 68, 69, 70, 71, 72, 73, 74, 75, 76, 77, 78, 79, 80, 81, 82, 83, 84, 85, 86, 87, 88] (by decide +kernel) (by decide +kernel)
set_option maxRecDepth 20000 in
theorem gX5_fateOf_X5_findOwn : GoodIn wsX5_fateOf (wsV RX5 94 RX5 yX5_findOwn wsX5_findOwn) := goodIn_app (goodIn_of _ (by decide +kernel)) ggX5_fateOf_X5_findOwn
set_option maxRecDepth 20000 in
theorem ggX5_fateOf_X5_cellAnswers : GoodIn wsX5_fateOf wsX5_cellAnswers := goodIn_r _ [53, 54, 24, 25, 26, 13, 27, 28, 29, 30, 31, 32, 33, 34, 35, 36, 37, 3, 7, 9, 5, 58, 59, 60, 61, 62, 63, 64, 65, 66, 67, 68, 69, 70, 71, 72, 73, 74, 75, 76, 77, 78, 79, 80, 81, 82, 83, 84, 85, 86, 87, 88] (by decide +kernel) (by decide +kernel)
set_option maxRecDepth 20000 in
theorem gX5_fateOf_X5_cellAnswers : GoodIn wsX5_fateOf (wsV RX5 161 RX5 yX5_cellAnswers wsX5_cellAnswers) := goodIn_app (goodIn_of _ (by decide +kernel)) ggX5_fateOf_X5_cellAnswers
set_option maxRecDepth 20000 in
theorem ggX5_fateOf_X5_amount : GoodIn wsX5_fateOf wsX5_amount := goodIn_r _ [57] (by decide +kernel) (by decide +kernel)
set_option maxRecDepth 20000 in
theorem gX5_fateOf_X5_amount : GoodIn wsX5_fateOf (va_wsS RX5 165 yX5_amount wsX5_amount) := goodIn_app (goodIn_of _ (by decide +kernel)) ggX5_fateOf_X5_amount
theorem dX5_fateOf_0 : decode cX5_fateOf 0 = .ok (.aload_n 0, 1) := by decide +kernel
theorem dX5_fateOf_1 : decode cX5_fateOf 1 = .ok (.iload_n 1, 1) := by decide +kernel
theorem dX5_fateOf_2 : decode cX5_fateOf 2 = .ok (.invokevirtual 94, 3) := by decide +kernel
theorem dX5_fateOf_5 : decode cX5_fateOf 5 = .ok (.ifCond .ne 5, 3) := by decide +kernel
theorem dX5_fateOf_8 : decode cX5_fateOf 8 = .ok (.iconst 1, 1) := by decide +kernel
theorem dX5_fateOf_9 : decode cX5_fateOf 9 = .ok (.ireturn, 1) := by decide +kernel
theorem dX5_fateOf_10 : decode cX5_fateOf 10 = .ok (.aload_n 0, 1) := by decide +kernel
theorem dX5_fateOf_11 : decode cX5_fateOf 11 = .ok (.iload_n 1, 1) := by decide +kernel
theorem dX5_fateOf_12 : decode cX5_fateOf 12 = .ok (.iload_n 2, 1) := by decide +kernel
theorem dX5_fateOf_13 : decode cX5_fateOf 13 = .ok (.invokevirtual 161, 3) := by decide +kernel
theorem dX5_fateOf_16 : decode cX5_fateOf 16 = .ok (.ifCond .ne 5, 3) := by decide +kernel
theorem dX5_fateOf_19 : decode cX5_fateOf 19 = .ok (.iconst 2, 1) := by decide +kernel
theorem dX5_fateOf_20 : decode cX5_fateOf 20 = .ok (.ireturn, 1) := by decide +kernel
theorem dX5_fateOf_21 : decode cX5_fateOf 21 = .ok (.iload_n 2, 1) := by decide +kernel
theorem dX5_fateOf_22 : decode cX5_fateOf 22 = .ok (.aload_n 0, 1) := by decide +kernel
theorem dX5_fateOf_23 : decode cX5_fateOf 23 = .ok (.getfield 138, 3) := by decide +kernel
theorem dX5_fateOf_26 : decode cX5_fateOf 26 = .ok (.iadd, 1) := by decide +kernel
theorem dX5_fateOf_27 : decode cX5_fateOf 27 = .ok (.aload_n 0, 1) := by decide +kernel
theorem dX5_fateOf_28 : decode cX5_fateOf 28 = .ok (.getfield 41, 3) := by decide +kernel
theorem dX5_fateOf_31 : decode cX5_fateOf 31 = .ok (.iload_n 1, 1) := by decide +kernel
theorem dX5_fateOf_32 : decode cX5_fateOf 32 = .ok (.iaload, 1) := by decide +kernel
theorem dX5_fateOf_33 : decode cX5_fateOf 33 = .ok (.if_icmp .lt 5, 3) := by decide +kernel
theorem dX5_fateOf_36 : decode cX5_fateOf 36 = .ok (.iconst 3, 1) := by decide +kernel
theorem dX5_fateOf_37 : decode cX5_fateOf 37 = .ok (.ireturn, 1) := by decide +kernel
theorem dX5_fateOf_38 : decode cX5_fateOf 38 = .ok (.aload_n 0, 1) := by decide +kernel
theorem dX5_fateOf_39 : decode cX5_fateOf 39 = .ok (.getfield 108, 3) := by decide +kernel
theorem dX5_fateOf_42 : decode cX5_fateOf 42 = .ok (.ifCond .le 12, 3) := by decide +kernel
theorem dX5_fateOf_45 : decode cX5_fateOf 45 = .ok (.aload_n 0, 1) := by decide +kernel
theorem dX5_fateOf_46 : decode cX5_fateOf 46 = .ok (.getfield 44, 3) := by decide +kernel
theorem dX5_fateOf_49 : decode cX5_fateOf 49 = .ok (.ifCond .ne 5, 3) := by decide +kernel
theorem dX5_fateOf_52 : decode cX5_fateOf 52 = .ok (.iconst 4, 1) := by decide +kernel
theorem dX5_fateOf_53 : decode cX5_fateOf 53 = .ok (.ireturn, 1) := by decide +kernel
theorem dX5_fateOf_54 : decode cX5_fateOf 54 = .ok (.aload_n 0, 1) := by decide +kernel
theorem dX5_fateOf_55 : decode cX5_fateOf 55 = .ok (.getfield 117, 3) := by decide +kernel
theorem dX5_fateOf_58 : decode cX5_fateOf 58 = .ok (.i2l, 1) := by decide +kernel
theorem dX5_fateOf_59 : decode cX5_fateOf 59 = .ok (.invokestatic 165, 3) := by decide +kernel
theorem dX5_fateOf_62 : decode cX5_fateOf 62 = .ok (.aload_n 0, 1) := by decide +kernel
theorem dX5_fateOf_63 : decode cX5_fateOf 63 = .ok (.getfield 48, 3) := by decide +kernel
theorem dX5_fateOf_66 : decode cX5_fateOf 66 = .ok (.i2l, 1) := by decide +kernel
theorem dX5_fateOf_67 : decode cX5_fateOf 67 = .ok (.lcmp, 1) := by decide +kernel
theorem dX5_fateOf_68 : decode cX5_fateOf 68 = .ok (.ifCond .le 5, 3) := by decide +kernel
theorem dX5_fateOf_71 : decode cX5_fateOf 71 = .ok (.iconst 5, 1) := by decide +kernel
theorem dX5_fateOf_72 : decode cX5_fateOf 72 = .ok (.ireturn, 1) := by decide +kernel
theorem dX5_fateOf_73 : decode cX5_fateOf 73 = .ok (.aload_n 0, 1) := by decide +kernel
theorem dX5_fateOf_74 : decode cX5_fateOf 74 = .ok (.getfield 111, 3) := by decide +kernel
theorem dX5_fateOf_77 : decode cX5_fateOf 77 = .ok (.i2l, 1) := by decide +kernel
theorem dX5_fateOf_78 : decode cX5_fateOf 78 = .ok (.invokestatic 165, 3) := by decide +kernel
theorem dX5_fateOf_81 : decode cX5_fateOf 81 = .ok (.ldc2_w 128, 3) := by decide +kernel
theorem dX5_fateOf_84 : decode cX5_fateOf 84 = .ok (.lcmp, 1) := by decide +kernel
theorem dX5_fateOf_85 : decode cX5_fateOf 85 = .ok (.ifCond .gt 18, 3) := by decide +kernel
theorem dX5_fateOf_88 : decode cX5_fateOf 88 = .ok (.aload_n 0, 1) := by decide +kernel
theorem dX5_fateOf_89 : decode cX5_fateOf 89 = .ok (.getfield 114, 3) := by decide +kernel
theorem dX5_fateOf_92 : decode cX5_fateOf 92 = .ok (.i2l, 1) := by decide +kernel
theorem dX5_fateOf_93 : decode cX5_fateOf 93 = .ok (.invokestatic 165, 3) := by decide +kernel
theorem dX5_fateOf_96 : decode cX5_fateOf 96 = .ok (.ldc2_w 128, 3) := by decide +kernel
theorem dX5_fateOf_99 : decode cX5_fateOf 99 = .ok (.lcmp, 1) := by decide +kernel
theorem dX5_fateOf_100 : decode cX5_fateOf 100 = .ok (.ifCond .le 8, 3) := by decide +kernel
theorem dX5_fateOf_103 : decode cX5_fateOf 103 = .ok (.bipush 6, 2) := by decide +kernel
theorem dX5_fateOf_105 : decode cX5_fateOf 105 = .ok (.goto 4, 3) := by decide +kernel
theorem dX5_fateOf_108 : decode cX5_fateOf 108 = .ok (.iconst 0, 1) := by decide +kernel
theorem dX5_fateOf_109 : decode cX5_fateOf 109 = .ok (.ireturn, 1) := by decide +kernel
set_option maxRecDepth 20000 in
theorem ggX5_fate_X5_isCell : GoodIn wsX5_fate wsX5_isCell := goodIn_r _ [5, 6, 7, 8, 9, 4, 10, 11, 12, 13, 14, 73, 74, 75, 76, 77, 78, 79, 80, 81, 82, 83, 84, 85, 86, 87, 88, 89, 90, 91, 92, 93, 94, 95, 96, 97, 98, 99, 100, 101, 102, 103] (by decide +kernel) (by decide +kernel)
set_option maxRecDepth 20000 in
theorem gX5_fate_X5_isCell : GoodIn wsX5_fate (wsV RX5 169 RX5 yX5_isCell wsX5_isCell) := goodIn_app (goodIn_of _ (by decide +kernel)) ggX5_fate_X5_isCell
set_option maxRecDepth 20000 in
theorem ggX5_fate_X5_fateOf : GoodIn wsX5_fate wsX5_fateOf := goodIn_r _ [18, 19, 20, 21, 22, 23, 24, 25, 26, 27, 28, 29, 30, 4, 31, 32, 33, 34, 35, 36, 11, 37, 38, 39, 40, 41, 42, 43, 44, 45, 46, 47, 48, 49, 50, 51, 52, 53, 54, 55, 56, 57, 58, 59, 60, 61, 62, 63, 64, 65, 66, 67, 68, 69, 6, 70, 71, 72, 73, 74, 75, 76, 77, 78, 79, 80, 81, 82, 83, 84, 85, 86, 87, 88, 89, 90, 91, 92, 93, 94, 95, 96, 97, 98, 99, 100, 101, 102, 103] (by decide +kernel) (by decide +kernel)
set_option maxRecDepth 20000 in
theorem gX5_fate_X5_fateOf : GoodIn wsX5_fate (wsV RX5 172 RX5 yX5_fateOf wsX5_fateOf) := goodIn_app (goodIn_of _ (by decide +kernel)) ggX5_fate_X5_fateOf
theorem dX5_fate_0 : decode cX5_fate 0 = .ok (.aload_n 0, 1) := by decide +kernel
theorem dX5_fate_1 : decode cX5_fate 1 = .ok (.iload_n 1, 1) := by decide +kernel
theorem dX5_fate_2 : decode cX5_fate 2 = .ok (.iload_n 2, 1) := by decide +kernel
theorem dX5_fate_3 : decode cX5_fate 3 = .ok (.invokevirtual 169, 3) := by decide +kernel
theorem dX5_fate_6 : decode cX5_fate 6 = .ok (.ifCond .eq 12, 3) := by decide +kernel
theorem dX5_fate_9 : decode cX5_fate 9 = .ok (.aload_n 0, 1) := by decide +kernel
theorem dX5_fate_10 : decode cX5_fate 10 = .ok (.iload_n 1, 1) := by decide +kernel
theorem dX5_fate_11 : decode cX5_fate 11 = .ok (.iload_n 2, 1) := by decide +kernel
theorem dX5_fate_12 : decode cX5_fate 12 = .ok (.invokevirtual 172, 3) := by decide +kernel
theorem dX5_fate_15 : decode cX5_fate 15 = .ok (.goto 5, 3) := by decide +kernel
theorem dX5_fate_18 : decode cX5_fate 18 = .ok (.bipush (-2), 2) := by decide +kernel
theorem dX5_fate_20 : decode cX5_fate 20 = .ok (.ireturn, 1) := by decide +kernel
set_option maxRecDepth 20000 in
theorem ggX5_findPace_X5_findOwn : GoodIn wsX5_findPace wsX5_findOwn := goodIn_r _ [11, 2, 5, 12, 1, 4, 13, 14, 15, 16, 17, 18, 19, 10, 20, 21, 22, 23, 24, 25, 26, 27, 28, 29, 30, 31, 32, 33, 34, 35, 36, 37, 38, 39, 40, 41, 42, 43, 44, 45, 46, 52, 53, 54, 55, 56, 57, 58, 59, 60, 61, 62, 63, 64, 65, 66, 67, 68, 69, 70, 71, 72, 73, 74, 75, 76, 77, 78, 79, 80, 81, 82] (by decide +kernel) (by decide +kernel)
set_option maxRecDepth 20000 in
theorem gX5_findPace_X5_findOwn : GoodIn wsX5_findPace (wsV RX5 94 RX5 yX5_findOwn wsX5_findOwn) := goodIn_app (goodIn_of _ (by decide +kernel)) ggX5_findPace_X5_findOwn
set_option maxRecDepth 20000 in
theorem ggX5_findPace_X5_cellAnswers : GoodIn wsX5_findPace wsX5_cellAnswers := goodIn_r _ [50, 51, 17, 18, 19, 10, 20, 21, 22, 23, 24, 25, 26, 27, 28, 29, 30, 31, 32, 33, 34, 52, 53, 54, 55, 56, 57, 58, 59, 60, 61, 62, 63, 64, 65, 66, 67, 68, 69, 70, 71, 72, 73, 74, 75, 76, 77, 78, 79, 80, 81, 82] (by decide +kernel) (by decide +kernel)
set_option maxRecDepth 20000 in
theorem gX5_findPace_X5_cellAnswers : GoodIn wsX5_findPace (wsV RX5 161 RX5 yX5_cellAnswers wsX5_cellAnswers) := goodIn_app (goodIn_of _ (by decide +kernel)) ggX5_findPace_X5_cellAnswers
set_option maxRecDepth 20000 in
theorem ggX5_findPace_X5_bring : GoodIn wsX5_findPace wsX5_bring := goodIn_r _ [38, 32, 33, 39, 1, 4, 40, 41, 42, 43, 10, 44, 45, 46, 52, 53, 54, 55, 56, 57, 58, 59, 60, 61, 62, 63, 64, 65, 66, 67, 68, 69, 70, 71, 72, 73, 74, 75, 76, 77, 78, 79, 80, 81, 82] (by decide +kernel) (by decide +kernel)
set_option maxRecDepth 20000 in
theorem gX5_findPace_X5_bring : GoodIn wsX5_findPace (wsV RX5 151 RX5 yX5_bring wsX5_bring) := goodIn_app (goodIn_of _ (by decide +kernel)) ggX5_findPace_X5_bring
theorem dX5_findPace_0 : decode cX5_findPace 0 = .ok (.aload_n 0, 1) := by decide +kernel
theorem dX5_findPace_1 : decode cX5_findPace 1 = .ok (.iload_n 1, 1) := by decide +kernel
theorem dX5_findPace_2 : decode cX5_findPace 2 = .ok (.invokevirtual 94, 3) := by decide +kernel
theorem dX5_findPace_5 : decode cX5_findPace 5 = .ok (.ifCond .eq 12, 3) := by decide +kernel
theorem dX5_findPace_8 : decode cX5_findPace 8 = .ok (.aload_n 0, 1) := by decide +kernel
theorem dX5_findPace_9 : decode cX5_findPace 9 = .ok (.iload_n 1, 1) := by decide +kernel
theorem dX5_findPace_10 : decode cX5_findPace 10 = .ok (.iload_n 2, 1) := by decide +kernel
theorem dX5_findPace_11 : decode cX5_findPace 11 = .ok (.invokevirtual 161, 3) := by decide +kernel
theorem dX5_findPace_14 : decode cX5_findPace 14 = .ok (.ifCond .ne 5, 3) := by decide +kernel
theorem dX5_findPace_17 : decode cX5_findPace 17 = .ok (.iconst 0, 1) := by decide +kernel
theorem dX5_findPace_18 : decode cX5_findPace 18 = .ok (.ireturn, 1) := by decide +kernel
theorem dX5_findPace_19 : decode cX5_findPace 19 = .ok (.aload_n 0, 1) := by decide +kernel
theorem dX5_findPace_20 : decode cX5_findPace 20 = .ok (.iload_n 1, 1) := by decide +kernel
theorem dX5_findPace_21 : decode cX5_findPace 21 = .ok (.invokevirtual 151, 3) := by decide +kernel
theorem dX5_findPace_24 : decode cX5_findPace 24 = .ok (.aload_n 0, 1) := by decide +kernel
theorem dX5_findPace_25 : decode cX5_findPace 25 = .ok (.aload_n 0, 1) := by decide +kernel
theorem dX5_findPace_26 : decode cX5_findPace 26 = .ok (.getfield 97, 3) := by decide +kernel
theorem dX5_findPace_29 : decode cX5_findPace 29 = .ok (.aload_n 0, 1) := by decide +kernel
theorem dX5_findPace_30 : decode cX5_findPace 30 = .ok (.getfield 141, 3) := by decide +kernel
theorem dX5_findPace_33 : decode cX5_findPace 33 = .ok (.lsub, 1) := by decide +kernel
theorem dX5_findPace_34 : decode cX5_findPace 34 = .ok (.putfield 175, 3) := by decide +kernel
theorem dX5_findPace_37 : decode cX5_findPace 37 = .ok (.aload_n 0, 1) := by decide +kernel
theorem dX5_findPace_38 : decode cX5_findPace 38 = .ok (.aload_n 0, 1) := by decide +kernel
theorem dX5_findPace_39 : decode cX5_findPace 39 = .ok (.getfield 101, 3) := by decide +kernel
theorem dX5_findPace_42 : decode cX5_findPace 42 = .ok (.aload_n 0, 1) := by decide +kernel
theorem dX5_findPace_43 : decode cX5_findPace 43 = .ok (.getfield 144, 3) := by decide +kernel
theorem dX5_findPace_46 : decode cX5_findPace 46 = .ok (.lsub, 1) := by decide +kernel
theorem dX5_findPace_47 : decode cX5_findPace 47 = .ok (.putfield 178, 3) := by decide +kernel
theorem dX5_findPace_50 : decode cX5_findPace 50 = .ok (.iconst 1, 1) := by decide +kernel
theorem dX5_findPace_51 : decode cX5_findPace 51 = .ok (.ireturn, 1) := by decide +kernel
set_option maxRecDepth 20000 in
theorem ggX5_pace_X5_isCell : GoodIn wsX5_pace wsX5_isCell := goodIn_r _ [7, 8, 9, 10, 11, 6, 12, 13, 14, 15, 16, 71, 72, 73, 74, 75, 76, 77, 78, 79, 80, 81, 82, 83, 84, 85, 86, 87, 88, 89, 90, 91, 92, 93, 94, 95, 96, 97, 98, 99, 100, 101] (by decide +kernel) (by decide +kernel)
set_option maxRecDepth 20000 in
theorem gX5_pace_X5_isCell : GoodIn wsX5_pace (wsV RX5 169 RX5 yX5_isCell wsX5_isCell) := goodIn_app (goodIn_of _ (by decide +kernel)) ggX5_pace_X5_isCell
set_option maxRecDepth 20000 in
theorem ggX5_pace_X5_in : GoodIn wsX5_pace wsX5_in := goodIn_r _ [16] (by decide +kernel) (by decide +kernel)
set_option maxRecDepth 20000 in
theorem gX5_pace_X5_in : GoodIn wsX5_pace (va_wsS RX5 58 yX5_in wsX5_in) := goodIn_app (goodIn_of _ (by decide +kernel)) ggX5_pace_X5_in
set_option maxRecDepth 20000 in
theorem ggX5_pace_X5_no : GoodIn wsX5_pace wsX5_no := goodIn_r _ [19, 20] (by decide +kernel) (by decide +kernel)
set_option maxRecDepth 20000 in
theorem gX5_pace_X5_no : GoodIn wsX5_pace (va_wsS RX5 157 yX5_no wsX5_no) := goodIn_app (goodIn_of _ (by decide +kernel)) ggX5_pace_X5_no
set_option maxRecDepth 20000 in
theorem ggX5_pace_X5_findPace : GoodIn wsX5_pace wsX5_findPace := goodIn_r _ [24, 25, 26, 1, 27, 28, 2, 29, 30, 31, 6, 32, 33, 13, 34, 35, 36, 37, 38, 39, 40, 41, 42, 43, 44, 45, 46, 47, 48, 49, 50, 51, 52, 53, 54, 55, 56, 57, 58, 59, 60, 61, 62, 63, 64, 65, 66, 67, 68, 69, 70, 8, 71, 72, 73, 74, 75, 76, 77, 78, 79, 80, 81, 82, 83, 84, 85, 86, 87, 88, 89, 90, 91, 92, 93, 94, 95, 96, 97, 98, 99, 100, 101] (by decide +kernel) (by decide +kernel)
set_option maxRecDepth 20000 in
theorem gX5_pace_X5_findPace : GoodIn wsX5_pace (wsV RX5 181 RX5 yX5_findPace wsX5_findPace) := goodIn_app (goodIn_of _ (by decide +kernel)) ggX5_pace_X5_findPace
theorem dX5_pace_0 : decode cX5_pace 0 = .ok (.aload_n 0, 1) := by decide +kernel
theorem dX5_pace_1 : decode cX5_pace 1 = .ok (.iload_n 1, 1) := by decide +kernel
theorem dX5_pace_2 : decode cX5_pace 2 = .ok (.iload_n 2, 1) := by decide +kernel
theorem dX5_pace_3 : decode cX5_pace 3 = .ok (.invokevirtual 169, 3) := by decide +kernel
theorem dX5_pace_6 : decode cX5_pace 6 = .ok (.ifCond .eq 13, 3) := by decide +kernel
theorem dX5_pace_9 : decode cX5_pace 9 = .ok (.iload_n 3, 1) := by decide +kernel
theorem dX5_pace_10 : decode cX5_pace 10 = .ok (.i2l, 1) := by decide +kernel
theorem dX5_pace_11 : decode cX5_pace 11 = .ok (.lconst 0, 1) := by decide +kernel
theorem dX5_pace_12 : decode cX5_pace 12 = .ok (.lconst 1, 1) := by decide +kernel
theorem dX5_pace_13 : decode cX5_pace 13 = .ok (.invokestatic 58, 3) := by decide +kernel
theorem dX5_pace_16 : decode cX5_pace 16 = .ok (.ifCond .ne 9, 3) := by decide +kernel
theorem dX5_pace_19 : decode cX5_pace 19 = .ok (.bipush (-2), 2) := by decide +kernel
theorem dX5_pace_21 : decode cX5_pace 21 = .ok (.invokestatic 157, 3) := by decide +kernel
theorem dX5_pace_24 : decode cX5_pace 24 = .ok (.lreturn, 1) := by decide +kernel
theorem dX5_pace_25 : decode cX5_pace 25 = .ok (.aload_n 0, 1) := by decide +kernel
theorem dX5_pace_26 : decode cX5_pace 26 = .ok (.iload_n 1, 1) := by decide +kernel
theorem dX5_pace_27 : decode cX5_pace 27 = .ok (.iload_n 2, 1) := by decide +kernel
theorem dX5_pace_28 : decode cX5_pace 28 = .ok (.invokevirtual 181, 3) := by decide +kernel
theorem dX5_pace_31 : decode cX5_pace 31 = .ok (.ifCond .ne 9, 3) := by decide +kernel
theorem dX5_pace_34 : decode cX5_pace 34 = .ok (.bipush (-3), 2) := by decide +kernel
theorem dX5_pace_36 : decode cX5_pace 36 = .ok (.invokestatic 157, 3) := by decide +kernel
theorem dX5_pace_39 : decode cX5_pace 39 = .ok (.lreturn, 1) := by decide +kernel
theorem dX5_pace_40 : decode cX5_pace 40 = .ok (.iload_n 3, 1) := by decide +kernel
theorem dX5_pace_41 : decode cX5_pace 41 = .ok (.ifCond .ne 10, 3) := by decide +kernel
theorem dX5_pace_44 : decode cX5_pace 44 = .ok (.aload_n 0, 1) := by decide +kernel
theorem dX5_pace_45 : decode cX5_pace 45 = .ok (.getfield 175, 3) := by decide +kernel
theorem dX5_pace_48 : decode cX5_pace 48 = .ok (.goto 7, 3) := by decide +kernel
theorem dX5_pace_51 : decode cX5_pace 51 = .ok (.aload_n 0, 1) := by decide +kernel
theorem dX5_pace_52 : decode cX5_pace 52 = .ok (.getfield 178, 3) := by decide +kernel
theorem dX5_pace_55 : decode cX5_pace 55 = .ok (.lreturn, 1) := by decide +kernel
set_option maxRecDepth 20000 in
theorem ggX5_fates_X5_in : GoodIn wsX5_fates wsX5_in := goodIn_r _ [7] (by decide +kernel) (by decide +kernel)
set_option maxRecDepth 20000 in
theorem gX5_fates_X5_in : GoodIn wsX5_fates (va_wsS RX5 58 yX5_in wsX5_in) := goodIn_app (goodIn_of _ (by decide +kernel)) ggX5_fates_X5_in
set_option maxRecDepth 20000 in
theorem ggX5_fates_X5_fateOf : GoodIn wsX5_fates wsX5_fateOf := goodIn_r _ [11, 12, 13, 14, 15, 16, 17, 18, 19, 20, 21, 22, 23, 6, 24, 25, 26, 27, 28, 29, 2, 30, 31, 32, 33, 34, 35, 36, 37, 38, 39, 40, 41, 42, 43, 44, 45, 46, 47, 48, 49, 50, 51, 52, 53, 54, 55, 56, 57, 58, 59, 60, 61, 62, 3, 63, 64, 65, 66, 67, 68, 69, 70, 71, 72, 73, 74, 75, 76, 77, 78, 79, 80, 81, 82, 83, 84, 85, 86, 87, 88, 89, 90, 91, 92, 93, 94, 95, 96] (by decide +kernel) (by decide +kernel)
set_option maxRecDepth 20000 in
theorem gX5_fates_X5_fateOf : GoodIn wsX5_fates (wsV RX5 172 RX5 yX5_fateOf wsX5_fateOf) := goodIn_app (goodIn_of _ (by decide +kernel)) ggX5_fates_X5_fateOf
theorem dX5_fates_0 : decode cX5_fates 0 = .ok (.iload_n 1, 1) := by decide +kernel
theorem dX5_fates_1 : decode cX5_fates 1 = .ok (.i2l, 1) := by decide +kernel
theorem dX5_fates_2 : decode cX5_fates 2 = .ok (.lconst 0, 1) := by decide +kernel
theorem dX5_fates_3 : decode cX5_fates 3 = .ok (.ldc2_w 184, 3) := by decide +kernel
theorem dX5_fates_6 : decode cX5_fates 6 = .ok (.invokestatic 58, 3) := by decide +kernel
theorem dX5_fates_9 : decode cX5_fates 9 = .ok (.ifCond .ne 6, 3) := by decide +kernel
theorem dX5_fates_12 : decode cX5_fates 12 = .ok (.bipush (-2), 2) := by decide +kernel
theorem dX5_fates_14 : decode cX5_fates 14 = .ok (.ireturn, 1) := by decide +kernel
theorem dX5_fates_15 : decode cX5_fates 15 = .ok (.iconst 0, 1) := by decide +kernel
theorem dX5_fates_16 : decode cX5_fates 16 = .ok (.istore_n 2, 1) := by decide +kernel
theorem dX5_fates_17 : decode cX5_fates 17 = .ok (.iconst 0, 1) := by decide +kernel
theorem dX5_fates_18 : decode cX5_fates 18 = .ok (.istore_n 3, 1) := by decide +kernel
theorem dX5_fates_19 : decode cX5_fates 19 = .ok (.iload_n 3, 1) := by decide +kernel
theorem dX5_fates_20 : decode cX5_fates 20 = .ok (.aload_n 0, 1) := by decide +kernel
theorem dX5_fates_21 : decode cX5_fates 21 = .ok (.getfield 82, 3) := by decide +kernel
theorem dX5_fates_24 : decode cX5_fates 24 = .ok (.if_icmp .ge 46, 3) := by decide +kernel
theorem dX5_fates_27 : decode cX5_fates 27 = .ok (.iconst 0, 1) := by decide +kernel
theorem dX5_fates_28 : decode cX5_fates 28 = .ok (.istore 4, 2) := by decide +kernel
theorem dX5_fates_30 : decode cX5_fates 30 = .ok (.iload 4, 2) := by decide +kernel
theorem dX5_fates_32 : decode cX5_fates 32 = .ok (.aload_n 0, 1) := by decide +kernel
theorem dX5_fates_33 : decode cX5_fates 33 = .ok (.getfield 28, 3) := by decide +kernel
theorem dX5_fates_36 : decode cX5_fates 36 = .ok (.if_icmp .ge 28, 3) := by decide +kernel
theorem dX5_fates_39 : decode cX5_fates 39 = .ok (.iload_n 2, 1) := by decide +kernel
theorem dX5_fates_40 : decode cX5_fates 40 = .ok (.aload_n 0, 1) := by decide +kernel
theorem dX5_fates_41 : decode cX5_fates 41 = .ok (.iload_n 3, 1) := by decide +kernel
theorem dX5_fates_42 : decode cX5_fates 42 = .ok (.iload 4, 2) := by decide +kernel
theorem dX5_fates_44 : decode cX5_fates 44 = .ok (.invokevirtual 172, 3) := by decide +kernel
theorem dX5_fates_47 : decode cX5_fates 47 = .ok (.iload_n 1, 1) := by decide +kernel
theorem dX5_fates_48 : decode cX5_fates 48 = .ok (.if_icmp .ne 7, 3) := by decide +kernel
theorem dX5_fates_51 : decode cX5_fates 51 = .ok (.iconst 1, 1) := by decide +kernel
theorem dX5_fates_52 : decode cX5_fates 52 = .ok (.goto 4, 3) := by decide +kernel
theorem dX5_fates_55 : decode cX5_fates 55 = .ok (.iconst 0, 1) := by decide +kernel
theorem dX5_fates_56 : decode cX5_fates 56 = .ok (.iadd, 1) := by decide +kernel
theorem dX5_fates_57 : decode cX5_fates 57 = .ok (.istore_n 2, 1) := by decide +kernel
theorem dX5_fates_58 : decode cX5_fates 58 = .ok (.iinc 4 1, 3) := by decide +kernel
theorem dX5_fates_61 : decode cX5_fates 61 = .ok (.goto (-31), 3) := by decide +kernel
theorem dX5_fates_64 : decode cX5_fates 64 = .ok (.iinc 3 1, 3) := by decide +kernel
theorem dX5_fates_67 : decode cX5_fates 67 = .ok (.goto (-48), 3) := by decide +kernel
theorem dX5_fates_70 : decode cX5_fates 70 = .ok (.iload_n 2, 1) := by decide +kernel
theorem dX5_fates_71 : decode cX5_fates 71 = .ok (.ireturn, 1) := by decide +kernel
set_option maxRecDepth 20000 in
theorem ggX5_gather_X5_fateOf : GoodIn wsX5_gather wsX5_fateOf := goodIn_r _ [10, 11, 12, 13, 14, 15, 16, 17, 18, 19, 20, 21, 22, 9, 23, 24, 25, 26, 27, 28, 29, 30, 31, 32, 33, 34, 35, 36, 37, 38, 39, 40, 41, 42, 43, 44, 45, 46, 47, 48, 49, 50, 51, 52, 53, 54, 55, 56, 57, 58, 59, 60, 61, 62, 63, 64, 65, 66, 71, 72, 73, 74, 75, 76, 77, 78, 79, 80, 81, 82, 83, 84, 85, 86, 87, 88, 89, 90, 91, 92, 93, 94, 95, 96, 97, 98, 99, 100, 101] (by decide +kernel) (by decide +kernel)
set_option maxRecDepth 20000 in
theorem gX5_gather_X5_fateOf : GoodIn wsX5_gather (wsV RX5 172 RX5 yX5_fateOf wsX5_fateOf) := goodIn_app (goodIn_of _ (by decide +kernel)) ggX5_gather_X5_fateOf
set_option maxRecDepth 20000 in
theorem ggX5_gather_X5_findPace : GoodIn wsX5_gather wsX5_findPace := goodIn_r _ [70, 27, 24, 4, 28, 25, 5, 20, 21, 22, 9, 23, 26, 29, 30, 31, 32, 33, 34, 35, 36, 37, 38, 39, 40, 41, 42, 43, 44, 45, 46, 13, 17, 19, 15, 47, 48, 49, 50, 51, 52, 53, 54, 55, 56, 57, 58, 59, 60, 61, 62, 63, 71, 72, 73, 74, 75, 76, 77, 78, 79, 80, 81, 82, 83, 84, 85, 86, 87, 88, 89, 90, 91, 92, 93, 94, 95, 96, 97, 98, 99, 100, 101] (by decide +kernel) (by decide +kernel)
set_option maxRecDepth 20000 in
theorem gX5_gather_X5_findPace : GoodIn wsX5_gather (wsV RX5 181 RX5 yX5_findPace wsX5_findPace) := goodIn_app (goodIn_of _ (by decide +kernel)) ggX5_gather_X5_findPace
theorem dX5_gather_0 : decode cX5_gather 0 = .ok (.aload_n 0, 1) := by decide +kernel
theorem dX5_gather_1 : decode cX5_gather 1 = .ok (.lconst 0, 1) := by decide +kernel
theorem dX5_gather_2 : decode cX5_gather 2 = .ok (.putfield 186, 3) := by decide +kernel
theorem dX5_gather_5 : decode cX5_gather 5 = .ok (.aload_n 0, 1) := by decide +kernel
theorem dX5_gather_6 : decode cX5_gather 6 = .ok (.lconst 0, 1) := by decide +kernel
theorem dX5_gather_7 : decode cX5_gather 7 = .ok (.putfield 189, 3) := by decide +kernel
theorem dX5_gather_10 : decode cX5_gather 10 = .ok (.aload_n 0, 1) := by decide +kernel
theorem dX5_gather_11 : decode cX5_gather 11 = .ok (.lconst 0, 1) := by decide +kernel
theorem dX5_gather_12 : decode cX5_gather 12 = .ok (.putfield 192, 3) := by decide +kernel
theorem dX5_gather_15 : decode cX5_gather 15 = .ok (.iload_n 1, 1) := by decide +kernel
theorem dX5_gather_16 : decode cX5_gather 16 = .ok (.istore 5, 2) := by decide +kernel
theorem dX5_gather_18 : decode cX5_gather 18 = .ok (.iload 5, 2) := by decide +kernel
theorem dX5_gather_20 : decode cX5_gather 20 = .ok (.iload_n 2, 1) := by decide +kernel
theorem dX5_gather_21 : decode cX5_gather 21 = .ok (.if_icmp .gt 83, 3) := by decide +kernel
theorem dX5_gather_24 : decode cX5_gather 24 = .ok (.iload_n 3, 1) := by decide +kernel
theorem dX5_gather_25 : decode cX5_gather 25 = .ok (.istore 6, 2) := by decide +kernel
theorem dX5_gather_27 : decode cX5_gather 27 = .ok (.iload 6, 2) := by decide +kernel
theorem dX5_gather_29 : decode cX5_gather 29 = .ok (.iload 4, 2) := by decide +kernel
theorem dX5_gather_31 : decode cX5_gather 31 = .ok (.if_icmp .gt 67, 3) := by decide +kernel
theorem dX5_gather_34 : decode cX5_gather 34 = .ok (.aload_n 0, 1) := by decide +kernel
theorem dX5_gather_35 : decode cX5_gather 35 = .ok (.iload 5, 2) := by decide +kernel
theorem dX5_gather_37 : decode cX5_gather 37 = .ok (.iload 6, 2) := by decide +kernel
theorem dX5_gather_39 : decode cX5_gather 39 = .ok (.invokevirtual 172, 3) := by decide +kernel
theorem dX5_gather_42 : decode cX5_gather 42 = .ok (.ifCond .ne 50, 3) := by decide +kernel
theorem dX5_gather_45 : decode cX5_gather 45 = .ok (.aload_n 0, 1) := by decide +kernel
theorem dX5_gather_46 : decode cX5_gather 46 = .ok (.iload 5, 2) := by decide +kernel
theorem dX5_gather_48 : decode cX5_gather 48 = .ok (.iload 6, 2) := by decide +kernel
theorem dX5_gather_50 : decode cX5_gather 50 = .ok (.invokevirtual 181, 3) := by decide +kernel
theorem dX5_gather_53 : decode cX5_gather 53 = .ok (.ifCond .eq 39, 3) := by decide +kernel
theorem dX5_gather_56 : decode cX5_gather 56 = .ok (.aload_n 0, 1) := by decide +kernel
theorem dX5_gather_57 : decode cX5_gather 57 = .ok (.dup, 1) := by decide +kernel
theorem dX5_gather_58 : decode cX5_gather 58 = .ok (.getfield 186, 3) := by decide +kernel
theorem dX5_gather_61 : decode cX5_gather 61 = .ok (.lconst 1, 1) := by decide +kernel
theorem dX5_gather_62 : decode cX5_gather 62 = .ok (.ladd, 1) := by decide +kernel
theorem dX5_gather_63 : decode cX5_gather 63 = .ok (.putfield 186, 3) := by decide +kernel
theorem dX5_gather_66 : decode cX5_gather 66 = .ok (.aload_n 0, 1) := by decide +kernel
theorem dX5_gather_67 : decode cX5_gather 67 = .ok (.dup, 1) := by decide +kernel
theorem dX5_gather_68 : decode cX5_gather 68 = .ok (.getfield 189, 3) := by decide +kernel
theorem dX5_gather_71 : decode cX5_gather 71 = .ok (.aload_n 0, 1) := by decide +kernel
theorem dX5_gather_72 : decode cX5_gather 72 = .ok (.getfield 175, 3) := by decide +kernel
theorem dX5_gather_75 : decode cX5_gather 75 = .ok (.ladd, 1) := by decide +kernel
theorem dX5_gather_76 : decode cX5_gather 76 = .ok (.putfield 189, 3) := by decide +kernel
theorem dX5_gather_79 : decode cX5_gather 79 = .ok (.aload_n 0, 1) := by decide +kernel
theorem dX5_gather_80 : decode cX5_gather 80 = .ok (.dup, 1) := by decide +kernel
theorem dX5_gather_81 : decode cX5_gather 81 = .ok (.getfield 192, 3) := by decide +kernel
theorem dX5_gather_84 : decode cX5_gather 84 = .ok (.aload_n 0, 1) := by decide +kernel
theorem dX5_gather_85 : decode cX5_gather 85 = .ok (.getfield 178, 3) := by decide +kernel
theorem dX5_gather_88 : decode cX5_gather 88 = .ok (.ladd, 1) := by decide +kernel
theorem dX5_gather_89 : decode cX5_gather 89 = .ok (.putfield 192, 3) := by decide +kernel
theorem dX5_gather_92 : decode cX5_gather 92 = .ok (.iinc 6 1, 3) := by decide +kernel
theorem dX5_gather_95 : decode cX5_gather 95 = .ok (.goto (-68), 3) := by decide +kernel
theorem dX5_gather_98 : decode cX5_gather 98 = .ok (.iinc 5 1, 3) := by decide +kernel
theorem dX5_gather_101 : decode cX5_gather 101 = .ok (.goto (-83), 3) := by decide +kernel
theorem dX5_gather_104 : decode cX5_gather 104 = .ok (.return_, 1) := by decide +kernel
set_option maxRecDepth 20000 in
theorem ggX5_isRow_X5_isPing : GoodIn wsX5_isRow wsX5_isPing := goodIn_r _ [5, 6, 7, 8, 4, 9, 10, 11, 12, 13, 14, 15, 16, 17, 18, 19, 20, 21, 22, 23, 24, 25, 26, 27, 28, 29, 30, 31, 32, 33, 34, 35, 36, 37, 38, 39, 40] (by decide +kernel) (by decide +kernel)
set_option maxRecDepth 20000 in
theorem gX5_isRow_X5_isPing : GoodIn wsX5_isRow (wsV RX5 91 RX5 yX5_isPing wsX5_isPing) := goodIn_app (goodIn_of _ (by decide +kernel)) ggX5_isRow_X5_isPing
theorem dX5_isRow_0 : decode cX5_isRow 0 = .ok (.aload_n 0, 1) := by decide +kernel
theorem dX5_isRow_1 : decode cX5_isRow 1 = .ok (.iload_n 1, 1) := by decide +kernel
theorem dX5_isRow_2 : decode cX5_isRow 2 = .ok (.invokevirtual 91, 3) := by decide +kernel
theorem dX5_isRow_5 : decode cX5_isRow 5 = .ok (.ifCond .eq 20, 3) := by decide +kernel
theorem dX5_isRow_8 : decode cX5_isRow 8 = .ok (.aload_n 0, 1) := by decide +kernel
theorem dX5_isRow_9 : decode cX5_isRow 9 = .ok (.iload_n 2, 1) := by decide +kernel
theorem dX5_isRow_10 : decode cX5_isRow 10 = .ok (.invokevirtual 91, 3) := by decide +kernel
theorem dX5_isRow_13 : decode cX5_isRow 13 = .ok (.ifCond .eq 12, 3) := by decide +kernel
theorem dX5_isRow_16 : decode cX5_isRow 16 = .ok (.iload_n 1, 1) := by decide +kernel
theorem dX5_isRow_17 : decode cX5_isRow 17 = .ok (.iload_n 2, 1) := by decide +kernel
theorem dX5_isRow_18 : decode cX5_isRow 18 = .ok (.if_icmp .gt 7, 3) := by decide +kernel
theorem dX5_isRow_21 : decode cX5_isRow 21 = .ok (.iconst 1, 1) := by decide +kernel
theorem dX5_isRow_22 : decode cX5_isRow 22 = .ok (.goto 4, 3) := by decide +kernel
theorem dX5_isRow_25 : decode cX5_isRow 25 = .ok (.iconst 0, 1) := by decide +kernel
theorem dX5_isRow_26 : decode cX5_isRow 26 = .ok (.ireturn, 1) := by decide +kernel
set_option maxRecDepth 20000 in
theorem ggX5_isBox_X5_isRow : GoodIn wsX5_isBox wsX5_isRow := goodIn_r _ [6, 7, 8, 9, 5, 10, 11, 12, 13, 14, 15, 16, 17, 18, 19, 20, 21, 22, 23, 24, 25, 26, 27, 28, 29, 30, 31, 32, 33, 34, 35, 36, 37, 38, 39, 40, 41, 42, 43, 44, 45] (by decide +kernel) (by decide +kernel)
set_option maxRecDepth 20000 in
theorem gX5_isBox_X5_isRow : GoodIn wsX5_isBox (wsV RX5 195 RX5 yX5_isRow wsX5_isRow) := goodIn_app (goodIn_of _ (by decide +kernel)) ggX5_isBox_X5_isRow
set_option maxRecDepth 20000 in
theorem ggX5_isBox_X5_in : GoodIn wsX5_isBox wsX5_in := goodIn_r _ [14] (by decide +kernel) (by decide +kernel)
set_option maxRecDepth 20000 in
theorem gX5_isBox_X5_in : GoodIn wsX5_isBox (va_wsS RX5 58 yX5_in wsX5_in) := goodIn_app (goodIn_of _ (by decide +kernel)) ggX5_isBox_X5_in
theorem dX5_isBox_0 : decode cX5_isBox 0 = .ok (.aload_n 0, 1) := by decide +kernel
theorem dX5_isBox_1 : decode cX5_isBox 1 = .ok (.iload_n 1, 1) := by decide +kernel
theorem dX5_isBox_2 : decode cX5_isBox 2 = .ok (.iload_n 2, 1) := by decide +kernel
theorem dX5_isBox_3 : decode cX5_isBox 3 = .ok (.invokevirtual 195, 3) := by decide +kernel
theorem dX5_isBox_6 : decode cX5_isBox 6 = .ok (.ifCond .eq 41, 3) := by decide +kernel
theorem dX5_isBox_9 : decode cX5_isBox 9 = .ok (.iload_n 3, 1) := by decide +kernel
theorem dX5_isBox_10 : decode cX5_isBox 10 = .ok (.i2l, 1) := by decide +kernel
theorem dX5_isBox_11 : decode cX5_isBox 11 = .ok (.lconst 0, 1) := by decide +kernel
theorem dX5_isBox_12 : decode cX5_isBox 12 = .ok (.aload_n 0, 1) := by decide +kernel
theorem dX5_isBox_13 : decode cX5_isBox 13 = .ok (.getfield 28, 3) := by decide +kernel
theorem dX5_isBox_16 : decode cX5_isBox 16 = .ok (.iconst 1, 1) := by decide +kernel
theorem dX5_isBox_17 : decode cX5_isBox 17 = .ok (.isub, 1) := by decide +kernel
theorem dX5_isBox_18 : decode cX5_isBox 18 = .ok (.i2l, 1) := by decide +kernel
theorem dX5_isBox_19 : decode cX5_isBox 19 = .ok (.invokestatic 58, 3) := by decide +kernel
theorem dX5_isBox_22 : decode cX5_isBox 22 = .ok (.ifCond .eq 25, 3) := by decide +kernel
theorem dX5_isBox_25 : decode cX5_isBox 25 = .ok (.iload 4, 2) := by decide +kernel
theorem dX5_isBox_27 : decode cX5_isBox 27 = .ok (.i2l, 1) := by decide +kernel
theorem dX5_isBox_28 : decode cX5_isBox 28 = .ok (.iload_n 3, 1) := by decide +kernel
theorem dX5_isBox_29 : decode cX5_isBox 29 = .ok (.i2l, 1) := by decide +kernel
theorem dX5_isBox_30 : decode cX5_isBox 30 = .ok (.aload_n 0, 1) := by decide +kernel
theorem dX5_isBox_31 : decode cX5_isBox 31 = .ok (.getfield 28, 3) := by decide +kernel
theorem dX5_isBox_34 : decode cX5_isBox 34 = .ok (.iconst 1, 1) := by decide +kernel
theorem dX5_isBox_35 : decode cX5_isBox 35 = .ok (.isub, 1) := by decide +kernel
theorem dX5_isBox_36 : decode cX5_isBox 36 = .ok (.i2l, 1) := by decide +kernel
theorem dX5_isBox_37 : decode cX5_isBox 37 = .ok (.invokestatic 58, 3) := by decide +kernel
theorem dX5_isBox_40 : decode cX5_isBox 40 = .ok (.ifCond .eq 7, 3) := by decide +kernel
theorem dX5_isBox_43 : decode cX5_isBox 43 = .ok (.iconst 1, 1) := by decide +kernel
theorem dX5_isBox_44 : decode cX5_isBox 44 = .ok (.goto 4, 3) := by decide +kernel
theorem dX5_isBox_47 : decode cX5_isBox 47 = .ok (.iconst 0, 1) := by decide +kernel
theorem dX5_isBox_48 : decode cX5_isBox 48 = .ok (.ireturn, 1) := by decide +kernel
set_option maxRecDepth 20000 in
theorem ggX5_box_X5_isBox : GoodIn wsX5_box wsX5_isBox := goodIn_r _ [9, 10, 11, 12, 13, 8, 14, 15, 16, 17, 18, 19, 20, 21, 22, 95, 96, 97, 98, 99, 100, 101, 102, 103, 104, 105, 106, 107, 108, 109, 110, 111, 112, 113, 114, 115, 116, 117, 118, 119, 120, 121, 122, 123, 124, 125] (by decide +kernel) (by decide +kernel)
set_option maxRecDepth 20000 in
theorem gX5_box_X5_isBox : GoodIn wsX5_box (wsV RX5 198 RX5 yX5_isBox wsX5_isBox) := goodIn_app (goodIn_of _ (by decide +kernel)) ggX5_box_X5_isBox
set_option maxRecDepth 20000 in
theorem ggX5_box_X5_in : GoodIn wsX5_box wsX5_in := goodIn_r _ [22] (by decide +kernel) (by decide +kernel)
set_option maxRecDepth 20000 in
theorem gX5_box_X5_in : GoodIn wsX5_box (va_wsS RX5 58 yX5_in wsX5_in) := goodIn_app (goodIn_of _ (by decide +kernel)) ggX5_box_X5_in
set_option maxRecDepth 20000 in
theorem ggX5_box_X5_no : GoodIn wsX5_box wsX5_no := goodIn_r _ [25, 26] (by decide +kernel) (by decide +kernel)
set_option maxRecDepth 20000 in
theorem gX5_box_X5_no : GoodIn wsX5_box (va_wsS RX5 157 yX5_no wsX5_no) := goodIn_app (goodIn_of _ (by decide +kernel)) ggX5_box_X5_no
set_option maxRecDepth 20000 in
theorem ggX5_box_X5_gather : GoodIn wsX5_box wsX5_gather := goodIn_r _ [30, 2, 3, 4, 31, 32, 33, 34, 35, 8, 36, 37, 38, 39, 40, 41, 42, 43, 44, 45, 46, 47, 48, 49, 50, 51, 52, 53, 54, 19, 55, 56, 57, 58, 59, 60, 61, 62, 63, 64, 65, 66, 67, 68, 69, 70, 71, 72, 73, 74, 75, 76, 77, 78, 79, 80, 81, 82, 83, 84, 85, 86, 87, 10, 88, 89, 90, 91, 92, 93, 94, 95, 96, 97, 98, 99, 100, 101, 102, 103, 104, 105, 106, 107, 108, 109, 110, 111, 112, 113, 114, 115, 116, 117, 118, 119, 120, 121, 122, 123, 124, 125] (by decide +kernel) (by decide +kernel)
set_option maxRecDepth 20000 in
theorem gX5_box_X5_gather : GoodIn wsX5_box (wsV RX5 201 RX5 yX5_gather wsX5_gather) := goodIn_app (goodIn_of _ (by decide +kernel)) ggX5_box_X5_gather
theorem dX5_box_0 : decode cX5_box 0 = .ok (.aload_n 0, 1) := by decide +kernel
theorem dX5_box_1 : decode cX5_box 1 = .ok (.iload_n 1, 1) := by decide +kernel
theorem dX5_box_2 : decode cX5_box 2 = .ok (.iload_n 2, 1) := by decide +kernel
theorem dX5_box_3 : decode cX5_box 3 = .ok (.iload_n 3, 1) := by decide +kernel
theorem dX5_box_4 : decode cX5_box 4 = .ok (.iload 4, 2) := by decide +kernel
theorem dX5_box_6 : decode cX5_box 6 = .ok (.invokevirtual 198, 3) := by decide +kernel
theorem dX5_box_9 : decode cX5_box 9 = .ok (.ifCond .eq 16, 3) := by decide +kernel
theorem dX5_box_12 : decode cX5_box 12 = .ok (.iload 5, 2) := by decide +kernel
theorem dX5_box_14 : decode cX5_box 14 = .ok (.i2l, 1) := by decide +kernel
theorem dX5_box_15 : decode cX5_box 15 = .ok (.lconst 0, 1) := by decide +kernel
theorem dX5_box_16 : decode cX5_box 16 = .ok (.ldc2_w 66, 3) := by decide +kernel
theorem dX5_box_19 : decode cX5_box 19 = .ok (.invokestatic 58, 3) := by decide +kernel
theorem dX5_box_22 : decode cX5_box 22 = .ok (.ifCond .ne 9, 3) := by decide +kernel
theorem dX5_box_25 : decode cX5_box 25 = .ok (.bipush (-2), 2) := by decide +kernel
theorem dX5_box_27 : decode cX5_box 27 = .ok (.invokestatic 157, 3) := by decide +kernel
theorem dX5_box_30 : decode cX5_box 30 = .ok (.lreturn, 1) := by decide +kernel
theorem dX5_box_31 : decode cX5_box 31 = .ok (.aload_n 0, 1) := by decide +kernel
theorem dX5_box_32 : decode cX5_box 32 = .ok (.iload_n 1, 1) := by decide +kernel
theorem dX5_box_33 : decode cX5_box 33 = .ok (.iload_n 2, 1) := by decide +kernel
theorem dX5_box_34 : decode cX5_box 34 = .ok (.iload_n 3, 1) := by decide +kernel
theorem dX5_box_35 : decode cX5_box 35 = .ok (.iload 4, 2) := by decide +kernel
theorem dX5_box_37 : decode cX5_box 37 = .ok (.invokevirtual 201, 3) := by decide +kernel
theorem dX5_box_40 : decode cX5_box 40 = .ok (.iload 5, 2) := by decide +kernel
theorem dX5_box_42 : decode cX5_box 42 = .ok (.ifCond .ne 10, 3) := by decide +kernel
theorem dX5_box_45 : decode cX5_box 45 = .ok (.aload_n 0, 1) := by decide +kernel
theorem dX5_box_46 : decode cX5_box 46 = .ok (.getfield 186, 3) := by decide +kernel
theorem dX5_box_49 : decode cX5_box 49 = .ok (.goto 20, 3) := by decide +kernel
theorem dX5_box_52 : decode cX5_box 52 = .ok (.iload 5, 2) := by decide +kernel
theorem dX5_box_54 : decode cX5_box 54 = .ok (.iconst 1, 1) := by decide +kernel
theorem dX5_box_55 : decode cX5_box 55 = .ok (.if_icmp .ne 10, 3) := by decide +kernel
theorem dX5_box_58 : decode cX5_box 58 = .ok (.aload_n 0, 1) := by decide +kernel
theorem dX5_box_59 : decode cX5_box 59 = .ok (.getfield 189, 3) := by decide +kernel
theorem dX5_box_62 : decode cX5_box 62 = .ok (.goto 7, 3) := by decide +kernel
theorem dX5_box_65 : decode cX5_box 65 = .ok (.aload_n 0, 1) := by decide +kernel
theorem dX5_box_66 : decode cX5_box 66 = .ok (.getfield 192, 3) := by decide +kernel
theorem dX5_box_69 : decode cX5_box 69 = .ok (.lreturn, 1) := by decide +kernel
set_option maxRecDepth 20000 in
theorem ggX5_mean_X5_isBox : GoodIn wsX5_mean wsX5_isBox := goodIn_r _ [9, 10, 11, 12, 13, 8, 14, 15, 16, 17, 18, 19, 20, 21, 22, 95, 96, 97, 98, 99, 100, 101, 102, 103, 104, 105, 106, 107, 108, 109, 110, 111, 112, 113, 114, 115, 116, 117, 118, 119, 120, 121, 122, 123, 124, 125] (by decide +kernel) (by decide +kernel)
set_option maxRecDepth 20000 in
theorem gX5_mean_X5_isBox : GoodIn wsX5_mean (wsV RX5 198 RX5 yX5_isBox wsX5_isBox) := goodIn_app (goodIn_of _ (by decide +kernel)) ggX5_mean_X5_isBox
set_option maxRecDepth 20000 in
theorem ggX5_mean_X5_in : GoodIn wsX5_mean wsX5_in := goodIn_r _ [22] (by decide +kernel) (by decide +kernel)
set_option maxRecDepth 20000 in
theorem gX5_mean_X5_in : GoodIn wsX5_mean (va_wsS RX5 58 yX5_in wsX5_in) := goodIn_app (goodIn_of _ (by decide +kernel)) ggX5_mean_X5_in
set_option maxRecDepth 20000 in
theorem ggX5_mean_X5_no : GoodIn wsX5_mean wsX5_no := goodIn_r _ [25, 26] (by decide +kernel) (by decide +kernel)
set_option maxRecDepth 20000 in
theorem gX5_mean_X5_no : GoodIn wsX5_mean (va_wsS RX5 157 yX5_no wsX5_no) := goodIn_app (goodIn_of _ (by decide +kernel)) ggX5_mean_X5_no
set_option maxRecDepth 20000 in
theorem ggX5_mean_X5_gather : GoodIn wsX5_mean wsX5_gather := goodIn_r _ [30, 2, 3, 4, 31, 32, 33, 34, 35, 8, 36, 37, 38, 39, 40, 41, 42, 43, 44, 45, 46, 47, 48, 49, 50, 51, 52, 53, 54, 19, 55, 56, 57, 58, 59, 60, 61, 62, 63, 64, 65, 66, 67, 68, 69, 70, 71, 72, 73, 74, 75, 76, 77, 78, 79, 80, 81, 82, 83, 84, 85, 86, 87, 10, 88, 89, 90, 91, 92, 93, 94, 95, 96, 97, 98, 99, 100, 101, 102, 103, 104, 105, 106, 107, 108, 109, 110, 111, 112, 113, 114, 115, 116, 117, 118, 119, 120, 121, 122, 123, 124, 125] (by decide +kernel) (by decide +kernel)
set_option maxRecDepth 20000 in
theorem gX5_mean_X5_gather : GoodIn wsX5_mean (wsV RX5 201 RX5 yX5_gather wsX5_gather) := goodIn_app (goodIn_of _ (by decide +kernel)) ggX5_mean_X5_gather
theorem dX5_mean_0 : decode cX5_mean 0 = .ok (.aload_n 0, 1) := by decide +kernel
theorem dX5_mean_1 : decode cX5_mean 1 = .ok (.iload_n 1, 1) := by decide +kernel
theorem dX5_mean_2 : decode cX5_mean 2 = .ok (.iload_n 2, 1) := by decide +kernel
theorem dX5_mean_3 : decode cX5_mean 3 = .ok (.iload_n 3, 1) := by decide +kernel
theorem dX5_mean_4 : decode cX5_mean 4 = .ok (.iload 4, 2) := by decide +kernel
theorem dX5_mean_6 : decode cX5_mean 6 = .ok (.invokevirtual 198, 3) := by decide +kernel
theorem dX5_mean_9 : decode cX5_mean 9 = .ok (.ifCond .eq 16, 3) := by decide +kernel
theorem dX5_mean_12 : decode cX5_mean 12 = .ok (.iload 5, 2) := by decide +kernel
theorem dX5_mean_14 : decode cX5_mean 14 = .ok (.i2l, 1) := by decide +kernel
theorem dX5_mean_15 : decode cX5_mean 15 = .ok (.lconst 1, 1) := by decide +kernel
theorem dX5_mean_16 : decode cX5_mean 16 = .ok (.ldc2_w 66, 3) := by decide +kernel
theorem dX5_mean_19 : decode cX5_mean 19 = .ok (.invokestatic 58, 3) := by decide +kernel
theorem dX5_mean_22 : decode cX5_mean 22 = .ok (.ifCond .ne 9, 3) := by decide +kernel
theorem dX5_mean_25 : decode cX5_mean 25 = .ok (.bipush (-2), 2) := by decide +kernel
theorem dX5_mean_27 : decode cX5_mean 27 = .ok (.invokestatic 157, 3) := by decide +kernel
theorem dX5_mean_30 : decode cX5_mean 30 = .ok (.lreturn, 1) := by decide +kernel
theorem dX5_mean_31 : decode cX5_mean 31 = .ok (.aload_n 0, 1) := by decide +kernel
theorem dX5_mean_32 : decode cX5_mean 32 = .ok (.iload_n 1, 1) := by decide +kernel
theorem dX5_mean_33 : decode cX5_mean 33 = .ok (.iload_n 2, 1) := by decide +kernel
theorem dX5_mean_34 : decode cX5_mean 34 = .ok (.iload_n 3, 1) := by decide +kernel
theorem dX5_mean_35 : decode cX5_mean 35 = .ok (.iload 4, 2) := by decide +kernel
theorem dX5_mean_37 : decode cX5_mean 37 = .ok (.invokevirtual 201, 3) := by decide +kernel
theorem dX5_mean_40 : decode cX5_mean 40 = .ok (.aload_n 0, 1) := by decide +kernel
theorem dX5_mean_41 : decode cX5_mean 41 = .ok (.getfield 186, 3) := by decide +kernel
theorem dX5_mean_44 : decode cX5_mean 44 = .ok (.lconst 0, 1) := by decide +kernel
theorem dX5_mean_45 : decode cX5_mean 45 = .ok (.lcmp, 1) := by decide +kernel
theorem dX5_mean_46 : decode cX5_mean 46 = .ok (.ifCond .ne 9, 3) := by decide +kernel
theorem dX5_mean_49 : decode cX5_mean 49 = .ok (.bipush (-3), 2) := by decide +kernel
theorem dX5_mean_51 : decode cX5_mean 51 = .ok (.invokestatic 157, 3) := by decide +kernel
theorem dX5_mean_54 : decode cX5_mean 54 = .ok (.lreturn, 1) := by decide +kernel
theorem dX5_mean_55 : decode cX5_mean 55 = .ok (.iload 5, 2) := by decide +kernel
theorem dX5_mean_57 : decode cX5_mean 57 = .ok (.iconst 1, 1) := by decide +kernel
theorem dX5_mean_58 : decode cX5_mean 58 = .ok (.if_icmp .ne 10, 3) := by decide +kernel
theorem dX5_mean_61 : decode cX5_mean 61 = .ok (.aload_n 0, 1) := by decide +kernel
theorem dX5_mean_62 : decode cX5_mean 62 = .ok (.getfield 189, 3) := by decide +kernel
theorem dX5_mean_65 : decode cX5_mean 65 = .ok (.goto 7, 3) := by decide +kernel
theorem dX5_mean_68 : decode cX5_mean 68 = .ok (.aload_n 0, 1) := by decide +kernel
theorem dX5_mean_69 : decode cX5_mean 69 = .ok (.getfield 192, 3) := by decide +kernel
theorem dX5_mean_72 : decode cX5_mean 72 = .ok (.lstore 6, 2) := by decide +kernel
theorem dX5_mean_74 : decode cX5_mean 74 = .ok (.lload 6, 2) := by decide +kernel
theorem dX5_mean_76 : decode cX5_mean 76 = .ok (.aload_n 0, 1) := by decide +kernel
theorem dX5_mean_77 : decode cX5_mean 77 = .ok (.getfield 186, 3) := by decide +kernel
theorem dX5_mean_80 : decode cX5_mean 80 = .ok (.ldiv, 1) := by decide +kernel
theorem dX5_mean_81 : decode cX5_mean 81 = .ok (.lstore 8, 2) := by decide +kernel
theorem dX5_mean_83 : decode cX5_mean 83 = .ok (.lload 8, 2) := by decide +kernel
theorem dX5_mean_85 : decode cX5_mean 85 = .ok (.aload_n 0, 1) := by decide +kernel
theorem dX5_mean_86 : decode cX5_mean 86 = .ok (.getfield 186, 3) := by decide +kernel
theorem dX5_mean_89 : decode cX5_mean 89 = .ok (.lmul, 1) := by decide +kernel
theorem dX5_mean_90 : decode cX5_mean 90 = .ok (.lload 6, 2) := by decide +kernel
theorem dX5_mean_92 : decode cX5_mean 92 = .ok (.lcmp, 1) := by decide +kernel
theorem dX5_mean_93 : decode cX5_mean 93 = .ok (.ifCond .le 10, 3) := by decide +kernel
theorem dX5_mean_96 : decode cX5_mean 96 = .ok (.lload 8, 2) := by decide +kernel
theorem dX5_mean_98 : decode cX5_mean 98 = .ok (.lconst 1, 1) := by decide +kernel
theorem dX5_mean_99 : decode cX5_mean 99 = .ok (.lsub, 1) := by decide +kernel
theorem dX5_mean_100 : decode cX5_mean 100 = .ok (.goto 5, 3) := by decide +kernel
theorem dX5_mean_103 : decode cX5_mean 103 = .ok (.lload 8, 2) := by decide +kernel
theorem dX5_mean_105 : decode cX5_mean 105 = .ok (.lreturn, 1) := by decide +kernel
set_option maxRecDepth 20000 in
theorem ggX5_across_X5_fateOf : GoodIn wsX5_across wsX5_fateOf := goodIn_r _ [11, 12, 6, 13, 14, 15, 16, 17, 18, 19, 20, 21, 22, 10, 23, 24, 25, 26, 27, 28, 29, 30, 1, 2, 31, 32, 33, 34, 35, 36, 37, 38, 39, 40, 41, 42, 43, 44, 45, 46, 47, 48, 49, 50, 51, 52, 53, 54, 55, 56, 57, 58, 59, 60, 3, 61, 62, 63, 68, 69, 70, 71, 72, 73, 74, 75, 76, 77, 78, 79, 80, 81, 82, 83, 84, 85, 86, 87, 88, 89, 90, 91, 92, 93, 94, 95, 96, 97, 98] (by decide +kernel) (by decide +kernel)
set_option maxRecDepth 20000 in
theorem gX5_across_X5_fateOf : GoodIn wsX5_across (wsV RX5 172 RX5 yX5_fateOf wsX5_fateOf) := goodIn_app (goodIn_of _ (by decide +kernel)) ggX5_across_X5_fateOf
set_option maxRecDepth 20000 in
theorem ggX5_across_X5_findPace : GoodIn wsX5_across wsX5_findPace := goodIn_r _ [67, 27, 24, 4, 28, 25, 5, 20, 21, 22, 10, 23, 26, 29, 30, 1, 2, 31, 32, 33, 34, 35, 36, 37, 38, 39, 40, 41, 42, 43, 44, 13, 17, 19, 15, 45, 46, 47, 48, 49, 50, 51, 52, 53, 54, 55, 56, 57, 58, 59, 60, 3, 68, 69, 70, 71, 72, 73, 74, 75, 76, 77, 78, 79, 80, 81, 82, 83, 84, 85, 86, 87, 88, 89, 90, 91, 92, 93, 94, 95, 96, 97, 98] (by decide +kernel) (by decide +kernel)
set_option maxRecDepth 20000 in
theorem gX5_across_X5_findPace : GoodIn wsX5_across (wsV RX5 181 RX5 yX5_findPace wsX5_findPace) := goodIn_app (goodIn_of _ (by decide +kernel)) ggX5_across_X5_findPace
theorem dX5_across_0 : decode cX5_across 0 = .ok (.aload_n 0, 1) := by decide +kernel
theorem dX5_across_1 : decode cX5_across 1 = .ok (.getfield 35, 3) := by decide +kernel
theorem dX5_across_4 : decode cX5_across 4 = .ok (.iload_n 1, 1) := by decide +kernel
theorem dX5_across_5 : decode cX5_across 5 = .ok (.iconst 1, 1) := by decide +kernel
theorem dX5_across_6 : decode cX5_across 6 = .ok (.iadd, 1) := by decide +kernel
theorem dX5_across_7 : decode cX5_across 7 = .ok (.iaload, 1) := by decide +kernel
theorem dX5_across_8 : decode cX5_across 8 = .ok (.aload_n 0, 1) := by decide +kernel
theorem dX5_across_9 : decode cX5_across 9 = .ok (.getfield 35, 3) := by decide +kernel
theorem dX5_across_12 : decode cX5_across 12 = .ok (.iload_n 1, 1) := by decide +kernel
theorem dX5_across_13 : decode cX5_across 13 = .ok (.iaload, 1) := by decide +kernel
theorem dX5_across_14 : decode cX5_across 14 = .ok (.isub, 1) := by decide +kernel
theorem dX5_across_15 : decode cX5_across 15 = .ok (.i2l, 1) := by decide +kernel
theorem dX5_across_16 : decode cX5_across 16 = .ok (.lstore_n 3, 1) := by decide +kernel
theorem dX5_across_17 : decode cX5_across 17 = .ok (.aload_n 0, 1) := by decide +kernel
theorem dX5_across_18 : decode cX5_across 18 = .ok (.getfield 38, 3) := by decide +kernel
theorem dX5_across_21 : decode cX5_across 21 = .ok (.iload_n 1, 1) := by decide +kernel
theorem dX5_across_22 : decode cX5_across 22 = .ok (.iconst 1, 1) := by decide +kernel
theorem dX5_across_23 : decode cX5_across 23 = .ok (.iadd, 1) := by decide +kernel
theorem dX5_across_24 : decode cX5_across 24 = .ok (.iaload, 1) := by decide +kernel
theorem dX5_across_25 : decode cX5_across 25 = .ok (.aload_n 0, 1) := by decide +kernel
theorem dX5_across_26 : decode cX5_across 26 = .ok (.getfield 38, 3) := by decide +kernel
theorem dX5_across_29 : decode cX5_across 29 = .ok (.iload_n 1, 1) := by decide +kernel
theorem dX5_across_30 : decode cX5_across 30 = .ok (.iaload, 1) := by decide +kernel
theorem dX5_across_31 : decode cX5_across 31 = .ok (.isub, 1) := by decide +kernel
theorem dX5_across_32 : decode cX5_across 32 = .ok (.i2l, 1) := by decide +kernel
theorem dX5_across_33 : decode cX5_across 33 = .ok (.lstore 5, 2) := by decide +kernel
theorem dX5_across_35 : decode cX5_across 35 = .ok (.iconst (-1), 1) := by decide +kernel
theorem dX5_across_36 : decode cX5_across 36 = .ok (.istore 7, 2) := by decide +kernel
theorem dX5_across_38 : decode cX5_across 38 = .ok (.iconst (-1), 1) := by decide +kernel
theorem dX5_across_39 : decode cX5_across 39 = .ok (.istore 8, 2) := by decide +kernel
theorem dX5_across_41 : decode cX5_across 41 = .ok (.lconst 0, 1) := by decide +kernel
theorem dX5_across_42 : decode cX5_across 42 = .ok (.lstore 9, 2) := by decide +kernel
theorem dX5_across_44 : decode cX5_across 44 = .ok (.iconst 0, 1) := by decide +kernel
theorem dX5_across_45 : decode cX5_across 45 = .ok (.istore 11, 2) := by decide +kernel
theorem dX5_across_47 : decode cX5_across 47 = .ok (.iload 11, 2) := by decide +kernel
theorem dX5_across_49 : decode cX5_across 49 = .ok (.aload_n 0, 1) := by decide +kernel
theorem dX5_across_50 : decode cX5_across 50 = .ok (.getfield 28, 3) := by decide +kernel
theorem dX5_across_53 : decode cX5_across 53 = .ok (.if_icmp .ge 67, 3) := by decide +kernel
theorem dX5_across_56 : decode cX5_across 56 = .ok (.aload_n 0, 1) := by decide +kernel
theorem dX5_across_57 : decode cX5_across 57 = .ok (.iload_n 1, 1) := by decide +kernel
theorem dX5_across_58 : decode cX5_across 58 = .ok (.iload 11, 2) := by decide +kernel
theorem dX5_across_60 : decode cX5_across 60 = .ok (.invokevirtual 172, 3) := by decide +kernel
theorem dX5_across_63 : decode cX5_across 63 = .ok (.ifCond .ne 51, 3) := by decide +kernel
theorem dX5_across_66 : decode cX5_across 66 = .ok (.aload_n 0, 1) := by decide +kernel
theorem dX5_across_67 : decode cX5_across 67 = .ok (.iload_n 1, 1) := by decide +kernel
theorem dX5_across_68 : decode cX5_across 68 = .ok (.iload 11, 2) := by decide +kernel
theorem dX5_across_70 : decode cX5_across 70 = .ok (.invokevirtual 181, 3) := by decide +kernel
theorem dX5_across_73 : decode cX5_across 73 = .ok (.ifCond .eq 41, 3) := by decide +kernel
theorem dX5_across_76 : decode cX5_across 76 = .ok (.lload 9, 2) := by decide +kernel
theorem dX5_across_78 : decode cX5_across 78 = .ok (.aload_n 0, 1) := by decide +kernel
theorem dX5_across_79 : decode cX5_across 79 = .ok (.getfield 175, 3) := by decide +kernel
theorem dX5_across_82 : decode cX5_across 82 = .ok (.lload 5, 2) := by decide +kernel
theorem dX5_across_84 : decode cX5_across 84 = .ok (.lmul, 1) := by decide +kernel
theorem dX5_across_85 : decode cX5_across 85 = .ok (.aload_n 0, 1) := by decide +kernel
theorem dX5_across_86 : decode cX5_across 86 = .ok (.getfield 178, 3) := by decide +kernel
theorem dX5_across_89 : decode cX5_across 89 = .ok (.lload_n 3, 1) := by decide +kernel
theorem dX5_across_90 : decode cX5_across 90 = .ok (.lmul, 1) := by decide +kernel
theorem dX5_across_91 : decode cX5_across 91 = .ok (.lsub, 1) := by decide +kernel
theorem dX5_across_92 : decode cX5_across 92 = .ok (.ladd, 1) := by decide +kernel
theorem dX5_across_93 : decode cX5_across 93 = .ok (.lstore 9, 2) := by decide +kernel
theorem dX5_across_95 : decode cX5_across 95 = .ok (.iload 7, 2) := by decide +kernel
theorem dX5_across_97 : decode cX5_across 97 = .ok (.iconst (-1), 1) := by decide +kernel
theorem dX5_across_98 : decode cX5_across 98 = .ok (.if_icmp .ne 8, 3) := by decide +kernel
theorem dX5_across_101 : decode cX5_across 101 = .ok (.iload 11, 2) := by decide +kernel
theorem dX5_across_103 : decode cX5_across 103 = .ok (.goto 5, 3) := by decide +kernel
theorem dX5_across_106 : decode cX5_across 106 = .ok (.iload 7, 2) := by decide +kernel
theorem dX5_across_108 : decode cX5_across 108 = .ok (.istore 7, 2) := by decide +kernel
theorem dX5_across_110 : decode cX5_across 110 = .ok (.iload 11, 2) := by decide +kernel
theorem dX5_across_112 : decode cX5_across 112 = .ok (.istore 8, 2) := by decide +kernel
theorem dX5_across_114 : decode cX5_across 114 = .ok (.iinc 11 1, 3) := by decide +kernel
theorem dX5_across_117 : decode cX5_across 117 = .ok (.goto (-70), 3) := by decide +kernel
theorem dX5_across_120 : decode cX5_across 120 = .ok (.iload 7, 2) := by decide +kernel
theorem dX5_across_122 : decode cX5_across 122 = .ok (.iconst (-1), 1) := by decide +kernel
theorem dX5_across_123 : decode cX5_across 123 = .ok (.if_icmp .eq 7, 3) := by decide +kernel
theorem dX5_across_126 : decode cX5_across 126 = .ok (.iload_n 2, 1) := by decide +kernel
theorem dX5_across_127 : decode cX5_across 127 = .ok (.ifCond .ne 6, 3) := by decide +kernel
theorem dX5_across_130 : decode cX5_across 130 = .ok (.lload 9, 2) := by decide +kernel
theorem dX5_across_132 : decode cX5_across 132 = .ok (.lreturn, 1) := by decide +kernel
theorem dX5_across_133 : decode cX5_across 133 = .ok (.aload_n 0, 1) := by decide +kernel
theorem dX5_across_134 : decode cX5_across 134 = .ok (.iload_n 1, 1) := by decide +kernel
theorem dX5_across_135 : decode cX5_across 135 = .ok (.iload 7, 2) := by decide +kernel
theorem dX5_across_137 : decode cX5_across 137 = .ok (.invokevirtual 181, 3) := by decide +kernel
theorem dX5_across_140 : decode cX5_across 140 = .ok (.istore 11, 2) := by decide +kernel
theorem dX5_across_142 : decode cX5_across 142 = .ok (.lload 9, 2) := by decide +kernel
theorem dX5_across_144 : decode cX5_across 144 = .ok (.aload_n 0, 1) := by decide +kernel
theorem dX5_across_145 : decode cX5_across 145 = .ok (.getfield 175, 3) := by decide +kernel
theorem dX5_across_148 : decode cX5_across 148 = .ok (.lload 5, 2) := by decide +kernel
theorem dX5_across_150 : decode cX5_across 150 = .ok (.lmul, 1) := by decide +kernel
theorem dX5_across_151 : decode cX5_across 151 = .ok (.aload_n 0, 1) := by decide +kernel
theorem dX5_across_152 : decode cX5_across 152 = .ok (.getfield 178, 3) := by decide +kernel
theorem dX5_across_155 : decode cX5_across 155 = .ok (.lload_n 3, 1) := by decide +kernel
theorem dX5_across_156 : decode cX5_across 156 = .ok (.lmul, 1) := by decide +kernel
theorem dX5_across_157 : decode cX5_across 157 = .ok (.lsub, 1) := by decide +kernel
theorem dX5_across_158 : decode cX5_across 158 = .ok (.iload 7, 2) := by decide +kernel
theorem dX5_across_160 : decode cX5_across 160 = .ok (.i2l, 1) := by decide +kernel
theorem dX5_across_161 : decode cX5_across 161 = .ok (.lmul, 1) := by decide +kernel
theorem dX5_across_162 : decode cX5_across 162 = .ok (.ladd, 1) := by decide +kernel
theorem dX5_across_163 : decode cX5_across 163 = .ok (.lstore 9, 2) := by decide +kernel
theorem dX5_across_165 : decode cX5_across 165 = .ok (.aload_n 0, 1) := by decide +kernel
theorem dX5_across_166 : decode cX5_across 166 = .ok (.iload_n 1, 1) := by decide +kernel
theorem dX5_across_167 : decode cX5_across 167 = .ok (.iload 8, 2) := by decide +kernel
theorem dX5_across_169 : decode cX5_across 169 = .ok (.invokevirtual 181, 3) := by decide +kernel
theorem dX5_across_172 : decode cX5_across 172 = .ok (.istore 11, 2) := by decide +kernel
theorem dX5_across_174 : decode cX5_across 174 = .ok (.iload 8, 2) := by decide +kernel
theorem dX5_across_176 : decode cX5_across 176 = .ok (.iconst 1, 1) := by decide +kernel
theorem dX5_across_177 : decode cX5_across 177 = .ok (.iadd, 1) := by decide +kernel
theorem dX5_across_178 : decode cX5_across 178 = .ok (.istore 12, 2) := by decide +kernel
theorem dX5_across_180 : decode cX5_across 180 = .ok (.iload 12, 2) := by decide +kernel
theorem dX5_across_182 : decode cX5_across 182 = .ok (.aload_n 0, 1) := by decide +kernel
theorem dX5_across_183 : decode cX5_across 183 = .ok (.getfield 28, 3) := by decide +kernel
theorem dX5_across_186 : decode cX5_across 186 = .ok (.if_icmp .ge 43, 3) := by decide +kernel
theorem dX5_across_189 : decode cX5_across 189 = .ok (.lload 9, 2) := by decide +kernel
theorem dX5_across_191 : decode cX5_across 191 = .ok (.iload 12, 2) := by decide +kernel
theorem dX5_across_193 : decode cX5_across 193 = .ok (.aload_n 0, 1) := by decide +kernel
theorem dX5_across_194 : decode cX5_across 194 = .ok (.getfield 41, 3) := by decide +kernel
theorem dX5_across_197 : decode cX5_across 197 = .ok (.iload_n 1, 1) := by decide +kernel
theorem dX5_across_198 : decode cX5_across 198 = .ok (.iaload, 1) := by decide +kernel
theorem dX5_across_199 : decode cX5_across 199 = .ok (.if_icmp .ge 20, 3) := by decide +kernel
theorem dX5_across_202 : decode cX5_across 202 = .ok (.aload_n 0, 1) := by decide +kernel
theorem dX5_across_203 : decode cX5_across 203 = .ok (.getfield 175, 3) := by decide +kernel
theorem dX5_across_206 : decode cX5_across 206 = .ok (.lload 5, 2) := by decide +kernel
theorem dX5_across_208 : decode cX5_across 208 = .ok (.lmul, 1) := by decide +kernel
theorem dX5_across_209 : decode cX5_across 209 = .ok (.aload_n 0, 1) := by decide +kernel
theorem dX5_across_210 : decode cX5_across 210 = .ok (.getfield 178, 3) := by decide +kernel
theorem dX5_across_213 : decode cX5_across 213 = .ok (.lload_n 3, 1) := by decide +kernel
theorem dX5_across_214 : decode cX5_across 214 = .ok (.lmul, 1) := by decide +kernel
theorem dX5_across_215 : decode cX5_across 215 = .ok (.lsub, 1) := by decide +kernel
theorem dX5_across_216 : decode cX5_across 216 = .ok (.goto 4, 3) := by decide +kernel
theorem dX5_across_219 : decode cX5_across 219 = .ok (.lconst 0, 1) := by decide +kernel
theorem dX5_across_220 : decode cX5_across 220 = .ok (.ladd, 1) := by decide +kernel
theorem dX5_across_221 : decode cX5_across 221 = .ok (.lstore 9, 2) := by decide +kernel
theorem dX5_across_223 : decode cX5_across 223 = .ok (.iinc 12 1, 3) := by decide +kernel
theorem dX5_across_226 : decode cX5_across 226 = .ok (.goto (-46), 3) := by decide +kernel
theorem dX5_across_229 : decode cX5_across 229 = .ok (.lload 9, 2) := by decide +kernel
theorem dX5_across_231 : decode cX5_across 231 = .ok (.lreturn, 1) := by decide +kernel
set_option maxRecDepth 20000 in
theorem ggX5_flow_X5_isRow : GoodIn wsX5_flow wsX5_isRow := goodIn_r _ [5, 6, 7, 8, 4, 9, 10, 11, 12, 13, 87, 88, 89, 90, 91, 92, 93, 94, 95, 96, 97, 98, 99, 100, 101, 102, 103, 104, 105, 106, 107, 108, 109, 110, 111, 112, 113, 114, 115, 116, 117] (by decide +kernel) (by decide +kernel)
set_option maxRecDepth 20000 in
theorem gX5_flow_X5_isRow : GoodIn wsX5_flow (wsV RX5 195 RX5 yX5_isRow wsX5_isRow) := goodIn_app (goodIn_of _ (by decide +kernel)) ggX5_flow_X5_isRow
set_option maxRecDepth 20000 in
theorem ggX5_flow_X5_in : GoodIn wsX5_flow wsX5_in := goodIn_r _ [13] (by decide +kernel) (by decide +kernel)
set_option maxRecDepth 20000 in
theorem gX5_flow_X5_in : GoodIn wsX5_flow (va_wsS RX5 58 yX5_in wsX5_in) := goodIn_app (goodIn_of _ (by decide +kernel)) ggX5_flow_X5_in
set_option maxRecDepth 20000 in
theorem ggX5_flow_X5_no : GoodIn wsX5_flow wsX5_no := goodIn_r _ [16, 17] (by decide +kernel) (by decide +kernel)
set_option maxRecDepth 20000 in
theorem gX5_flow_X5_no : GoodIn wsX5_flow (va_wsS RX5 157 yX5_no wsX5_no) := goodIn_app (goodIn_of _ (by decide +kernel)) ggX5_flow_X5_no
set_option maxRecDepth 20000 in
theorem ggX5_flow_X5_across : GoodIn wsX5_flow wsX5_across := goodIn_r _ [21, 22, 23, 24, 25, 26, 27, 28, 29, 30, 4, 31, 32, 33, 34, 35, 36, 37, 38, 39, 40, 41, 42, 43, 44, 45, 46, 47, 48, 10, 49, 50, 51, 52, 53, 54, 55, 56, 57, 58, 59, 60, 61, 62, 63, 64, 65, 66, 67, 68, 69, 70, 71, 72, 73, 74, 75, 76, 77, 78, 79, 80, 81, 82, 83, 84, 85, 86, 87, 88, 89, 90, 91, 92, 93, 94, 95, 96, 97, 98, 99, 100, 101, 102, 103, 104, 105, 106, 107, 108, 109, 110, 111, 112, 113, 114, 115, 116, 117] (by decide +kernel) (by decide +kernel)
set_option maxRecDepth 20000 in
theorem gX5_flow_X5_across : GoodIn wsX5_flow (wsV RX5 205 RX5 yX5_across wsX5_across) := goodIn_app (goodIn_of _ (by decide +kernel)) ggX5_flow_X5_across
theorem dX5_flow_0 : decode cX5_flow 0 = .ok (.aload_n 0, 1) := by decide +kernel
theorem dX5_flow_1 : decode cX5_flow 1 = .ok (.iload_n 1, 1) := by decide +kernel
theorem dX5_flow_2 : decode cX5_flow 2 = .ok (.iload_n 2, 1) := by decide +kernel
theorem dX5_flow_3 : decode cX5_flow 3 = .ok (.invokevirtual 195, 3) := by decide +kernel
theorem dX5_flow_6 : decode cX5_flow 6 = .ok (.ifCond .eq 18, 3) := by decide +kernel
theorem dX5_flow_9 : decode cX5_flow 9 = .ok (.iload_n 1, 1) := by decide +kernel
theorem dX5_flow_10 : decode cX5_flow 10 = .ok (.iload_n 2, 1) := by decide +kernel
theorem dX5_flow_11 : decode cX5_flow 11 = .ok (.if_icmp .eq 13, 3) := by decide +kernel
theorem dX5_flow_14 : decode cX5_flow 14 = .ok (.iload_n 3, 1) := by decide +kernel
theorem dX5_flow_15 : decode cX5_flow 15 = .ok (.i2l, 1) := by decide +kernel
theorem dX5_flow_16 : decode cX5_flow 16 = .ok (.lconst 0, 1) := by decide +kernel
theorem dX5_flow_17 : decode cX5_flow 17 = .ok (.lconst 1, 1) := by decide +kernel
theorem dX5_flow_18 : decode cX5_flow 18 = .ok (.invokestatic 58, 3) := by decide +kernel
theorem dX5_flow_21 : decode cX5_flow 21 = .ok (.ifCond .ne 9, 3) := by decide +kernel
theorem dX5_flow_24 : decode cX5_flow 24 = .ok (.bipush (-2), 2) := by decide +kernel
theorem dX5_flow_26 : decode cX5_flow 26 = .ok (.invokestatic 157, 3) := by decide +kernel
theorem dX5_flow_29 : decode cX5_flow 29 = .ok (.lreturn, 1) := by decide +kernel
theorem dX5_flow_30 : decode cX5_flow 30 = .ok (.lconst 0, 1) := by decide +kernel
theorem dX5_flow_31 : decode cX5_flow 31 = .ok (.lstore 4, 2) := by decide +kernel
theorem dX5_flow_33 : decode cX5_flow 33 = .ok (.iload_n 1, 1) := by decide +kernel
theorem dX5_flow_34 : decode cX5_flow 34 = .ok (.istore 6, 2) := by decide +kernel
theorem dX5_flow_36 : decode cX5_flow 36 = .ok (.iload 6, 2) := by decide +kernel
theorem dX5_flow_38 : decode cX5_flow 38 = .ok (.iload_n 2, 1) := by decide +kernel
theorem dX5_flow_39 : decode cX5_flow 39 = .ok (.if_icmp .ge 21, 3) := by decide +kernel
theorem dX5_flow_42 : decode cX5_flow 42 = .ok (.lload 4, 2) := by decide +kernel
theorem dX5_flow_44 : decode cX5_flow 44 = .ok (.aload_n 0, 1) := by decide +kernel
theorem dX5_flow_45 : decode cX5_flow 45 = .ok (.iload 6, 2) := by decide +kernel
theorem dX5_flow_47 : decode cX5_flow 47 = .ok (.iload_n 3, 1) := by decide +kernel
theorem dX5_flow_48 : decode cX5_flow 48 = .ok (.invokevirtual 205, 3) := by decide +kernel
theorem dX5_flow_51 : decode cX5_flow 51 = .ok (.ladd, 1) := by decide +kernel
theorem dX5_flow_52 : decode cX5_flow 52 = .ok (.lstore 4, 2) := by decide +kernel
theorem dX5_flow_54 : decode cX5_flow 54 = .ok (.iinc 6 1, 3) := by decide +kernel
theorem dX5_flow_57 : decode cX5_flow 57 = .ok (.goto (-21), 3) := by decide +kernel
theorem dX5_flow_60 : decode cX5_flow 60 = .ok (.lload 4, 2) := by decide +kernel
theorem dX5_flow_62 : decode cX5_flow 62 = .ok (.lreturn, 1) := by decide +kernel
set_option maxRecDepth 20000 in
theorem ggX5_askew_X5_isRow : GoodIn wsX5_askew wsX5_isRow := goodIn_r _ [10, 11, 12, 13, 9, 14, 15, 16, 17, 18, 86, 87, 88, 89, 90, 91, 92, 93, 94, 95, 96, 97, 98, 99, 100, 101, 102, 103, 104, 105, 106, 107, 108, 109, 110, 111, 112, 113, 114, 115, 116] (by decide +kernel) (by decide +kernel)
set_option maxRecDepth 20000 in
theorem gX5_askew_X5_isRow : GoodIn wsX5_askew (wsV RX5 195 RX5 yX5_isRow wsX5_isRow) := goodIn_app (goodIn_of _ (by decide +kernel)) ggX5_askew_X5_isRow
set_option maxRecDepth 20000 in
theorem ggX5_askew_X5_gather : GoodIn wsX5_askew wsX5_gather := goodIn_r _ [22, 2, 4, 5, 23, 24, 25, 26, 27, 9, 28, 29, 30, 31, 32, 33, 34, 35, 36, 37, 38, 39, 40, 41, 42, 43, 44, 45, 46, 15, 47, 48, 49, 50, 51, 52, 53, 54, 55, 56, 57, 58, 59, 60, 61, 62, 63, 64, 65, 66, 67, 3, 68, 69, 70, 71, 72, 73, 74, 75, 76, 77, 78, 1, 79, 80, 81, 82, 83, 84, 85, 86, 87, 88, 89, 90, 91, 92, 93, 94, 95, 96, 97, 98, 99, 100, 101, 102, 103, 104, 105, 106, 107, 108, 109, 110, 111, 112, 113, 114, 115, 116] (by decide +kernel) (by decide +kernel)
set_option maxRecDepth 20000 in
theorem gX5_askew_X5_gather : GoodIn wsX5_askew (wsV RX5 201 RX5 yX5_gather wsX5_gather) := goodIn_app (goodIn_of _ (by decide +kernel)) ggX5_askew_X5_gather
set_option maxRecDepth 20000 in
theorem ggX5_askew_X5_amount : GoodIn wsX5_askew wsX5_amount := goodIn_r _ [81] (by decide +kernel) (by decide +kernel)
set_option maxRecDepth 20000 in
theorem gX5_askew_X5_amount : GoodIn wsX5_askew (va_wsS RX5 165 yX5_amount wsX5_amount) := goodIn_app (goodIn_of _ (by decide +kernel)) ggX5_askew_X5_amount
theorem dX5_askew_0 : decode cX5_askew 0 = .ok (.aload_n 0, 1) := by decide +kernel
theorem dX5_askew_1 : decode cX5_askew 1 = .ok (.iload_n 1, 1) := by decide +kernel
theorem dX5_askew_2 : decode cX5_askew 2 = .ok (.iload_n 2, 1) := by decide +kernel
theorem dX5_askew_3 : decode cX5_askew 3 = .ok (.invokevirtual 195, 3) := by decide +kernel
theorem dX5_askew_6 : decode cX5_askew 6 = .ok (.ifCond .eq 13, 3) := by decide +kernel
theorem dX5_askew_9 : decode cX5_askew 9 = .ok (.aload_n 0, 1) := by decide +kernel
theorem dX5_askew_10 : decode cX5_askew 10 = .ok (.iload_n 3, 1) := by decide +kernel
theorem dX5_askew_11 : decode cX5_askew 11 = .ok (.iload 4, 2) := by decide +kernel
theorem dX5_askew_13 : decode cX5_askew 13 = .ok (.invokevirtual 195, 3) := by decide +kernel
theorem dX5_askew_16 : decode cX5_askew 16 = .ok (.ifCond .ne 6, 3) := by decide +kernel
theorem dX5_askew_19 : decode cX5_askew 19 = .ok (.bipush (-2), 2) := by decide +kernel
theorem dX5_askew_21 : decode cX5_askew 21 = .ok (.ireturn, 1) := by decide +kernel
theorem dX5_askew_22 : decode cX5_askew 22 = .ok (.aload_n 0, 1) := by decide +kernel
theorem dX5_askew_23 : decode cX5_askew 23 = .ok (.iload_n 1, 1) := by decide +kernel
theorem dX5_askew_24 : decode cX5_askew 24 = .ok (.iload_n 2, 1) := by decide +kernel
theorem dX5_askew_25 : decode cX5_askew 25 = .ok (.iconst 0, 1) := by decide +kernel
theorem dX5_askew_26 : decode cX5_askew 26 = .ok (.aload_n 0, 1) := by decide +kernel
theorem dX5_askew_27 : decode cX5_askew 27 = .ok (.getfield 28, 3) := by decide +kernel
theorem dX5_askew_30 : decode cX5_askew 30 = .ok (.iconst 1, 1) := by decide +kernel
