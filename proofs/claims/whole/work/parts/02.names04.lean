theorem dX4_fatesOfPing_46 : decode cX4_fatesOfPing 46 = .ok (.iinc 5 1, 3) := by decide +kernel
theorem dX4_fatesOfPing_49 : decode cX4_fatesOfPing 49 = .ok (.goto (-37), 3) := by decide +kernel
theorem dX4_fatesOfPing_52 : decode cX4_fatesOfPing 52 = .ok (.iload 4, 2) := by decide +kernel
theorem dX4_fatesOfPing_54 : decode cX4_fatesOfPing 54 = .ok (.ireturn, 1) := by decide +kernel
set_option maxRecDepth 20000 in
theorem ggX4_digestOfPing_X4_about : GoodIn wsX4_digestOfPing wsX4_about := goodIn_r _ [9, 10, 11, 12, 13, 14, 15, 16, 17, 18, 19, 20, 21, 22, 23, 24, 25, 26, 27, 28, 29, 30, 31, 32, 33, 34, 35, 36, 37, 38, 39, 40, 41, 8, 42, 43, 44, 45, 46, 47, 48, 49, 50, 51, 52, 53, 54, 55, 56, 57, 58, 59, 60, 61, 62, 63, 64, 65, 66, 67, 68, 69, 70, 71, 72, 73, 74, 75, 76, 77, 78, 79, 80, 81, 82, 83, 84, 85, 86, 87, 88, 89, 90, 91, 92, 93, 94, 95, 96, 97, 98, 99, 100, 101, 102, 103, 104, 105, 106, 107, 108, 109, 110, 111, 112, 113, 114, 115, 116, 117, 118, 119, 120, 154, 155, 156, 157, 158, 159, 160, 161, 162, 163, 164, 165, 166, 167, 168, 169, 170, 171, 172, 173, 174, 175, 176, 177, 178, 179, 180, 181, 182, 183, 184] (by decide +kernel) (by decide +kernel)
set_option maxRecDepth 20000 in
theorem gX4_digestOfPing_X4_about : GoodIn wsX4_digestOfPing (wsV RX4 305 RX4 yX4_about wsX4_about) := goodIn_app (goodIn_of _ (by decide +kernel)) ggX4_digestOfPing_X4_about
set_option maxRecDepth 20000 in
theorem ggX4_digestOfPing_X4_findOwn : GoodIn wsX4_digestOfPing wsX4_findOwn := goodIn_r _ [42, 43, 44, 45, 10, 46, 47, 48, 49, 50, 51, 52, 53, 54, 55, 56, 57, 58, 8, 59, 60, 61, 62, 63, 64, 65, 66, 67, 68, 69, 70, 71, 72, 73, 74, 75, 76, 77, 78, 79, 80, 81, 82, 83, 84, 85, 86, 87, 88, 89, 90, 18, 19, 20, 15, 21, 22, 23, 13, 14, 16, 17, 91, 92, 93, 94, 95, 96, 97, 98, 99, 100, 101, 102, 103, 104, 105, 12, 106, 107, 108, 109, 110, 25, 26, 27, 28, 111, 112, 113, 114, 115, 30, 31, 32, 33, 116, 117, 118, 119, 154, 155, 156, 157, 158, 159, 160, 161, 162, 163, 164, 165, 166, 167, 173, 174, 175, 176, 177, 178, 179, 180, 181, 182, 183, 184, 168, 169, 170, 171, 172] (by decide +kernel) (by decide +kernel)
set_option maxRecDepth 20000 in
theorem gX4_digestOfPing_X4_findOwn : GoodIn wsX4_digestOfPing (wsV RX4 155 RX4 yX4_findOwn wsX4_findOwn) := goodIn_app (goodIn_of _ (by decide +kernel)) ggX4_digestOfPing_X4_findOwn
set_option maxRecDepth 20000 in
theorem ggX4_digestOfPing_X4_judge : GoodIn wsX4_digestOfPing wsX4_judge := goodIn_r _ [124, 45, 125, 10, 126, 127, 128, 129, 130, 8, 131, 2, 56, 57, 58, 59, 60, 61, 62, 63, 64, 65, 66, 67, 68, 69, 70, 71, 72, 73, 74, 75, 76, 77, 78, 79, 80, 81, 82, 83, 84, 85, 86, 87, 88, 89, 90, 34, 35, 36, 15, 37, 38, 23, 13, 14, 16, 17, 132, 133, 134, 135, 136, 137, 154, 155, 156, 157, 158, 159, 160, 161, 162, 163, 164, 165, 166, 167, 173, 174, 175, 176, 177, 182, 183, 184, 168, 169, 170, 171, 172] (by decide +kernel) (by decide +kernel)
set_option maxRecDepth 20000 in
theorem gX4_digestOfPing_X4_judge : GoodIn wsX4_digestOfPing (wsV RX4 205 RX4 yX4_judge wsX4_judge) := goodIn_app (goodIn_of _ (by decide +kernel)) ggX4_digestOfPing_X4_judge
set_option maxRecDepth 20000 in
theorem ggX4_digestOfPing_X4_findPace : GoodIn wsX4_digestOfPing wsX4_findPace := goodIn_r _ [141, 3, 45, 10, 43, 47, 48, 49, 50, 51, 52, 53, 54, 55, 18, 19, 20, 15, 21, 22, 23, 13, 14, 16, 17, 91, 92, 93, 94, 95, 8, 96, 97, 98, 99, 100, 101, 102, 103, 104, 105, 142, 143, 144, 145, 154, 155, 156, 157, 158, 159, 160, 161, 162, 163, 164, 165, 166, 167, 173, 174, 175, 176, 177, 178, 179, 180, 181, 168, 169, 170, 171, 172] (by decide +kernel) (by decide +kernel)
set_option maxRecDepth 20000 in
theorem gX4_digestOfPing_X4_findPace : GoodIn wsX4_digestOfPing (wsV RX4 215 RX4 yX4_findPace wsX4_findPace) := goodIn_app (goodIn_of _ (by decide +kernel)) ggX4_digestOfPing_X4_findPace
set_option maxRecDepth 20000 in
theorem ggX4_digestOfPing_X1_east : GoodIn wsX4_digestOfPing wsX1_east := goodIn_r _ [149, 52, 53, 54, 95, 8, 96, 97, 98, 99, 100, 101, 102, 103, 178, 179, 180, 181] (by decide +kernel) (by decide +kernel)
set_option maxRecDepth 20000 in
theorem gX4_digestOfPing_X1_east : GoodIn wsX4_digestOfPing (wsV RX4 308 RX1 yX1_east wsX1_east) := goodIn_app (goodIn_of _ (by decide +kernel)) ggX4_digestOfPing_X1_east
set_option maxRecDepth 20000 in
theorem ggX4_digestOfPing_X1_north : GoodIn wsX4_digestOfPing wsX1_north := goodIn_r _ [153, 52, 53, 55, 104, 8, 105, 101, 102, 103, 100, 97, 98, 99, 178, 179, 180, 181] (by decide +kernel) (by decide +kernel)
set_option maxRecDepth 20000 in
theorem gX4_digestOfPing_X1_north : GoodIn wsX4_digestOfPing (wsV RX4 311 RX1 yX1_north wsX1_north) := goodIn_app (goodIn_of _ (by decide +kernel)) ggX4_digestOfPing_X1_north
theorem dX4_digestOfPing_0 : decode cX4_digestOfPing 0 = .ok (.lload_n 1, 1) := by decide +kernel
theorem dX4_digestOfPing_1 : decode cX4_digestOfPing 1 = .ok (.lstore 4, 2) := by decide +kernel
theorem dX4_digestOfPing_3 : decode cX4_digestOfPing 3 = .ok (.iconst 0, 1) := by decide +kernel
theorem dX4_digestOfPing_4 : decode cX4_digestOfPing 4 = .ok (.istore 6, 2) := by decide +kernel
theorem dX4_digestOfPing_6 : decode cX4_digestOfPing 6 = .ok (.iload 6, 2) := by decide +kernel
theorem dX4_digestOfPing_8 : decode cX4_digestOfPing 8 = .ok (.iconst 4, 1) := by decide +kernel
theorem dX4_digestOfPing_9 : decode cX4_digestOfPing 9 = .ok (.if_icmp .gt 26, 3) := by decide +kernel
theorem dX4_digestOfPing_12 : decode cX4_digestOfPing 12 = .ok (.ldc2_w 260, 3) := by decide +kernel
theorem dX4_digestOfPing_15 : decode cX4_digestOfPing 15 = .ok (.lload 4, 2) := by decide +kernel
theorem dX4_digestOfPing_17 : decode cX4_digestOfPing 17 = .ok (.lmul, 1) := by decide +kernel
theorem dX4_digestOfPing_18 : decode cX4_digestOfPing 18 = .ok (.aload_n 0, 1) := by decide +kernel
theorem dX4_digestOfPing_19 : decode cX4_digestOfPing 19 = .ok (.iload_n 3, 1) := by decide +kernel
theorem dX4_digestOfPing_20 : decode cX4_digestOfPing 20 = .ok (.iload 6, 2) := by decide +kernel
theorem dX4_digestOfPing_22 : decode cX4_digestOfPing 22 = .ok (.invokevirtual 305, 3) := by decide +kernel
theorem dX4_digestOfPing_25 : decode cX4_digestOfPing 25 = .ok (.i2l, 1) := by decide +kernel
theorem dX4_digestOfPing_26 : decode cX4_digestOfPing 26 = .ok (.ladd, 1) := by decide +kernel
theorem dX4_digestOfPing_27 : decode cX4_digestOfPing 27 = .ok (.lstore 4, 2) := by decide +kernel
theorem dX4_digestOfPing_29 : decode cX4_digestOfPing 29 = .ok (.iinc 6 1, 3) := by decide +kernel
theorem dX4_digestOfPing_32 : decode cX4_digestOfPing 32 = .ok (.goto (-26), 3) := by decide +kernel
theorem dX4_digestOfPing_35 : decode cX4_digestOfPing 35 = .ok (.aload_n 0, 1) := by decide +kernel
theorem dX4_digestOfPing_36 : decode cX4_digestOfPing 36 = .ok (.iload_n 3, 1) := by decide +kernel
theorem dX4_digestOfPing_37 : decode cX4_digestOfPing 37 = .ok (.invokevirtual 155, 3) := by decide +kernel
theorem dX4_digestOfPing_40 : decode cX4_digestOfPing 40 = .ok (.istore 6, 2) := by decide +kernel
theorem dX4_digestOfPing_42 : decode cX4_digestOfPing 42 = .ok (.iconst 0, 1) := by decide +kernel
theorem dX4_digestOfPing_43 : decode cX4_digestOfPing 43 = .ok (.istore 7, 2) := by decide +kernel
theorem dX4_digestOfPing_45 : decode cX4_digestOfPing 45 = .ok (.iload 7, 2) := by decide +kernel
theorem dX4_digestOfPing_47 : decode cX4_digestOfPing 47 = .ok (.aload_n 0, 1) := by decide +kernel
theorem dX4_digestOfPing_48 : decode cX4_digestOfPing 48 = .ok (.getfield 45, 3) := by decide +kernel
theorem dX4_digestOfPing_51 : decode cX4_digestOfPing 51 = .ok (.if_icmp .ge 82, 3) := by decide +kernel
theorem dX4_digestOfPing_54 : decode cX4_digestOfPing 54 = .ok (.aload_n 0, 1) := by decide +kernel
theorem dX4_digestOfPing_55 : decode cX4_digestOfPing 55 = .ok (.iload_n 3, 1) := by decide +kernel
theorem dX4_digestOfPing_56 : decode cX4_digestOfPing 56 = .ok (.iload 7, 2) := by decide +kernel
theorem dX4_digestOfPing_58 : decode cX4_digestOfPing 58 = .ok (.iload 6, 2) := by decide +kernel
theorem dX4_digestOfPing_60 : decode cX4_digestOfPing 60 = .ok (.invokevirtual 205, 3) := by decide +kernel
theorem dX4_digestOfPing_63 : decode cX4_digestOfPing 63 = .ok (.istore 8, 2) := by decide +kernel
theorem dX4_digestOfPing_65 : decode cX4_digestOfPing 65 = .ok (.ldc2_w 260, 3) := by decide +kernel
theorem dX4_digestOfPing_68 : decode cX4_digestOfPing 68 = .ok (.lload 4, 2) := by decide +kernel
theorem dX4_digestOfPing_70 : decode cX4_digestOfPing 70 = .ok (.lmul, 1) := by decide +kernel
theorem dX4_digestOfPing_71 : decode cX4_digestOfPing 71 = .ok (.iload 8, 2) := by decide +kernel
theorem dX4_digestOfPing_73 : decode cX4_digestOfPing 73 = .ok (.i2l, 1) := by decide +kernel
theorem dX4_digestOfPing_74 : decode cX4_digestOfPing 74 = .ok (.ladd, 1) := by decide +kernel
theorem dX4_digestOfPing_75 : decode cX4_digestOfPing 75 = .ok (.lstore 4, 2) := by decide +kernel
theorem dX4_digestOfPing_77 : decode cX4_digestOfPing 77 = .ok (.iload 8, 2) := by decide +kernel
theorem dX4_digestOfPing_79 : decode cX4_digestOfPing 79 = .ok (.ifCond .ne 48, 3) := by decide +kernel
theorem dX4_digestOfPing_82 : decode cX4_digestOfPing 82 = .ok (.aload_n 0, 1) := by decide +kernel
theorem dX4_digestOfPing_83 : decode cX4_digestOfPing 83 = .ok (.iload_n 3, 1) := by decide +kernel
theorem dX4_digestOfPing_84 : decode cX4_digestOfPing 84 = .ok (.invokevirtual 215, 3) := by decide +kernel
theorem dX4_digestOfPing_87 : decode cX4_digestOfPing 87 = .ok (.ldc2_w 260, 3) := by decide +kernel
theorem dX4_digestOfPing_90 : decode cX4_digestOfPing 90 = .ok (.lload 4, 2) := by decide +kernel
theorem dX4_digestOfPing_92 : decode cX4_digestOfPing 92 = .ok (.lmul, 1) := by decide +kernel
theorem dX4_digestOfPing_93 : decode cX4_digestOfPing 93 = .ok (.aload_n 0, 1) := by decide +kernel
theorem dX4_digestOfPing_94 : decode cX4_digestOfPing 94 = .ok (.getfield 36, 3) := by decide +kernel
theorem dX4_digestOfPing_97 : decode cX4_digestOfPing 97 = .ok (.aload_n 0, 1) := by decide +kernel
theorem dX4_digestOfPing_98 : decode cX4_digestOfPing 98 = .ok (.getfield 52, 3) := by decide +kernel
theorem dX4_digestOfPing_101 : decode cX4_digestOfPing 101 = .ok (.invokevirtual 308, 3) := by decide +kernel
theorem dX4_digestOfPing_104 : decode cX4_digestOfPing 104 = .ok (.ladd, 1) := by decide +kernel
theorem dX4_digestOfPing_105 : decode cX4_digestOfPing 105 = .ok (.lstore 4, 2) := by decide +kernel
theorem dX4_digestOfPing_107 : decode cX4_digestOfPing 107 = .ok (.ldc2_w 260, 3) := by decide +kernel
theorem dX4_digestOfPing_110 : decode cX4_digestOfPing 110 = .ok (.lload 4, 2) := by decide +kernel
theorem dX4_digestOfPing_112 : decode cX4_digestOfPing 112 = .ok (.lmul, 1) := by decide +kernel
theorem dX4_digestOfPing_113 : decode cX4_digestOfPing 113 = .ok (.aload_n 0, 1) := by decide +kernel
theorem dX4_digestOfPing_114 : decode cX4_digestOfPing 114 = .ok (.getfield 36, 3) := by decide +kernel
theorem dX4_digestOfPing_117 : decode cX4_digestOfPing 117 = .ok (.aload_n 0, 1) := by decide +kernel
theorem dX4_digestOfPing_118 : decode cX4_digestOfPing 118 = .ok (.getfield 52, 3) := by decide +kernel
theorem dX4_digestOfPing_121 : decode cX4_digestOfPing 121 = .ok (.invokevirtual 311, 3) := by decide +kernel
theorem dX4_digestOfPing_124 : decode cX4_digestOfPing 124 = .ok (.ladd, 1) := by decide +kernel
theorem dX4_digestOfPing_125 : decode cX4_digestOfPing 125 = .ok (.lstore 4, 2) := by decide +kernel
theorem dX4_digestOfPing_127 : decode cX4_digestOfPing 127 = .ok (.iinc 7 1, 3) := by decide +kernel
theorem dX4_digestOfPing_130 : decode cX4_digestOfPing 130 = .ok (.goto (-85), 3) := by decide +kernel
theorem dX4_digestOfPing_133 : decode cX4_digestOfPing 133 = .ok (.lload 4, 2) := by decide +kernel
theorem dX4_digestOfPing_135 : decode cX4_digestOfPing 135 = .ok (.lreturn, 1) := by decide +kernel
set_option maxRecDepth 20000 in
theorem ggX4_sumGood_X1_rest : GoodIn wsX4_sumGood wsX1_rest := goodIn_r _ [6, 7, 8, 9, 10, 154, 155, 156, 157] (by decide +kernel) (by decide +kernel)
set_option maxRecDepth 20000 in
theorem gX4_sumGood_X1_rest : GoodIn wsX4_sumGood (wsV RX4 286 RX1 yX1_rest wsX1_rest) := goodIn_app (goodIn_of _ (by decide +kernel)) ggX4_sumGood_X1_rest
set_option maxRecDepth 20000 in
theorem ggX4_sumGood_X4_findOwn : GoodIn wsX4_sumGood wsX4_findOwn := goodIn_r _ [15, 16, 17, 18, 19, 20, 2, 3, 4, 5, 6, 7, 8, 9, 10, 21, 22, 23, 14, 24, 25, 26, 27, 28, 29, 30, 31, 32, 33, 34, 35, 36, 37, 38, 39, 40, 41, 42, 43, 44, 45, 46, 47, 48, 49, 50, 51, 52, 53, 54, 55, 56, 57, 58, 59, 60, 61, 62, 63, 64, 65, 66, 67, 68, 69, 70, 71, 72, 73, 74, 75, 76, 77, 78, 79, 80, 81, 82, 83, 84, 85, 86, 87, 88, 89, 90, 91, 92, 93, 94, 95, 96, 97, 98, 99, 100, 101, 102, 103, 104, 140, 141, 142, 143, 144, 145, 146, 147, 148, 149, 150, 151, 152, 153, 158, 159, 160, 161, 162, 154, 155, 156, 157, 163, 164, 165, 166, 167, 168, 169, 170] (by decide +kernel) (by decide +kernel)
set_option maxRecDepth 20000 in
theorem gX4_sumGood_X4_findOwn : GoodIn wsX4_sumGood (wsV RX4 155 RX4 yX4_findOwn wsX4_findOwn) := goodIn_app (goodIn_of _ (by decide +kernel)) ggX4_sumGood_X4_findOwn
set_option maxRecDepth 20000 in
theorem ggX4_sumGood_X4_judge : GoodIn wsX4_sumGood wsX4_judge := goodIn_r _ [108, 18, 109, 19, 110, 111, 112, 113, 114, 14, 115, 116, 21, 22, 23, 24, 25, 26, 27, 28, 29, 30, 31, 32, 33, 34, 35, 36, 37, 38, 39, 40, 41, 42, 43, 44, 45, 46, 47, 48, 49, 50, 51, 52, 53, 54, 55, 117, 118, 119, 59, 120, 121, 62, 63, 64, 65, 66, 122, 123, 124, 125, 126, 127, 140, 141, 142, 143, 144, 145, 146, 147, 148, 149, 150, 151, 152, 153, 158, 159, 160, 161, 162, 163, 164, 165, 166, 167, 168, 169, 170] (by decide +kernel) (by decide +kernel)
set_option maxRecDepth 20000 in
theorem gX4_sumGood_X4_judge : GoodIn wsX4_sumGood (wsV RX4 205 RX4 yX4_judge wsX4_judge) := goodIn_app (goodIn_of _ (by decide +kernel)) ggX4_sumGood_X4_judge
set_option maxRecDepth 20000 in
theorem ggX4_sumGood_X4_findPace : GoodIn wsX4_sumGood wsX4_findPace := goodIn_r _ [131, 1, 18, 19, 16, 2, 3, 4, 5, 6, 7, 8, 9, 10, 56, 57, 58, 59, 60, 61, 62, 63, 64, 65, 66, 67, 68, 69, 70, 71, 14, 72, 73, 74, 75, 76, 77, 78, 79, 80, 81, 132, 133, 134, 135, 140, 141, 142, 143, 144, 145, 146, 147, 148, 149, 150, 151, 152, 153, 158, 159, 160, 161, 162, 154, 155, 156, 157, 166, 167, 168, 169, 170] (by decide +kernel) (by decide +kernel)
set_option maxRecDepth 20000 in
theorem gX4_sumGood_X4_findPace : GoodIn wsX4_sumGood (wsV RX4 215 RX4 yX4_findPace wsX4_findPace) := goodIn_app (goodIn_of _ (by decide +kernel)) ggX4_sumGood_X4_findPace
set_option maxRecDepth 20000 in
theorem ggX4_sumGood_X1_add : GoodIn wsX4_sumGood wsX1_add := goodIn_r _ [139, 7, 8, 9, 10, 154, 155, 156, 157] (by decide +kernel) (by decide +kernel)
set_option maxRecDepth 20000 in
theorem gX4_sumGood_X1_add : GoodIn wsX4_sumGood (wsV RX4 314 RX1 yX1_add wsX1_add) := goodIn_app (goodIn_of _ (by decide +kernel)) ggX4_sumGood_X1_add
theorem dX4_sumGood_0 : decode cX4_sumGood 0 = .ok (.aload_n 1, 1) := by decide +kernel
theorem dX4_sumGood_1 : decode cX4_sumGood 1 = .ok (.invokevirtual 286, 3) := by decide +kernel
theorem dX4_sumGood_4 : decode cX4_sumGood 4 = .ok (.iconst 0, 1) := by decide +kernel
theorem dX4_sumGood_5 : decode cX4_sumGood 5 = .ok (.istore 6, 2) := by decide +kernel
theorem dX4_sumGood_7 : decode cX4_sumGood 7 = .ok (.iload_n 2, 1) := by decide +kernel
theorem dX4_sumGood_8 : decode cX4_sumGood 8 = .ok (.istore 7, 2) := by decide +kernel
theorem dX4_sumGood_10 : decode cX4_sumGood 10 = .ok (.iload 7, 2) := by decide +kernel
theorem dX4_sumGood_12 : decode cX4_sumGood 12 = .ok (.iload_n 3, 1) := by decide +kernel
theorem dX4_sumGood_13 : decode cX4_sumGood 13 = .ok (.if_icmp .gt 64, 3) := by decide +kernel
theorem dX4_sumGood_16 : decode cX4_sumGood 16 = .ok (.aload_n 0, 1) := by decide +kernel
theorem dX4_sumGood_17 : decode cX4_sumGood 17 = .ok (.iload 7, 2) := by decide +kernel
theorem dX4_sumGood_19 : decode cX4_sumGood 19 = .ok (.invokevirtual 155, 3) := by decide +kernel
theorem dX4_sumGood_22 : decode cX4_sumGood 22 = .ok (.istore 8, 2) := by decide +kernel
theorem dX4_sumGood_24 : decode cX4_sumGood 24 = .ok (.iload 4, 2) := by decide +kernel
theorem dX4_sumGood_26 : decode cX4_sumGood 26 = .ok (.istore 9, 2) := by decide +kernel
theorem dX4_sumGood_28 : decode cX4_sumGood 28 = .ok (.iload 9, 2) := by decide +kernel
theorem dX4_sumGood_30 : decode cX4_sumGood 30 = .ok (.iload 5, 2) := by decide +kernel
theorem dX4_sumGood_32 : decode cX4_sumGood 32 = .ok (.if_icmp .gt 39, 3) := by decide +kernel
theorem dX4_sumGood_35 : decode cX4_sumGood 35 = .ok (.aload_n 0, 1) := by decide +kernel
theorem dX4_sumGood_36 : decode cX4_sumGood 36 = .ok (.iload 7, 2) := by decide +kernel
theorem dX4_sumGood_38 : decode cX4_sumGood 38 = .ok (.iload 9, 2) := by decide +kernel
theorem dX4_sumGood_40 : decode cX4_sumGood 40 = .ok (.iload 8, 2) := by decide +kernel
theorem dX4_sumGood_42 : decode cX4_sumGood 42 = .ok (.invokevirtual 205, 3) := by decide +kernel
theorem dX4_sumGood_45 : decode cX4_sumGood 45 = .ok (.ifCond .ne 20, 3) := by decide +kernel
theorem dX4_sumGood_48 : decode cX4_sumGood 48 = .ok (.aload_n 0, 1) := by decide +kernel
theorem dX4_sumGood_49 : decode cX4_sumGood 49 = .ok (.iload 7, 2) := by decide +kernel
theorem dX4_sumGood_51 : decode cX4_sumGood 51 = .ok (.invokevirtual 215, 3) := by decide +kernel
theorem dX4_sumGood_54 : decode cX4_sumGood 54 = .ok (.aload_n 1, 1) := by decide +kernel
theorem dX4_sumGood_55 : decode cX4_sumGood 55 = .ok (.aload_n 0, 1) := by decide +kernel
theorem dX4_sumGood_56 : decode cX4_sumGood 56 = .ok (.getfield 36, 3) := by decide +kernel
theorem dX4_sumGood_59 : decode cX4_sumGood 59 = .ok (.invokevirtual 314, 3) := by decide +kernel
theorem dX4_sumGood_62 : decode cX4_sumGood 62 = .ok (.iinc 6 1, 3) := by decide +kernel
theorem dX4_sumGood_65 : decode cX4_sumGood 65 = .ok (.iinc 9 1, 3) := by decide +kernel
theorem dX4_sumGood_68 : decode cX4_sumGood 68 = .ok (.goto (-40), 3) := by decide +kernel
theorem dX4_sumGood_71 : decode cX4_sumGood 71 = .ok (.iinc 7 1, 3) := by decide +kernel
theorem dX4_sumGood_74 : decode cX4_sumGood 74 = .ok (.goto (-64), 3) := by decide +kernel
theorem dX4_sumGood_77 : decode cX4_sumGood 77 = .ok (.iload 6, 2) := by decide +kernel
theorem dX4_sumGood_79 : decode cX4_sumGood 79 = .ok (.ireturn, 1) := by decide +kernel
set_option maxRecDepth 20000 in
theorem ggX4_flowOfPing_X4_findOwn : GoodIn wsX4_flowOfPing wsX4_findOwn := goodIn_r _ [6, 7, 8, 9, 10, 11, 12, 13, 14, 15, 16, 17, 18, 19, 20, 21, 22, 23, 5, 24, 25, 26, 27, 28, 29, 30, 31, 32, 33, 34, 35, 36, 37, 38, 39, 40, 41, 42, 43, 44, 45, 46, 47, 48, 49, 50, 51, 52, 53, 54, 55, 56, 57, 58, 59, 60, 61, 62, 63, 64, 65, 66, 67, 68, 69, 70, 71, 72, 73, 74, 75, 76, 77, 78, 79, 80, 81, 82, 83, 84, 85, 86, 87, 88, 89, 90, 91, 92, 93, 94, 95, 96, 97, 98, 99, 100, 101, 102, 103, 104, 157, 158, 159, 160, 161, 162, 163, 164, 165, 166, 167, 168, 169, 170, 171, 172, 173, 174, 175, 176, 177, 178, 179, 180, 181, 182, 183, 184, 185, 186, 187] (by decide +kernel) (by decide +kernel)
set_option maxRecDepth 20000 in
theorem gX4_flowOfPing_X4_findOwn : GoodIn wsX4_flowOfPing (wsV RX4 155 RX4 yX4_findOwn wsX4_findOwn) := goodIn_app (goodIn_of _ (by decide +kernel)) ggX4_flowOfPing_X4_findOwn
set_option maxRecDepth 20000 in
theorem ggX4_flowOfPing_X4_judge : GoodIn wsX4_flowOfPing wsX4_judge := goodIn_r _ [108, 9, 109, 10, 110, 111, 112, 113, 114, 5, 115, 1, 21, 22, 23, 24, 25, 26, 27, 28, 29, 30, 31, 32, 33, 34, 35, 36, 37, 38, 39, 40, 41, 42, 43, 44, 45, 46, 47, 48, 49, 50, 51, 52, 53, 54, 55, 116, 117, 118, 59, 119, 120, 62, 63, 64, 65, 66, 121, 122, 123, 124, 125, 126, 157, 158, 159, 160, 161, 162, 163, 164, 165, 166, 167, 168, 169, 170, 171, 172, 173, 174, 175, 180, 181, 182, 183, 184, 185, 186, 187] (by decide +kernel) (by decide +kernel)
set_option maxRecDepth 20000 in
theorem gX4_flowOfPing_X4_judge : GoodIn wsX4_flowOfPing (wsV RX4 205 RX4 yX4_judge wsX4_judge) := goodIn_app (goodIn_of _ (by decide +kernel)) ggX4_flowOfPing_X4_judge
set_option maxRecDepth 20000 in
theorem ggX4_flowOfPing_X4_findPace : GoodIn wsX4_flowOfPing wsX4_findPace := goodIn_r _ [130, 131, 9, 10, 7, 12, 13, 14, 15, 16, 17, 18, 19, 20, 56, 57, 58, 59, 60, 61, 62, 63, 64, 65, 66, 67, 68, 69, 70, 71, 5, 72, 73, 74, 75, 76, 77, 78, 79, 80, 81, 132, 133, 134, 135, 157, 158, 159, 160, 161, 162, 163, 164, 165, 166, 167, 168, 169, 170, 171, 172, 173, 174, 175, 176, 177, 178, 179, 183, 184, 185, 186, 187] (by decide +kernel) (by decide +kernel)
set_option maxRecDepth 20000 in
theorem gX4_flowOfPing_X4_findPace : GoodIn wsX4_flowOfPing (wsV RX4 215 RX4 yX4_findPace wsX4_findPace) := goodIn_app (goodIn_of _ (by decide +kernel)) ggX4_flowOfPing_X4_findPace
set_option maxRecDepth 20000 in
theorem ggX4_flowOfPing_X4_flowOfPace : GoodIn wsX4_flowOfPing wsX4_flowOfPace := goodIn_r _ [139, 131, 140, 10, 141, 142, 143, 15, 144, 17, 18, 19, 71, 5, 72, 73, 74, 75, 76, 77, 78, 79, 92, 93, 94, 59, 95, 96, 97, 98, 99, 100, 62, 63, 64, 65, 66, 145, 146, 147, 148, 20, 80, 81, 83, 84, 85, 86, 87, 88, 89, 90, 91, 157, 158, 159, 160, 161, 162, 163, 164, 165, 166, 167, 168, 169, 170, 176, 177, 178, 179, 183, 184, 185, 186, 187] (by decide +kernel) (by decide +kernel)
set_option maxRecDepth 20000 in
theorem gX4_flowOfPing_X4_flowOfPace : GoodIn wsX4_flowOfPing (wsV RX4 317 RX4 yX4_flowOfPace wsX4_flowOfPace) := goodIn_app (goodIn_of _ (by decide +kernel)) ggX4_flowOfPing_X4_flowOfPace
set_option maxRecDepth 20000 in
theorem ggX4_flowOfPing_X4_cellsUnder : GoodIn wsX4_flowOfPing wsX4_cellsUnder := goodIn_r _ [152, 1, 10, 153, 154, 155, 156, 116, 117, 118, 59, 119, 120, 62, 63, 64, 65, 66, 157, 158, 159, 160, 161, 162, 163, 164, 165, 166, 167, 168, 169, 170, 183, 184, 185, 186, 187] (by decide +kernel) (by decide +kernel)
set_option maxRecDepth 20000 in
theorem gX4_flowOfPing_X4_cellsUnder : GoodIn wsX4_flowOfPing (wsV RX4 320 RX4 yX4_cellsUnder wsX4_cellsUnder) := goodIn_app (goodIn_of _ (by decide +kernel)) ggX4_flowOfPing_X4_cellsUnder
theorem dX4_flowOfPing_0 : decode cX4_flowOfPing 0 = .ok (.aload_n 0, 1) := by decide +kernel
theorem dX4_flowOfPing_1 : decode cX4_flowOfPing 1 = .ok (.iload_n 1, 1) := by decide +kernel
theorem dX4_flowOfPing_2 : decode cX4_flowOfPing 2 = .ok (.invokevirtual 155, 3) := by decide +kernel
theorem dX4_flowOfPing_5 : decode cX4_flowOfPing 5 = .ok (.istore_n 3, 1) := by decide +kernel
theorem dX4_flowOfPing_6 : decode cX4_flowOfPing 6 = .ok (.lconst 0, 1) := by decide +kernel
theorem dX4_flowOfPing_7 : decode cX4_flowOfPing 7 = .ok (.lstore 4, 2) := by decide +kernel
theorem dX4_flowOfPing_9 : decode cX4_flowOfPing 9 = .ok (.lconst 0, 1) := by decide +kernel
theorem dX4_flowOfPing_10 : decode cX4_flowOfPing 10 = .ok (.lstore 6, 2) := by decide +kernel
theorem dX4_flowOfPing_12 : decode cX4_flowOfPing 12 = .ok (.iconst (-1), 1) := by decide +kernel
theorem dX4_flowOfPing_13 : decode cX4_flowOfPing 13 = .ok (.istore 8, 2) := by decide +kernel
theorem dX4_flowOfPing_15 : decode cX4_flowOfPing 15 = .ok (.iconst 0, 1) := by decide +kernel
theorem dX4_flowOfPing_16 : decode cX4_flowOfPing 16 = .ok (.istore 9, 2) := by decide +kernel
theorem dX4_flowOfPing_18 : decode cX4_flowOfPing 18 = .ok (.iload 9, 2) := by decide +kernel
theorem dX4_flowOfPing_20 : decode cX4_flowOfPing 20 = .ok (.aload_n 0, 1) := by decide +kernel
theorem dX4_flowOfPing_21 : decode cX4_flowOfPing 21 = .ok (.getfield 45, 3) := by decide +kernel
theorem dX4_flowOfPing_24 : decode cX4_flowOfPing 24 = .ok (.if_icmp .ge 66, 3) := by decide +kernel
theorem dX4_flowOfPing_27 : decode cX4_flowOfPing 27 = .ok (.aload_n 0, 1) := by decide +kernel
theorem dX4_flowOfPing_28 : decode cX4_flowOfPing 28 = .ok (.iload_n 1, 1) := by decide +kernel
theorem dX4_flowOfPing_29 : decode cX4_flowOfPing 29 = .ok (.iload 9, 2) := by decide +kernel
theorem dX4_flowOfPing_31 : decode cX4_flowOfPing 31 = .ok (.iload_n 3, 1) := by decide +kernel
theorem dX4_flowOfPing_32 : decode cX4_flowOfPing 32 = .ok (.invokevirtual 205, 3) := by decide +kernel
theorem dX4_flowOfPing_35 : decode cX4_flowOfPing 35 = .ok (.ifCond .eq 6, 3) := by decide +kernel
theorem dX4_flowOfPing_38 : decode cX4_flowOfPing 38 = .ok (.goto 46, 3) := by decide +kernel
theorem dX4_flowOfPing_41 : decode cX4_flowOfPing 41 = .ok (.aload_n 0, 1) := by decide +kernel
theorem dX4_flowOfPing_42 : decode cX4_flowOfPing 42 = .ok (.iload_n 1, 1) := by decide +kernel
theorem dX4_flowOfPing_43 : decode cX4_flowOfPing 43 = .ok (.invokevirtual 215, 3) := by decide +kernel
theorem dX4_flowOfPing_46 : decode cX4_flowOfPing 46 = .ok (.aload_n 0, 1) := by decide +kernel
theorem dX4_flowOfPing_47 : decode cX4_flowOfPing 47 = .ok (.iload_n 1, 1) := by decide +kernel
theorem dX4_flowOfPing_48 : decode cX4_flowOfPing 48 = .ok (.invokevirtual 317, 3) := by decide +kernel
theorem dX4_flowOfPing_51 : decode cX4_flowOfPing 51 = .ok (.lstore 6, 2) := by decide +kernel
theorem dX4_flowOfPing_53 : decode cX4_flowOfPing 53 = .ok (.iload_n 2, 1) := by decide +kernel
theorem dX4_flowOfPing_54 : decode cX4_flowOfPing 54 = .ok (.ifCond .eq 19, 3) := by decide +kernel
theorem dX4_flowOfPing_57 : decode cX4_flowOfPing 57 = .ok (.iload 8, 2) := by decide +kernel
theorem dX4_flowOfPing_59 : decode cX4_flowOfPing 59 = .ok (.ifCond .ge 14, 3) := by decide +kernel
theorem dX4_flowOfPing_62 : decode cX4_flowOfPing 62 = .ok (.lload 4, 2) := by decide +kernel
theorem dX4_flowOfPing_64 : decode cX4_flowOfPing 64 = .ok (.lload 6, 2) := by decide +kernel
theorem dX4_flowOfPing_66 : decode cX4_flowOfPing 66 = .ok (.iload 9, 2) := by decide +kernel
theorem dX4_flowOfPing_68 : decode cX4_flowOfPing 68 = .ok (.i2l, 1) := by decide +kernel
theorem dX4_flowOfPing_69 : decode cX4_flowOfPing 69 = .ok (.lmul, 1) := by decide +kernel
theorem dX4_flowOfPing_70 : decode cX4_flowOfPing 70 = .ok (.ladd, 1) := by decide +kernel
theorem dX4_flowOfPing_71 : decode cX4_flowOfPing 71 = .ok (.lstore 4, 2) := by decide +kernel
theorem dX4_flowOfPing_73 : decode cX4_flowOfPing 73 = .ok (.lload 4, 2) := by decide +kernel
theorem dX4_flowOfPing_75 : decode cX4_flowOfPing 75 = .ok (.lload 6, 2) := by decide +kernel
theorem dX4_flowOfPing_77 : decode cX4_flowOfPing 77 = .ok (.ladd, 1) := by decide +kernel
theorem dX4_flowOfPing_78 : decode cX4_flowOfPing 78 = .ok (.lstore 4, 2) := by decide +kernel
theorem dX4_flowOfPing_80 : decode cX4_flowOfPing 80 = .ok (.iload 9, 2) := by decide +kernel
theorem dX4_flowOfPing_82 : decode cX4_flowOfPing 82 = .ok (.istore 8, 2) := by decide +kernel
theorem dX4_flowOfPing_84 : decode cX4_flowOfPing 84 = .ok (.iinc 9 1, 3) := by decide +kernel
theorem dX4_flowOfPing_87 : decode cX4_flowOfPing 87 = .ok (.goto (-69), 3) := by decide +kernel
theorem dX4_flowOfPing_90 : decode cX4_flowOfPing 90 = .ok (.iload_n 2, 1) := by decide +kernel
theorem dX4_flowOfPing_91 : decode cX4_flowOfPing 91 = .ok (.ifCond .eq 20, 3) := by decide +kernel
theorem dX4_flowOfPing_94 : decode cX4_flowOfPing 94 = .ok (.lload 4, 2) := by decide +kernel
theorem dX4_flowOfPing_96 : decode cX4_flowOfPing 96 = .ok (.lload 6, 2) := by decide +kernel
theorem dX4_flowOfPing_98 : decode cX4_flowOfPing 98 = .ok (.aload_n 0, 1) := by decide +kernel
theorem dX4_flowOfPing_99 : decode cX4_flowOfPing 99 = .ok (.iload_n 1, 1) := by decide +kernel
theorem dX4_flowOfPing_100 : decode cX4_flowOfPing 100 = .ok (.iload 8, 2) := by decide +kernel
theorem dX4_flowOfPing_102 : decode cX4_flowOfPing 102 = .ok (.invokevirtual 320, 3) := by decide +kernel
theorem dX4_flowOfPing_105 : decode cX4_flowOfPing 105 = .ok (.i2l, 1) := by decide +kernel
theorem dX4_flowOfPing_106 : decode cX4_flowOfPing 106 = .ok (.lmul, 1) := by decide +kernel
theorem dX4_flowOfPing_107 : decode cX4_flowOfPing 107 = .ok (.ladd, 1) := by decide +kernel
theorem dX4_flowOfPing_108 : decode cX4_flowOfPing 108 = .ok (.goto 5, 3) := by decide +kernel
theorem dX4_flowOfPing_111 : decode cX4_flowOfPing 111 = .ok (.lload 4, 2) := by decide +kernel
theorem dX4_flowOfPing_113 : decode cX4_flowOfPing 113 = .ok (.lreturn, 1) := by decide +kernel
set_option maxRecDepth 20000 in
theorem ggX4_flowOfPace_X1_east : GoodIn wsX4_flowOfPace wsX1_east := goodIn_r _ [8, 9, 10, 11, 12, 13, 14, 15, 16, 17, 18, 19, 20, 21, 67, 68, 69, 70] (by decide +kernel) (by decide +kernel)
set_option maxRecDepth 20000 in
theorem gX4_flowOfPace_X1_east : GoodIn wsX4_flowOfPace (wsV RX4 308 RX1 yX1_east wsX1_east) := goodIn_app (goodIn_of _ (by decide +kernel)) ggX4_flowOfPace_X1_east
set_option maxRecDepth 20000 in
theorem ggX4_flowOfPace_X3_stepY : GoodIn wsX4_flowOfPace wsX3_stepY := goodIn_r _ [26, 27, 28, 29, 25, 30, 31, 32, 33, 34, 35, 36, 71, 72, 73, 74, 75] (by decide +kernel) (by decide +kernel)
set_option maxRecDepth 20000 in
theorem gX4_flowOfPace_X3_stepY : GoodIn wsX4_flowOfPace (wsV RX4 298 RX3 yX3_stepY wsX3_stepY) := goodIn_app (goodIn_of _ (by decide +kernel)) ggX4_flowOfPace_X3_stepY
set_option maxRecDepth 20000 in
theorem ggX4_flowOfPace_X1_north : GoodIn wsX4_flowOfPace wsX1_north := goodIn_r _ [40, 9, 10, 41, 42, 13, 43, 19, 20, 21, 18, 15, 16, 17, 67, 68, 69, 70] (by decide +kernel) (by decide +kernel)
set_option maxRecDepth 20000 in
theorem gX4_flowOfPace_X1_north : GoodIn wsX4_flowOfPace (wsV RX4 311 RX1 yX1_north wsX1_north) := goodIn_app (goodIn_of _ (by decide +kernel)) ggX4_flowOfPace_X1_north
set_option maxRecDepth 20000 in
theorem ggX4_flowOfPace_X3_stepX : GoodIn wsX4_flowOfPace wsX3_stepX := goodIn_r _ [47, 48, 49, 50, 25, 51, 52, 32, 33, 34, 35, 36, 71, 72, 73, 74, 75] (by decide +kernel) (by decide +kernel)
set_option maxRecDepth 20000 in
theorem gX4_flowOfPace_X3_stepX : GoodIn wsX4_flowOfPace (wsV RX4 295 RX3 yX3_stepX wsX3_stepX) := goodIn_app (goodIn_of _ (by decide +kernel)) ggX4_flowOfPace_X3_stepX
theorem dX4_flowOfPace_0 : decode cX4_flowOfPace 0 = .ok (.aload_n 0, 1) := by decide +kernel
theorem dX4_flowOfPace_1 : decode cX4_flowOfPace 1 = .ok (.getfield 36, 3) := by decide +kernel
theorem dX4_flowOfPace_4 : decode cX4_flowOfPace 4 = .ok (.aload_n 0, 1) := by decide +kernel
theorem dX4_flowOfPace_5 : decode cX4_flowOfPace 5 = .ok (.getfield 52, 3) := by decide +kernel
theorem dX4_flowOfPace_8 : decode cX4_flowOfPace 8 = .ok (.invokevirtual 308, 3) := by decide +kernel
theorem dX4_flowOfPace_11 : decode cX4_flowOfPace 11 = .ok (.aload_n 0, 1) := by decide +kernel
theorem dX4_flowOfPace_12 : decode cX4_flowOfPace 12 = .ok (.getfield 18, 3) := by decide +kernel
theorem dX4_flowOfPace_15 : decode cX4_flowOfPace 15 = .ok (.iload_n 1, 1) := by decide +kernel
theorem dX4_flowOfPace_16 : decode cX4_flowOfPace 16 = .ok (.invokevirtual 298, 3) := by decide +kernel
theorem dX4_flowOfPace_19 : decode cX4_flowOfPace 19 = .ok (.lmul, 1) := by decide +kernel
theorem dX4_flowOfPace_20 : decode cX4_flowOfPace 20 = .ok (.aload_n 0, 1) := by decide +kernel
theorem dX4_flowOfPace_21 : decode cX4_flowOfPace 21 = .ok (.getfield 36, 3) := by decide +kernel
theorem dX4_flowOfPace_24 : decode cX4_flowOfPace 24 = .ok (.aload_n 0, 1) := by decide +kernel
theorem dX4_flowOfPace_25 : decode cX4_flowOfPace 25 = .ok (.getfield 52, 3) := by decide +kernel
theorem dX4_flowOfPace_28 : decode cX4_flowOfPace 28 = .ok (.invokevirtual 311, 3) := by decide +kernel
theorem dX4_flowOfPace_31 : decode cX4_flowOfPace 31 = .ok (.aload_n 0, 1) := by decide +kernel
theorem dX4_flowOfPace_32 : decode cX4_flowOfPace 32 = .ok (.getfield 18, 3) := by decide +kernel
theorem dX4_flowOfPace_35 : decode cX4_flowOfPace 35 = .ok (.iload_n 1, 1) := by decide +kernel
theorem dX4_flowOfPace_36 : decode cX4_flowOfPace 36 = .ok (.invokevirtual 295, 3) := by decide +kernel
theorem dX4_flowOfPace_39 : decode cX4_flowOfPace 39 = .ok (.lmul, 1) := by decide +kernel
theorem dX4_flowOfPace_40 : decode cX4_flowOfPace 40 = .ok (.lsub, 1) := by decide +kernel
theorem dX4_flowOfPace_41 : decode cX4_flowOfPace 41 = .ok (.lreturn, 1) := by decide +kernel
set_option maxRecDepth 20000 in
theorem ggX4_cellsUnder_X3_depthOf : GoodIn wsX4_cellsUnder wsX3_depthOf := goodIn_r _ [11, 12, 13, 14, 15, 10, 16, 17, 32, 33, 34, 35, 36] (by decide +kernel) (by decide +kernel)
set_option maxRecDepth 20000 in
theorem gX4_cellsUnder_X3_depthOf : GoodIn wsX4_cellsUnder (wsV RX4 152 RX3 yX3_depthOf wsX3_depthOf) := goodIn_app (goodIn_of _ (by decide +kernel)) ggX4_cellsUnder_X3_depthOf
theorem dX4_cellsUnder_0 : decode cX4_cellsUnder 0 = .ok (.aload_n 0, 1) := by decide +kernel
theorem dX4_cellsUnder_1 : decode cX4_cellsUnder 1 = .ok (.getfield 45, 3) := by decide +kernel
theorem dX4_cellsUnder_4 : decode cX4_cellsUnder 4 = .ok (.aload_n 0, 1) := by decide +kernel
theorem dX4_cellsUnder_5 : decode cX4_cellsUnder 5 = .ok (.getfield 18, 3) := by decide +kernel
theorem dX4_cellsUnder_8 : decode cX4_cellsUnder 8 = .ok (.iload_n 1, 1) := by decide +kernel
theorem dX4_cellsUnder_9 : decode cX4_cellsUnder 9 = .ok (.invokevirtual 152, 3) := by decide +kernel
theorem dX4_cellsUnder_12 : decode cX4_cellsUnder 12 = .ok (.invokestatic 323, 3) := by decide +kernel
theorem dX4_cellsUnder_15 : decode cX4_cellsUnder 15 = .ok (.iconst 1, 1) := by decide +kernel
theorem dX4_cellsUnder_16 : decode cX4_cellsUnder 16 = .ok (.isub, 1) := by decide +kernel
theorem dX4_cellsUnder_17 : decode cX4_cellsUnder 17 = .ok (.iload_n 2, 1) := by decide +kernel
theorem dX4_cellsUnder_18 : decode cX4_cellsUnder 18 = .ok (.isub, 1) := by decide +kernel
theorem dX4_cellsUnder_19 : decode cX4_cellsUnder 19 = .ok (.ireturn, 1) := by decide +kernel
set_option maxRecDepth 20000 in
theorem ggX4_turnOfLeastMiss_X4_missBelowZero : GoodIn wsX4_turnOfLeastMiss wsX4_missBelowZero := goodIn_r _ [4, 5, 6, 7, 8, 9, 10, 11, 12, 13, 14, 15, 16, 17, 3, 18, 19, 20, 21, 22, 23, 24, 25, 26, 27, 28, 29, 30, 31, 32, 33, 34, 35, 36, 37, 38, 39] (by decide +kernel) (by decide +kernel)
set_option maxRecDepth 20000 in
theorem gX4_turnOfLeastMiss_X4_missBelowZero : GoodIn wsX4_turnOfLeastMiss (va_wsS RX4 326 yX4_missBelowZero wsX4_missBelowZero) := goodIn_app (goodIn_of _ (by decide +kernel)) ggX4_turnOfLeastMiss_X4_missBelowZero
theorem dX4_turnOfLeastMiss_0 : decode cX4_turnOfLeastMiss 0 = .ok (.iconst 0, 1) := by decide +kernel
theorem dX4_turnOfLeastMiss_1 : decode cX4_turnOfLeastMiss 1 = .ok (.istore_n 1, 1) := by decide +kernel
theorem dX4_turnOfLeastMiss_2 : decode cX4_turnOfLeastMiss 2 = .ok (.aload_n 0, 1) := by decide +kernel
theorem dX4_turnOfLeastMiss_3 : decode cX4_turnOfLeastMiss 3 = .ok (.iconst 0, 1) := by decide +kernel
theorem dX4_turnOfLeastMiss_4 : decode cX4_turnOfLeastMiss 4 = .ok (.invokestatic 326, 3) := by decide +kernel
theorem dX4_turnOfLeastMiss_7 : decode cX4_turnOfLeastMiss 7 = .ok (.lstore_n 2, 1) := by decide +kernel
theorem dX4_turnOfLeastMiss_8 : decode cX4_turnOfLeastMiss 8 = .ok (.iconst 1, 1) := by decide +kernel
theorem dX4_turnOfLeastMiss_9 : decode cX4_turnOfLeastMiss 9 = .ok (.istore 4, 2) := by decide +kernel
theorem dX4_turnOfLeastMiss_11 : decode cX4_turnOfLeastMiss 11 = .ok (.iload 4, 2) := by decide +kernel
theorem dX4_turnOfLeastMiss_13 : decode cX4_turnOfLeastMiss 13 = .ok (.bipush 36, 2) := by decide +kernel
theorem dX4_turnOfLeastMiss_15 : decode cX4_turnOfLeastMiss 15 = .ok (.if_icmp .ge 30, 3) := by decide +kernel
theorem dX4_turnOfLeastMiss_18 : decode cX4_turnOfLeastMiss 18 = .ok (.aload_n 0, 1) := by decide +kernel
theorem dX4_turnOfLeastMiss_19 : decode cX4_turnOfLeastMiss 19 = .ok (.iload 4, 2) := by decide +kernel
theorem dX4_turnOfLeastMiss_21 : decode cX4_turnOfLeastMiss 21 = .ok (.invokestatic 326, 3) := by decide +kernel
theorem dX4_turnOfLeastMiss_24 : decode cX4_turnOfLeastMiss 24 = .ok (.lstore 5, 2) := by decide +kernel
theorem dX4_turnOfLeastMiss_26 : decode cX4_turnOfLeastMiss 26 = .ok (.lload 5, 2) := by decide +kernel
theorem dX4_turnOfLeastMiss_28 : decode cX4_turnOfLeastMiss 28 = .ok (.lload_n 2, 1) := by decide +kernel
theorem dX4_turnOfLeastMiss_29 : decode cX4_turnOfLeastMiss 29 = .ok (.lcmp, 1) := by decide +kernel
theorem dX4_turnOfLeastMiss_30 : decode cX4_turnOfLeastMiss 30 = .ok (.ifCond .le 9, 3) := by decide +kernel
theorem dX4_turnOfLeastMiss_33 : decode cX4_turnOfLeastMiss 33 = .ok (.lload 5, 2) := by decide +kernel
theorem dX4_turnOfLeastMiss_35 : decode cX4_turnOfLeastMiss 35 = .ok (.lstore_n 2, 1) := by decide +kernel
theorem dX4_turnOfLeastMiss_36 : decode cX4_turnOfLeastMiss 36 = .ok (.iload 4, 2) := by decide +kernel
theorem dX4_turnOfLeastMiss_38 : decode cX4_turnOfLeastMiss 38 = .ok (.istore_n 1, 1) := by decide +kernel
theorem dX4_turnOfLeastMiss_39 : decode cX4_turnOfLeastMiss 39 = .ok (.iinc 4 1, 3) := by decide +kernel
theorem dX4_turnOfLeastMiss_42 : decode cX4_turnOfLeastMiss 42 = .ok (.goto (-31), 3) := by decide +kernel
theorem dX4_turnOfLeastMiss_45 : decode cX4_turnOfLeastMiss 45 = .ok (.iload_n 1, 1) := by decide +kernel
theorem dX4_turnOfLeastMiss_46 : decode cX4_turnOfLeastMiss 46 = .ok (.ireturn, 1) := by decide +kernel
set_option maxRecDepth 20000 in
theorem ggX4_missBelowZero_X1_east : GoodIn wsX4_missBelowZero wsX1_east := goodIn_r _ [9, 10, 11, 12, 13, 14, 15, 16, 17, 18, 19, 20, 21, 22, 33, 34, 35, 36] (by decide +kernel) (by decide +kernel)
set_option maxRecDepth 20000 in
theorem gX4_missBelowZero_X1_east : GoodIn wsX4_missBelowZero (wsV RX4 308 RX1 yX1_east wsX1_east) := goodIn_app (goodIn_of _ (by decide +kernel)) ggX4_missBelowZero_X1_east
set_option maxRecDepth 20000 in
theorem ggX4_missBelowZero_X4_belowZero : GoodIn wsX4_missBelowZero wsX4_belowZero := goodIn_r _ [25] (by decide +kernel) (by decide +kernel)
set_option maxRecDepth 20000 in
theorem gX4_missBelowZero_X4_belowZero : GoodIn wsX4_missBelowZero (va_wsS RX4 330 yX4_belowZero wsX4_belowZero) := goodIn_app (goodIn_of _ (by decide +kernel)) ggX4_missBelowZero_X4_belowZero
set_option maxRecDepth 20000 in
theorem ggX4_missBelowZero_X1_north : GoodIn wsX4_missBelowZero wsX1_north := goodIn_r _ [29, 10, 11, 30, 31, 14, 32, 20, 21, 22, 19, 16, 17, 18, 33, 34, 35, 36] (by decide +kernel) (by decide +kernel)
set_option maxRecDepth 20000 in
theorem gX4_missBelowZero_X1_north : GoodIn wsX4_missBelowZero (wsV RX4 311 RX1 yX1_north wsX1_north) := goodIn_app (goodIn_of _ (by decide +kernel)) ggX4_missBelowZero_X1_north
theorem dX4_missBelowZero_0 : decode cX4_missBelowZero 0 = .ok (.aload_n 0, 1) := by decide +kernel
theorem dX4_missBelowZero_1 : decode cX4_missBelowZero 1 = .ok (.iload_n 1, 1) := by decide +kernel
theorem dX4_missBelowZero_2 : decode cX4_missBelowZero 2 = .ok (.invokevirtual 308, 3) := by decide +kernel
theorem dX4_missBelowZero_5 : decode cX4_missBelowZero 5 = .ok (.invokestatic 330, 3) := by decide +kernel
theorem dX4_missBelowZero_8 : decode cX4_missBelowZero 8 = .ok (.aload_n 0, 1) := by decide +kernel
theorem dX4_missBelowZero_9 : decode cX4_missBelowZero 9 = .ok (.iload_n 1, 1) := by decide +kernel
theorem dX4_missBelowZero_10 : decode cX4_missBelowZero 10 = .ok (.invokevirtual 311, 3) := by decide +kernel
theorem dX4_missBelowZero_13 : decode cX4_missBelowZero 13 = .ok (.invokestatic 330, 3) := by decide +kernel
theorem dX4_missBelowZero_16 : decode cX4_missBelowZero 16 = .ok (.invokestatic 334, 3) := by decide +kernel
theorem dX4_missBelowZero_19 : decode cX4_missBelowZero 19 = .ok (.lreturn, 1) := by decide +kernel
theorem dX4_belowZero_0 : decode cX4_belowZero 0 = .ok (.lload_n 0, 1) := by decide +kernel
theorem dX4_belowZero_1 : decode cX4_belowZero 1 = .ok (.lconst 0, 1) := by decide +kernel
theorem dX4_belowZero_2 : decode cX4_belowZero 2 = .ok (.lcmp, 1) := by decide +kernel
theorem dX4_belowZero_3 : decode cX4_belowZero 3 = .ok (.ifCond .le 8, 3) := by decide +kernel
theorem dX4_belowZero_6 : decode cX4_belowZero 6 = .ok (.lload_n 0, 1) := by decide +kernel
theorem dX4_belowZero_7 : decode cX4_belowZero 7 = .ok (.lneg, 1) := by decide +kernel
theorem dX4_belowZero_8 : decode cX4_belowZero 8 = .ok (.goto 4, 3) := by decide +kernel
theorem dX4_belowZero_11 : decode cX4_belowZero 11 = .ok (.lload_n 0, 1) := by decide +kernel
theorem dX4_belowZero_12 : decode cX4_belowZero 12 = .ok (.lreturn, 1) := by decide +kernel
theorem dX5_init_0 : decode cX5_init 0 = .ok (.aload_n 0, 1) := by decide +kernel
theorem dX5_init_1 : decode cX5_init 1 = .ok (.invokespecial 1, 3) := by decide +kernel
theorem dX5_init_4 : decode cX5_init 4 = .ok (.aload_n 0, 1) := by decide +kernel
theorem dX5_init_5 : decode cX5_init 5 = .ok (.bipush 9, 2) := by decide +kernel
theorem dX5_init_7 : decode cX5_init 7 = .ok (.newarray .int, 2) := by decide +kernel
theorem dX5_init_9 : decode cX5_init 9 = .ok (.putfield 7, 3) := by decide +kernel
theorem dX5_init_12 : decode cX5_init 12 = .ok (.aload_n 0, 1) := by decide +kernel
theorem dX5_init_13 : decode cX5_init 13 = .ok (.bipush 9, 2) := by decide +kernel
theorem dX5_init_15 : decode cX5_init 15 = .ok (.newarray .int, 2) := by decide +kernel
theorem dX5_init_17 : decode cX5_init 17 = .ok (.putfield 13, 3) := by decide +kernel
theorem dX5_init_20 : decode cX5_init 20 = .ok (.aload_n 0, 1) := by decide +kernel
theorem dX5_init_21 : decode cX5_init 21 = .ok (.bipush 8, 2) := by decide +kernel
theorem dX5_init_23 : decode cX5_init 23 = .ok (.newarray .int, 2) := by decide +kernel
theorem dX5_init_25 : decode cX5_init 25 = .ok (.putfield 16, 3) := by decide +kernel
theorem dX5_init_28 : decode cX5_init 28 = .ok (.aload_n 0, 1) := by decide +kernel
theorem dX5_init_29 : decode cX5_init 29 = .ok (.bipush 8, 2) := by decide +kernel
theorem dX5_init_31 : decode cX5_init 31 = .ok (.newarray .int, 2) := by decide +kernel
theorem dX5_init_33 : decode cX5_init 33 = .ok (.putfield 19, 3) := by decide +kernel
theorem dX5_init_36 : decode cX5_init 36 = .ok (.aload_n 0, 1) := by decide +kernel
theorem dX5_init_37 : decode cX5_init 37 = .ok (.sipush 1600, 3) := by decide +kernel
theorem dX5_init_40 : decode cX5_init 40 = .ok (.newarray .int, 2) := by decide +kernel
theorem dX5_init_42 : decode cX5_init 42 = .ok (.putfield 22, 3) := by decide +kernel
theorem dX5_init_45 : decode cX5_init 45 = .ok (.aload_n 0, 1) := by decide +kernel
theorem dX5_init_46 : decode cX5_init 46 = .ok (.sipush 200, 3) := by decide +kernel
theorem dX5_init_49 : decode cX5_init 49 = .ok (.newarray .int, 2) := by decide +kernel
theorem dX5_init_51 : decode cX5_init 51 = .ok (.putfield 25, 3) := by decide +kernel
theorem dX5_init_54 : decode cX5_init 54 = .ok (.aload_n 0, 1) := by decide +kernel
theorem dX5_init_55 : decode cX5_init 55 = .ok (.iconst 4, 1) := by decide +kernel
theorem dX5_init_56 : decode cX5_init 56 = .ok (.putfield 28, 3) := by decide +kernel
theorem dX5_init_59 : decode cX5_init 59 = .ok (.aload_n 0, 1) := by decide +kernel
theorem dX5_init_60 : decode cX5_init 60 = .ok (.bipush 40, 2) := by decide +kernel
theorem dX5_init_62 : decode cX5_init 62 = .ok (.newarray .int, 2) := by decide +kernel
theorem dX5_init_64 : decode cX5_init 64 = .ok (.putfield 32, 3) := by decide +kernel
theorem dX5_init_67 : decode cX5_init 67 = .ok (.aload_n 0, 1) := by decide +kernel
theorem dX5_init_68 : decode cX5_init 68 = .ok (.bipush 40, 2) := by decide +kernel
theorem dX5_init_70 : decode cX5_init 70 = .ok (.newarray .int, 2) := by decide +kernel
theorem dX5_init_72 : decode cX5_init 72 = .ok (.putfield 35, 3) := by decide +kernel
theorem dX5_init_75 : decode cX5_init 75 = .ok (.aload_n 0, 1) := by decide +kernel
theorem dX5_init_76 : decode cX5_init 76 = .ok (.bipush 40, 2) := by decide +kernel
theorem dX5_init_78 : decode cX5_init 78 = .ok (.newarray .int, 2) := by decide +kernel
theorem dX5_init_80 : decode cX5_init 80 = .ok (.putfield 38, 3) := by decide +kernel
theorem dX5_init_83 : decode cX5_init 83 = .ok (.aload_n 0, 1) := by decide +kernel
theorem dX5_init_84 : decode cX5_init 84 = .ok (.bipush 40, 2) := by decide +kernel
theorem dX5_init_86 : decode cX5_init 86 = .ok (.newarray .int, 2) := by decide +kernel
theorem dX5_init_88 : decode cX5_init 88 = .ok (.putfield 41, 3) := by decide +kernel
theorem dX5_init_91 : decode cX5_init 91 = .ok (.aload_n 0, 1) := by decide +kernel
theorem dX5_init_92 : decode cX5_init 92 = .ok (.iconst 1, 1) := by decide +kernel
theorem dX5_init_93 : decode cX5_init 93 = .ok (.putfield 44, 3) := by decide +kernel
theorem dX5_init_96 : decode cX5_init 96 = .ok (.aload_n 0, 1) := by decide +kernel
theorem dX5_init_97 : decode cX5_init 97 = .ok (.sipush 1000, 3) := by decide +kernel
theorem dX5_init_100 : decode cX5_init 100 = .ok (.putfield 48, 3) := by decide +kernel
theorem dX5_init_103 : decode cX5_init 103 = .ok (.aload_n 0, 1) := by decide +kernel
theorem dX5_init_104 : decode cX5_init 104 = .ok (.getfield 7, 3) := by decide +kernel
theorem dX5_init_107 : decode cX5_init 107 = .ok (.iconst 0, 1) := by decide +kernel
theorem dX5_init_108 : decode cX5_init 108 = .ok (.bipush 65, 2) := by decide +kernel
theorem dX5_init_110 : decode cX5_init 110 = .ok (.iastore, 1) := by decide +kernel
theorem dX5_init_111 : decode cX5_init 111 = .ok (.aload_n 0, 1) := by decide +kernel
theorem dX5_init_112 : decode cX5_init 112 = .ok (.getfield 7, 3) := by decide +kernel
theorem dX5_init_115 : decode cX5_init 115 = .ok (.iconst 1, 1) := by decide +kernel
theorem dX5_init_116 : decode cX5_init 116 = .ok (.bipush 63, 2) := by decide +kernel
theorem dX5_init_118 : decode cX5_init 118 = .ok (.iastore, 1) := by decide +kernel
theorem dX5_init_119 : decode cX5_init 119 = .ok (.aload_n 0, 1) := by decide +kernel
theorem dX5_init_120 : decode cX5_init 120 = .ok (.getfield 7, 3) := by decide +kernel
theorem dX5_init_123 : decode cX5_init 123 = .ok (.iconst 2, 1) := by decide +kernel
theorem dX5_init_124 : decode cX5_init 124 = .ok (.bipush 60, 2) := by decide +kernel
theorem dX5_init_126 : decode cX5_init 126 = .ok (.iastore, 1) := by decide +kernel
theorem dX5_init_127 : decode cX5_init 127 = .ok (.aload_n 0, 1) := by decide +kernel
theorem dX5_init_128 : decode cX5_init 128 = .ok (.getfield 7, 3) := by decide +kernel
theorem dX5_init_131 : decode cX5_init 131 = .ok (.iconst 3, 1) := by decide +kernel
theorem dX5_init_132 : decode cX5_init 132 = .ok (.bipush 56, 2) := by decide +kernel
theorem dX5_init_134 : decode cX5_init 134 = .ok (.iastore, 1) := by decide +kernel
theorem dX5_init_135 : decode cX5_init 135 = .ok (.aload_n 0, 1) := by decide +kernel
theorem dX5_init_136 : decode cX5_init 136 = .ok (.getfield 7, 3) := by decide +kernel
theorem dX5_init_139 : decode cX5_init 139 = .ok (.iconst 4, 1) := by decide +kernel
theorem dX5_init_140 : decode cX5_init 140 = .ok (.bipush 52, 2) := by decide +kernel
theorem dX5_init_142 : decode cX5_init 142 = .ok (.iastore, 1) := by decide +kernel
theorem dX5_init_143 : decode cX5_init 143 = .ok (.aload_n 0, 1) := by decide +kernel
theorem dX5_init_144 : decode cX5_init 144 = .ok (.getfield 7, 3) := by decide +kernel
theorem dX5_init_147 : decode cX5_init 147 = .ok (.iconst 5, 1) := by decide +kernel
theorem dX5_init_148 : decode cX5_init 148 = .ok (.bipush 39, 2) := by decide +kernel
theorem dX5_init_150 : decode cX5_init 150 = .ok (.iastore, 1) := by decide +kernel
theorem dX5_init_151 : decode cX5_init 151 = .ok (.aload_n 0, 1) := by decide +kernel
theorem dX5_init_152 : decode cX5_init 152 = .ok (.getfield 7, 3) := by decide +kernel
theorem dX5_init_155 : decode cX5_init 155 = .ok (.bipush 6, 2) := by decide +kernel
theorem dX5_init_157 : decode cX5_init 157 = .ok (.bipush 33, 2) := by decide +kernel
theorem dX5_init_159 : decode cX5_init 159 = .ok (.iastore, 1) := by decide +kernel
theorem dX5_init_160 : decode cX5_init 160 = .ok (.aload_n 0, 1) := by decide +kernel
theorem dX5_init_161 : decode cX5_init 161 = .ok (.getfield 7, 3) := by decide +kernel
theorem dX5_init_164 : decode cX5_init 164 = .ok (.bipush 7, 2) := by decide +kernel
theorem dX5_init_166 : decode cX5_init 166 = .ok (.bipush 25, 2) := by decide +kernel
theorem dX5_init_168 : decode cX5_init 168 = .ok (.iastore, 1) := by decide +kernel
theorem dX5_init_169 : decode cX5_init 169 = .ok (.aload_n 0, 1) := by decide +kernel
theorem dX5_init_170 : decode cX5_init 170 = .ok (.getfield 7, 3) := by decide +kernel
theorem dX5_init_173 : decode cX5_init 173 = .ok (.bipush 8, 2) := by decide +kernel
theorem dX5_init_175 : decode cX5_init 175 = .ok (.bipush 16, 2) := by decide +kernel
theorem dX5_init_177 : decode cX5_init 177 = .ok (.iastore, 1) := by decide +kernel
theorem dX5_init_178 : decode cX5_init 178 = .ok (.aload_n 0, 1) := by decide +kernel
theorem dX5_init_179 : decode cX5_init 179 = .ok (.getfield 13, 3) := by decide +kernel
theorem dX5_init_182 : decode cX5_init 182 = .ok (.iconst 0, 1) := by decide +kernel
theorem dX5_init_183 : decode cX5_init 183 = .ok (.iconst 0, 1) := by decide +kernel
theorem dX5_init_184 : decode cX5_init 184 = .ok (.iastore, 1) := by decide +kernel
theorem dX5_init_185 : decode cX5_init 185 = .ok (.aload_n 0, 1) := by decide +kernel
theorem dX5_init_186 : decode cX5_init 186 = .ok (.getfield 13, 3) := by decide +kernel
theorem dX5_init_189 : decode cX5_init 189 = .ok (.iconst 1, 1) := by decide +kernel
theorem dX5_init_190 : decode cX5_init 190 = .ok (.bipush 16, 2) := by decide +kernel
theorem dX5_init_192 : decode cX5_init 192 = .ok (.iastore, 1) := by decide +kernel
theorem dX5_init_193 : decode cX5_init 193 = .ok (.aload_n 0, 1) := by decide +kernel
theorem dX5_init_194 : decode cX5_init 194 = .ok (.getfield 13, 3) := by decide +kernel
theorem dX5_init_197 : decode cX5_init 197 = .ok (.iconst 2, 1) := by decide +kernel
theorem dX5_init_198 : decode cX5_init 198 = .ok (.bipush 25, 2) := by decide +kernel
theorem dX5_init_200 : decode cX5_init 200 = .ok (.iastore, 1) := by decide +kernel
theorem dX5_init_201 : decode cX5_init 201 = .ok (.aload_n 0, 1) := by decide +kernel
theorem dX5_init_202 : decode cX5_init 202 = .ok (.getfield 13, 3) := by decide +kernel
theorem dX5_init_205 : decode cX5_init 205 = .ok (.iconst 3, 1) := by decide +kernel
theorem dX5_init_206 : decode cX5_init 206 = .ok (.bipush 33, 2) := by decide +kernel
theorem dX5_init_208 : decode cX5_init 208 = .ok (.iastore, 1) := by decide +kernel
theorem dX5_init_209 : decode cX5_init 209 = .ok (.aload_n 0, 1) := by decide +kernel
theorem dX5_init_210 : decode cX5_init 210 = .ok (.getfield 13, 3) := by decide +kernel
theorem dX5_init_213 : decode cX5_init 213 = .ok (.iconst 4, 1) := by decide +kernel
theorem dX5_init_214 : decode cX5_init 214 = .ok (.bipush 39, 2) := by decide +kernel
theorem dX5_init_216 : decode cX5_init 216 = .ok (.iastore, 1) := by decide +kernel
theorem dX5_init_217 : decode cX5_init 217 = .ok (.aload_n 0, 1) := by decide +kernel
theorem dX5_init_218 : decode cX5_init 218 = .ok (.getfield 13, 3) := by decide +kernel
theorem dX5_init_221 : decode cX5_init 221 = .ok (.iconst 5, 1) := by decide +kernel
theorem dX5_init_222 : decode cX5_init 222 = .ok (.bipush 52, 2) := by decide +kernel
theorem dX5_init_224 : decode cX5_init 224 = .ok (.iastore, 1) := by decide +kernel
theorem dX5_init_225 : decode cX5_init 225 = .ok (.aload_n 0, 1) := by decide +kernel
theorem dX5_init_226 : decode cX5_init 226 = .ok (.getfield 13, 3) := by decide +kernel
theorem dX5_init_229 : decode cX5_init 229 = .ok (.bipush 6, 2) := by decide +kernel
theorem dX5_init_231 : decode cX5_init 231 = .ok (.bipush 56, 2) := by decide +kernel
theorem dX5_init_233 : decode cX5_init 233 = .ok (.iastore, 1) := by decide +kernel
theorem dX5_init_234 : decode cX5_init 234 = .ok (.aload_n 0, 1) := by decide +kernel
theorem dX5_init_235 : decode cX5_init 235 = .ok (.getfield 13, 3) := by decide +kernel
theorem dX5_init_238 : decode cX5_init 238 = .ok (.bipush 7, 2) := by decide +kernel
theorem dX5_init_240 : decode cX5_init 240 = .ok (.bipush 60, 2) := by decide +kernel
theorem dX5_init_242 : decode cX5_init 242 = .ok (.iastore, 1) := by decide +kernel
theorem dX5_init_243 : decode cX5_init 243 = .ok (.aload_n 0, 1) := by decide +kernel
theorem dX5_init_244 : decode cX5_init 244 = .ok (.getfield 13, 3) := by decide +kernel
theorem dX5_init_247 : decode cX5_init 247 = .ok (.bipush 8, 2) := by decide +kernel
theorem dX5_init_249 : decode cX5_init 249 = .ok (.bipush 63, 2) := by decide +kernel
theorem dX5_init_251 : decode cX5_init 251 = .ok (.iastore, 1) := by decide +kernel
theorem dX5_init_252 : decode cX5_init 252 = .ok (.iconst 0, 1) := by decide +kernel
theorem dX5_init_253 : decode cX5_init 253 = .ok (.istore_n 1, 1) := by decide +kernel
theorem dX5_init_254 : decode cX5_init 254 = .ok (.iload_n 1, 1) := by decide +kernel
theorem dX5_init_255 : decode cX5_init 255 = .ok (.bipush 8, 2) := by decide +kernel
theorem dX5_init_257 : decode cX5_init 257 = .ok (.if_icmp .ge 16, 3) := by decide +kernel
theorem dX5_init_260 : decode cX5_init 260 = .ok (.aload_n 0, 1) := by decide +kernel
theorem dX5_init_261 : decode cX5_init 261 = .ok (.getfield 16, 3) := by decide +kernel
theorem dX5_init_264 : decode cX5_init 264 = .ok (.iload_n 1, 1) := by decide +kernel
theorem dX5_init_265 : decode cX5_init 265 = .ok (.iconst (-1), 1) := by decide +kernel
theorem dX5_init_266 : decode cX5_init 266 = .ok (.iastore, 1) := by decide +kernel
theorem dX5_init_267 : decode cX5_init 267 = .ok (.iinc 1 1, 3) := by decide +kernel
theorem dX5_init_270 : decode cX5_init 270 = .ok (.goto (-16), 3) := by decide +kernel
theorem dX5_init_273 : decode cX5_init 273 = .ok (.return_, 1) := by decide +kernel
theorem dX5_in_0 : decode cX5_in 0 = .ok (.lload_n 0, 1) := by decide +kernel
theorem dX5_in_1 : decode cX5_in 1 = .ok (.lload_n 2, 1) := by decide +kernel
theorem dX5_in_2 : decode cX5_in 2 = .ok (.lcmp, 1) := by decide +kernel
theorem dX5_in_3 : decode cX5_in 3 = .ok (.ifCond .lt 14, 3) := by decide +kernel
theorem dX5_in_6 : decode cX5_in 6 = .ok (.lload_n 0, 1) := by decide +kernel
theorem dX5_in_7 : decode cX5_in 7 = .ok (.lload 4, 2) := by decide +kernel
theorem dX5_in_9 : decode cX5_in 9 = .ok (.lcmp, 1) := by decide +kernel
theorem dX5_in_10 : decode cX5_in 10 = .ok (.ifCond .gt 7, 3) := by decide +kernel
theorem dX5_in_13 : decode cX5_in 13 = .ok (.iconst 1, 1) := by decide +kernel
theorem dX5_in_14 : decode cX5_in 14 = .ok (.goto 4, 3) := by decide +kernel
theorem dX5_in_17 : decode cX5_in 17 = .ok (.iconst 0, 1) := by decide +kernel
theorem dX5_in_18 : decode cX5_in 18 = .ok (.ireturn, 1) := by decide +kernel
theorem dX5_no_0 : decode cX5_no 0 = .ok (.ldc2_w 51, 3) := by decide +kernel
theorem dX5_no_3 : decode cX5_no 3 = .ok (.iload_n 0, 1) := by decide +kernel
theorem dX5_no_4 : decode cX5_no 4 = .ok (.i2l, 1) := by decide +kernel
theorem dX5_no_5 : decode cX5_no 5 = .ok (.lsub, 1) := by decide +kernel
theorem dX5_no_6 : decode cX5_no 6 = .ok (.lreturn, 1) := by decide +kernel
theorem dX5_amount_0 : decode cX5_amount 0 = .ok (.lload_n 0, 1) := by decide +kernel
theorem dX5_amount_1 : decode cX5_amount 1 = .ok (.lconst 0, 1) := by decide +kernel
theorem dX5_amount_2 : decode cX5_amount 2 = .ok (.lcmp, 1) := by decide +kernel
theorem dX5_amount_3 : decode cX5_amount 3 = .ok (.ifCond .ge 8, 3) := by decide +kernel
theorem dX5_amount_6 : decode cX5_amount 6 = .ok (.lload_n 0, 1) := by decide +kernel
theorem dX5_amount_7 : decode cX5_amount 7 = .ok (.lneg, 1) := by decide +kernel
theorem dX5_amount_8 : decode cX5_amount 8 = .ok (.goto 4, 3) := by decide +kernel
theorem dX5_amount_11 : decode cX5_amount 11 = .ok (.lload_n 0, 1) := by decide +kernel
theorem dX5_amount_12 : decode cX5_amount 12 = .ok (.lreturn, 1) := by decide +kernel
theorem dX5_met_0 : decode cX5_met 0 = .ok (.aload_n 0, 1) := by decide +kernel
theorem dX5_met_1 : decode cX5_met 1 = .ok (.iload_n 1, 1) := by decide +kernel
theorem dX5_met_2 : decode cX5_met 2 = .ok (.putfield 53, 3) := by decide +kernel
theorem dX5_met_5 : decode cX5_met 5 = .ok (.bipush (-10), 2) := by decide +kernel
theorem dX5_met_7 : decode cX5_met 7 = .ok (.iload_n 1, 1) := by decide +kernel
theorem dX5_met_8 : decode cX5_met 8 = .ok (.isub, 1) := by decide +kernel
theorem dX5_met_9 : decode cX5_met 9 = .ok (.ireturn, 1) := by decide +kernel
set_option maxRecDepth 20000 in
theorem ggX5_isReel_X5_in : GoodIn wsX5_isReel wsX5_in := goodIn_r _ [5] (by decide +kernel) (by decide +kernel)
set_option maxRecDepth 20000 in
theorem gX5_isReel_X5_in : GoodIn wsX5_isReel (va_wsS RX5 58 yX5_in wsX5_in) := goodIn_app (goodIn_of _ (by decide +kernel)) ggX5_isReel_X5_in
theorem dX5_isReel_0 : decode cX5_isReel 0 = .ok (.iload_n 0, 1) := by decide +kernel
theorem dX5_isReel_1 : decode cX5_isReel 1 = .ok (.i2l, 1) := by decide +kernel
theorem dX5_isReel_2 : decode cX5_isReel 2 = .ok (.lconst 0, 1) := by decide +kernel
theorem dX5_isReel_3 : decode cX5_isReel 3 = .ok (.ldc2_w 56, 3) := by decide +kernel
theorem dX5_isReel_6 : decode cX5_isReel 6 = .ok (.invokestatic 58, 3) := by decide +kernel
theorem dX5_isReel_9 : decode cX5_isReel 9 = .ok (.ireturn, 1) := by decide +kernel
set_option maxRecDepth 20000 in
theorem ggX5_reel_X5_isReel : GoodIn wsX5_reel wsX5_isReel := goodIn_r _ [8, 9, 10, 11, 7, 12] (by decide +kernel) (by decide +kernel)
set_option maxRecDepth 20000 in
theorem gX5_reel_X5_isReel : GoodIn wsX5_reel (va_wsS RX5 62 yX5_isReel wsX5_isReel) := goodIn_app (goodIn_of _ (by decide +kernel)) ggX5_reel_X5_isReel
set_option maxRecDepth 20000 in
theorem ggX5_reel_X5_in : GoodIn wsX5_reel wsX5_in := goodIn_r _ [12] (by decide +kernel) (by decide +kernel)
set_option maxRecDepth 20000 in
theorem gX5_reel_X5_in : GoodIn wsX5_reel (va_wsS RX5 58 yX5_in wsX5_in) := goodIn_app (goodIn_of _ (by decide +kernel)) ggX5_reel_X5_in
set_option maxRecDepth 20000 in
theorem ggX5_reel_X5_met : GoodIn wsX5_reel wsX5_met := goodIn_r _ [16, 17, 18, 19, 20, 21, 22, 23, 24, 25, 26, 27, 28, 29, 30, 31, 32, 33, 34, 35, 36, 37, 38, 39, 40, 41, 42, 43, 44, 45, 46, 47, 48] (by decide +kernel) (by decide +kernel)
set_option maxRecDepth 20000 in
theorem gX5_reel_X5_met : GoodIn wsX5_reel (wsV RX5 68 RX5 yX5_met wsX5_met) := goodIn_app (goodIn_of _ (by decide +kernel)) ggX5_reel_X5_met
theorem dX5_reel_0 : decode cX5_reel 0 = .ok (.iload_n 1, 1) := by decide +kernel
theorem dX5_reel_1 : decode cX5_reel 1 = .ok (.invokestatic 62, 3) := by decide +kernel
theorem dX5_reel_4 : decode cX5_reel 4 = .ok (.ifCond .eq 22, 3) := by decide +kernel
theorem dX5_reel_7 : decode cX5_reel 7 = .ok (.iload_n 2, 1) := by decide +kernel
theorem dX5_reel_8 : decode cX5_reel 8 = .ok (.i2l, 1) := by decide +kernel
theorem dX5_reel_9 : decode cX5_reel 9 = .ok (.lconst 0, 1) := by decide +kernel
theorem dX5_reel_10 : decode cX5_reel 10 = .ok (.ldc2_w 66, 3) := by decide +kernel
theorem dX5_reel_13 : decode cX5_reel 13 = .ok (.invokestatic 58, 3) := by decide +kernel
theorem dX5_reel_16 : decode cX5_reel 16 = .ok (.ifCond .eq 10, 3) := by decide +kernel
theorem dX5_reel_19 : decode cX5_reel 19 = .ok (.iload_n 3, 1) := by decide +kernel
theorem dX5_reel_20 : decode cX5_reel 20 = .ok (.sipush 200, 3) := by decide +kernel
theorem dX5_reel_23 : decode cX5_reel 23 = .ok (.if_icmp .le 6, 3) := by decide +kernel
theorem dX5_reel_26 : decode cX5_reel 26 = .ok (.bipush (-2), 2) := by decide +kernel
theorem dX5_reel_28 : decode cX5_reel 28 = .ok (.ireturn, 1) := by decide +kernel
theorem dX5_reel_29 : decode cX5_reel 29 = .ok (.iload_n 3, 1) := by decide +kernel
theorem dX5_reel_30 : decode cX5_reel 30 = .ok (.ifCond .ge 9, 3) := by decide +kernel
theorem dX5_reel_33 : decode cX5_reel 33 = .ok (.aload_n 0, 1) := by decide +kernel
theorem dX5_reel_34 : decode cX5_reel 34 = .ok (.iconst 5, 1) := by decide +kernel
theorem dX5_reel_35 : decode cX5_reel 35 = .ok (.invokevirtual 68, 3) := by decide +kernel
theorem dX5_reel_38 : decode cX5_reel 38 = .ok (.ireturn, 1) := by decide +kernel
theorem dX5_reel_39 : decode cX5_reel 39 = .ok (.aload_n 0, 1) := by decide +kernel
theorem dX5_reel_40 : decode cX5_reel 40 = .ok (.getfield 16, 3) := by decide +kernel
theorem dX5_reel_43 : decode cX5_reel 43 = .ok (.iload_n 1, 1) := by decide +kernel
theorem dX5_reel_44 : decode cX5_reel 44 = .ok (.iload_n 2, 1) := by decide +kernel
theorem dX5_reel_45 : decode cX5_reel 45 = .ok (.iastore, 1) := by decide +kernel
theorem dX5_reel_46 : decode cX5_reel 46 = .ok (.aload_n 0, 1) := by decide +kernel
theorem dX5_reel_47 : decode cX5_reel 47 = .ok (.getfield 19, 3) := by decide +kernel
theorem dX5_reel_50 : decode cX5_reel 50 = .ok (.iload_n 1, 1) := by decide +kernel
theorem dX5_reel_51 : decode cX5_reel 51 = .ok (.iload_n 3, 1) := by decide +kernel
theorem dX5_reel_52 : decode cX5_reel 52 = .ok (.iastore, 1) := by decide +kernel
theorem dX5_reel_53 : decode cX5_reel 53 = .ok (.iconst 0, 1) := by decide +kernel
theorem dX5_reel_54 : decode cX5_reel 54 = .ok (.istore 4, 2) := by decide +kernel
theorem dX5_reel_56 : decode cX5_reel 56 = .ok (.iload 4, 2) := by decide +kernel
theorem dX5_reel_58 : decode cX5_reel 58 = .ok (.iload_n 3, 1) := by decide +kernel
theorem dX5_reel_59 : decode cX5_reel 59 = .ok (.if_icmp .ge 23, 3) := by decide +kernel
theorem dX5_reel_62 : decode cX5_reel 62 = .ok (.aload_n 0, 1) := by decide +kernel
theorem dX5_reel_63 : decode cX5_reel 63 = .ok (.getfield 22, 3) := by decide +kernel
theorem dX5_reel_66 : decode cX5_reel 66 = .ok (.sipush 200, 3) := by decide +kernel
theorem dX5_reel_69 : decode cX5_reel 69 = .ok (.iload_n 1, 1) := by decide +kernel
theorem dX5_reel_70 : decode cX5_reel 70 = .ok (.imul, 1) := by decide +kernel
theorem dX5_reel_71 : decode cX5_reel 71 = .ok (.iload 4, 2) := by decide +kernel
theorem dX5_reel_73 : decode cX5_reel 73 = .ok (.iadd, 1) := by decide +kernel
theorem dX5_reel_74 : decode cX5_reel 74 = .ok (.iconst 0, 1) := by decide +kernel
theorem dX5_reel_75 : decode cX5_reel 75 = .ok (.iastore, 1) := by decide +kernel
theorem dX5_reel_76 : decode cX5_reel 76 = .ok (.iinc 4 1, 3) := by decide +kernel
theorem dX5_reel_79 : decode cX5_reel 79 = .ok (.goto (-23), 3) := by decide +kernel
theorem dX5_reel_82 : decode cX5_reel 82 = .ok (.iload_n 3, 1) := by decide +kernel
theorem dX5_reel_83 : decode cX5_reel 83 = .ok (.ireturn, 1) := by decide +kernel
set_option maxRecDepth 20000 in
theorem ggX5_lose_X5_isReel : GoodIn wsX5_lose wsX5_isReel := goodIn_r _ [6, 7, 8, 9, 5, 10] (by decide +kernel) (by decide +kernel)
set_option maxRecDepth 20000 in
theorem gX5_lose_X5_isReel : GoodIn wsX5_lose (va_wsS RX5 62 yX5_isReel wsX5_isReel) := goodIn_app (goodIn_of _ (by decide +kernel)) ggX5_lose_X5_isReel
set_option maxRecDepth 20000 in
theorem ggX5_lose_X5_met : GoodIn wsX5_lose wsX5_met := goodIn_r _ [14, 15, 16, 17, 18, 19, 20, 21, 22, 23, 24, 25, 26, 27, 28, 29, 30, 31, 32, 33, 34, 35, 36, 37, 38, 39, 40, 41, 42, 43, 44, 45, 46] (by decide +kernel) (by decide +kernel)
set_option maxRecDepth 20000 in
theorem gX5_lose_X5_met : GoodIn wsX5_lose (wsV RX5 68 RX5 yX5_met wsX5_met) := goodIn_app (goodIn_of _ (by decide +kernel)) ggX5_lose_X5_met
theorem dX5_lose_0 : decode cX5_lose 0 = .ok (.iload_n 1, 1) := by decide +kernel
theorem dX5_lose_1 : decode cX5_lose 1 = .ok (.invokestatic 62, 3) := by decide +kernel
theorem dX5_lose_4 : decode cX5_lose 4 = .ok (.ifCond .ne 6, 3) := by decide +kernel
theorem dX5_lose_7 : decode cX5_lose 7 = .ok (.bipush (-2), 2) := by decide +kernel
theorem dX5_lose_9 : decode cX5_lose 9 = .ok (.ireturn, 1) := by decide +kernel
theorem dX5_lose_10 : decode cX5_lose 10 = .ok (.aload_n 0, 1) := by decide +kernel
theorem dX5_lose_11 : decode cX5_lose 11 = .ok (.getfield 16, 3) := by decide +kernel
theorem dX5_lose_14 : decode cX5_lose 14 = .ok (.iload_n 1, 1) := by decide +kernel
theorem dX5_lose_15 : decode cX5_lose 15 = .ok (.iaload, 1) := by decide +kernel
theorem dX5_lose_16 : decode cX5_lose 16 = .ok (.ifCond .ge 9, 3) := by decide +kernel
theorem dX5_lose_19 : decode cX5_lose 19 = .ok (.aload_n 0, 1) := by decide +kernel
theorem dX5_lose_20 : decode cX5_lose 20 = .ok (.iconst 1, 1) := by decide +kernel
theorem dX5_lose_21 : decode cX5_lose 21 = .ok (.invokevirtual 68, 3) := by decide +kernel
theorem dX5_lose_24 : decode cX5_lose 24 = .ok (.ireturn, 1) := by decide +kernel
theorem dX5_lose_25 : decode cX5_lose 25 = .ok (.aload_n 0, 1) := by decide +kernel
theorem dX5_lose_26 : decode cX5_lose 26 = .ok (.getfield 16, 3) := by decide +kernel
theorem dX5_lose_29 : decode cX5_lose 29 = .ok (.iload_n 1, 1) := by decide +kernel
theorem dX5_lose_30 : decode cX5_lose 30 = .ok (.iconst (-1), 1) := by decide +kernel
theorem dX5_lose_31 : decode cX5_lose 31 = .ok (.iastore, 1) := by decide +kernel
theorem dX5_lose_32 : decode cX5_lose 32 = .ok (.aload_n 0, 1) := by decide +kernel
theorem dX5_lose_33 : decode cX5_lose 33 = .ok (.getfield 19, 3) := by decide +kernel
theorem dX5_lose_36 : decode cX5_lose 36 = .ok (.iload_n 1, 1) := by decide +kernel
theorem dX5_lose_37 : decode cX5_lose 37 = .ok (.iaload, 1) := by decide +kernel
theorem dX5_lose_38 : decode cX5_lose 38 = .ok (.ireturn, 1) := by decide +kernel
set_option maxRecDepth 20000 in
theorem ggX5_lacks_X5_met : GoodIn wsX5_lacks wsX5_met := goodIn_r _ [7, 8, 12, 13, 14, 15, 16, 17, 18, 19, 20, 21, 22, 23, 24, 25, 26, 27, 28, 29, 30, 31, 32, 33, 34, 35, 36, 37, 38, 39, 40, 41, 42] (by decide +kernel) (by decide +kernel)
set_option maxRecDepth 20000 in
theorem gX5_lacks_X5_met : GoodIn wsX5_lacks (wsV RX5 68 RX5 yX5_met wsX5_met) := goodIn_app (goodIn_of _ (by decide +kernel)) ggX5_lacks_X5_met
set_option maxRecDepth 20000 in
theorem ggX5_lacks_X5_in : GoodIn wsX5_lacks wsX5_in := goodIn_r _ [11] (by decide +kernel) (by decide +kernel)
set_option maxRecDepth 20000 in
theorem gX5_lacks_X5_in : GoodIn wsX5_lacks (va_wsS RX5 58 yX5_in wsX5_in) := goodIn_app (goodIn_of _ (by decide +kernel)) ggX5_lacks_X5_in
theorem dX5_lacks_0 : decode cX5_lacks 0 = .ok (.aload_n 0, 1) := by decide +kernel
theorem dX5_lacks_1 : decode cX5_lacks 1 = .ok (.getfield 16, 3) := by decide +kernel
theorem dX5_lacks_4 : decode cX5_lacks 4 = .ok (.iload_n 1, 1) := by decide +kernel
theorem dX5_lacks_5 : decode cX5_lacks 5 = .ok (.iaload, 1) := by decide +kernel
theorem dX5_lacks_6 : decode cX5_lacks 6 = .ok (.ifCond .ge 9, 3) := by decide +kernel
theorem dX5_lacks_9 : decode cX5_lacks 9 = .ok (.aload_n 0, 1) := by decide +kernel
theorem dX5_lacks_10 : decode cX5_lacks 10 = .ok (.iconst 1, 1) := by decide +kernel
theorem dX5_lacks_11 : decode cX5_lacks 11 = .ok (.invokevirtual 68, 3) := by decide +kernel
theorem dX5_lacks_14 : decode cX5_lacks 14 = .ok (.ireturn, 1) := by decide +kernel
theorem dX5_lacks_15 : decode cX5_lacks 15 = .ok (.aload_n 0, 1) := by decide +kernel
theorem dX5_lacks_16 : decode cX5_lacks 16 = .ok (.getfield 16, 3) := by decide +kernel
theorem dX5_lacks_19 : decode cX5_lacks 19 = .ok (.iload_n 1, 1) := by decide +kernel
theorem dX5_lacks_20 : decode cX5_lacks 20 = .ok (.iaload, 1) := by decide +kernel
theorem dX5_lacks_21 : decode cX5_lacks 21 = .ok (.iload_n 2, 1) := by decide +kernel
theorem dX5_lacks_22 : decode cX5_lacks 22 = .ok (.if_icmp .eq 9, 3) := by decide +kernel
theorem dX5_lacks_25 : decode cX5_lacks 25 = .ok (.aload_n 0, 1) := by decide +kernel
theorem dX5_lacks_26 : decode cX5_lacks 26 = .ok (.iconst 3, 1) := by decide +kernel
theorem dX5_lacks_27 : decode cX5_lacks 27 = .ok (.invokevirtual 68, 3) := by decide +kernel
theorem dX5_lacks_30 : decode cX5_lacks 30 = .ok (.ireturn, 1) := by decide +kernel
theorem dX5_lacks_31 : decode cX5_lacks 31 = .ok (.iload_n 3, 1) := by decide +kernel
theorem dX5_lacks_32 : decode cX5_lacks 32 = .ok (.i2l, 1) := by decide +kernel
theorem dX5_lacks_33 : decode cX5_lacks 33 = .ok (.lconst 0, 1) := by decide +kernel
theorem dX5_lacks_34 : decode cX5_lacks 34 = .ok (.aload_n 0, 1) := by decide +kernel
theorem dX5_lacks_35 : decode cX5_lacks 35 = .ok (.getfield 19, 3) := by decide +kernel
theorem dX5_lacks_38 : decode cX5_lacks 38 = .ok (.iload_n 1, 1) := by decide +kernel
theorem dX5_lacks_39 : decode cX5_lacks 39 = .ok (.iaload, 1) := by decide +kernel
theorem dX5_lacks_40 : decode cX5_lacks 40 = .ok (.iconst 1, 1) := by decide +kernel
theorem dX5_lacks_41 : decode cX5_lacks 41 = .ok (.isub, 1) := by decide +kernel
theorem dX5_lacks_42 : decode cX5_lacks 42 = .ok (.i2l, 1) := by decide +kernel
theorem dX5_lacks_43 : decode cX5_lacks 43 = .ok (.invokestatic 58, 3) := by decide +kernel
theorem dX5_lacks_46 : decode cX5_lacks 46 = .ok (.ifCond .eq 7, 3) := by decide +kernel
theorem dX5_lacks_49 : decode cX5_lacks 49 = .ok (.iconst 0, 1) := by decide +kernel
theorem dX5_lacks_50 : decode cX5_lacks 50 = .ok (.goto 8, 3) := by decide +kernel
theorem dX5_lacks_53 : decode cX5_lacks 53 = .ok (.aload_n 0, 1) := by decide +kernel
theorem dX5_lacks_54 : decode cX5_lacks 54 = .ok (.iconst 2, 1) := by decide +kernel
theorem dX5_lacks_55 : decode cX5_lacks 55 = .ok (.invokevirtual 68, 3) := by decide +kernel
theorem dX5_lacks_58 : decode cX5_lacks 58 = .ok (.ireturn, 1) := by decide +kernel
set_option maxRecDepth 20000 in
theorem ggX5_put_X5_isReel : GoodIn wsX5_put wsX5_isReel := goodIn_r _ [6, 7, 8, 9, 5, 10] (by decide +kernel) (by decide +kernel)
set_option maxRecDepth 20000 in
theorem gX5_put_X5_isReel : GoodIn wsX5_put (va_wsS RX5 62 yX5_isReel wsX5_isReel) := goodIn_app (goodIn_of _ (by decide +kernel)) ggX5_put_X5_isReel
set_option maxRecDepth 20000 in
theorem ggX5_put_X5_in : GoodIn wsX5_put wsX5_in := goodIn_r _ [10] (by decide +kernel) (by decide +kernel)
set_option maxRecDepth 20000 in
theorem gX5_put_X5_in : GoodIn wsX5_put (va_wsS RX5 58 yX5_in wsX5_in) := goodIn_app (goodIn_of _ (by decide +kernel)) ggX5_put_X5_in
set_option maxRecDepth 20000 in
theorem ggX5_put_X5_lacks : GoodIn wsX5_put wsX5_lacks := goodIn_r _ [14, 15, 16, 17, 18, 19, 5, 20, 21, 8, 9, 10, 22, 23, 24, 25, 26, 27, 28, 29, 30, 31, 32, 33, 34, 35, 36, 37, 38, 39, 40, 41, 42, 43, 44, 45, 46, 47, 48, 49, 50, 51, 52] (by decide +kernel) (by decide +kernel)
set_option maxRecDepth 20000 in
theorem gX5_put_X5_lacks : GoodIn wsX5_put (wsV RX5 72 RX5 yX5_lacks wsX5_lacks) := goodIn_app (goodIn_of _ (by decide +kernel)) ggX5_put_X5_lacks
theorem dX5_put_0 : decode cX5_put 0 = .ok (.iload_n 1, 1) := by decide +kernel
theorem dX5_put_1 : decode cX5_put 1 = .ok (.invokestatic 62, 3) := by decide +kernel
theorem dX5_put_4 : decode cX5_put 4 = .ok (.ifCond .eq 15, 3) := by decide +kernel
theorem dX5_put_7 : decode cX5_put 7 = .ok (.iload_n 2, 1) := by decide +kernel
theorem dX5_put_8 : decode cX5_put 8 = .ok (.i2l, 1) := by decide +kernel
theorem dX5_put_9 : decode cX5_put 9 = .ok (.lconst 0, 1) := by decide +kernel
theorem dX5_put_10 : decode cX5_put 10 = .ok (.ldc2_w 66, 3) := by decide +kernel
theorem dX5_put_13 : decode cX5_put 13 = .ok (.invokestatic 58, 3) := by decide +kernel
theorem dX5_put_16 : decode cX5_put 16 = .ok (.ifCond .ne 6, 3) := by decide +kernel
theorem dX5_put_19 : decode cX5_put 19 = .ok (.bipush (-2), 2) := by decide +kernel
theorem dX5_put_21 : decode cX5_put 21 = .ok (.ireturn, 1) := by decide +kernel
theorem dX5_put_22 : decode cX5_put 22 = .ok (.aload_n 0, 1) := by decide +kernel
theorem dX5_put_23 : decode cX5_put 23 = .ok (.iload_n 1, 1) := by decide +kernel
theorem dX5_put_24 : decode cX5_put 24 = .ok (.iload_n 2, 1) := by decide +kernel
theorem dX5_put_25 : decode cX5_put 25 = .ok (.iload_n 3, 1) := by decide +kernel
theorem dX5_put_26 : decode cX5_put 26 = .ok (.invokevirtual 72, 3) := by decide +kernel
theorem dX5_put_29 : decode cX5_put 29 = .ok (.istore 5, 2) := by decide +kernel
theorem dX5_put_31 : decode cX5_put 31 = .ok (.iload 5, 2) := by decide +kernel
theorem dX5_put_33 : decode cX5_put 33 = .ok (.ifCond .eq 6, 3) := by decide +kernel
theorem dX5_put_36 : decode cX5_put 36 = .ok (.iload 5, 2) := by decide +kernel
theorem dX5_put_38 : decode cX5_put 38 = .ok (.ireturn, 1) := by decide +kernel
theorem dX5_put_39 : decode cX5_put 39 = .ok (.aload_n 0, 1) := by decide +kernel
theorem dX5_put_40 : decode cX5_put 40 = .ok (.getfield 22, 3) := by decide +kernel
theorem dX5_put_43 : decode cX5_put 43 = .ok (.sipush 200, 3) := by decide +kernel
theorem dX5_put_46 : decode cX5_put 46 = .ok (.iload_n 1, 1) := by decide +kernel
theorem dX5_put_47 : decode cX5_put 47 = .ok (.imul, 1) := by decide +kernel
theorem dX5_put_48 : decode cX5_put 48 = .ok (.iload_n 3, 1) := by decide +kernel
theorem dX5_put_49 : decode cX5_put 49 = .ok (.iadd, 1) := by decide +kernel
theorem dX5_put_50 : decode cX5_put 50 = .ok (.iload_n 2, 1) := by decide +kernel
theorem dX5_put_51 : decode cX5_put 51 = .ok (.ifCond .ne 9, 3) := by decide +kernel
theorem dX5_put_54 : decode cX5_put 54 = .ok (.iload 4, 2) := by decide +kernel
theorem dX5_put_56 : decode cX5_put 56 = .ok (.i2b, 1) := by decide +kernel
theorem dX5_put_57 : decode cX5_put 57 = .ok (.goto 16, 3) := by decide +kernel
theorem dX5_put_60 : decode cX5_put 60 = .ok (.iload_n 2, 1) := by decide +kernel
theorem dX5_put_61 : decode cX5_put 61 = .ok (.iconst 1, 1) := by decide +kernel
theorem dX5_put_62 : decode cX5_put 62 = .ok (.if_icmp .ne 9, 3) := by decide +kernel
theorem dX5_put_65 : decode cX5_put 65 = .ok (.iload 4, 2) := by decide +kernel
theorem dX5_put_67 : decode cX5_put 67 = .ok (.i2s, 1) := by decide +kernel
theorem dX5_put_68 : decode cX5_put 68 = .ok (.goto 5, 3) := by decide +kernel
theorem dX5_put_71 : decode cX5_put 71 = .ok (.iload 4, 2) := by decide +kernel
theorem dX5_put_73 : decode cX5_put 73 = .ok (.iastore, 1) := by decide +kernel
theorem dX5_put_74 : decode cX5_put 74 = .ok (.iconst 1, 1) := by decide +kernel
theorem dX5_put_75 : decode cX5_put 75 = .ok (.ireturn, 1) := by decide +kernel
set_option maxRecDepth 20000 in
theorem ggX5_get_X5_isReel : GoodIn wsX5_get wsX5_isReel := goodIn_r _ [7, 8, 9, 10, 6, 11] (by decide +kernel) (by decide +kernel)
set_option maxRecDepth 20000 in
theorem gX5_get_X5_isReel : GoodIn wsX5_get (va_wsS RX5 62 yX5_isReel wsX5_isReel) := goodIn_app (goodIn_of _ (by decide +kernel)) ggX5_get_X5_isReel
set_option maxRecDepth 20000 in
theorem ggX5_get_X5_in : GoodIn wsX5_get wsX5_in := goodIn_r _ [11] (by decide +kernel) (by decide +kernel)
set_option maxRecDepth 20000 in
theorem gX5_get_X5_in : GoodIn wsX5_get (va_wsS RX5 58 yX5_in wsX5_in) := goodIn_app (goodIn_of _ (by decide +kernel)) ggX5_get_X5_in
set_option maxRecDepth 20000 in
theorem ggX5_get_X5_lacks : GoodIn wsX5_get wsX5_lacks := goodIn_r _ [15, 16, 17, 18, 19, 20, 6, 21, 22, 9, 10, 11, 23, 24, 25, 26, 27, 28, 29, 30, 31, 32, 33, 34, 35, 36, 37, 38, 39, 40, 41, 42, 43, 44, 45, 46, 47, 48, 49, 50, 51, 52, 53] (by decide +kernel) (by decide +kernel)
set_option maxRecDepth 20000 in
theorem gX5_get_X5_lacks : GoodIn wsX5_get (wsV RX5 72 RX5 yX5_lacks wsX5_lacks) := goodIn_app (goodIn_of _ (by decide +kernel)) ggX5_get_X5_lacks
theorem dX5_get_0 : decode cX5_get 0 = .ok (.iload_n 1, 1) := by decide +kernel
theorem dX5_get_1 : decode cX5_get 1 = .ok (.invokestatic 62, 3) := by decide +kernel
theorem dX5_get_4 : decode cX5_get 4 = .ok (.ifCond .eq 25, 3) := by decide +kernel
theorem dX5_get_7 : decode cX5_get 7 = .ok (.iload_n 2, 1) := by decide +kernel
theorem dX5_get_8 : decode cX5_get 8 = .ok (.i2l, 1) := by decide +kernel
theorem dX5_get_9 : decode cX5_get 9 = .ok (.lconst 0, 1) := by decide +kernel
theorem dX5_get_10 : decode cX5_get 10 = .ok (.ldc2_w 66, 3) := by decide +kernel
theorem dX5_get_13 : decode cX5_get 13 = .ok (.invokestatic 58, 3) := by decide +kernel
theorem dX5_get_16 : decode cX5_get 16 = .ok (.ifCond .eq 13, 3) := by decide +kernel
theorem dX5_get_19 : decode cX5_get 19 = .ok (.aload_n 0, 1) := by decide +kernel
theorem dX5_get_20 : decode cX5_get 20 = .ok (.iload_n 1, 1) := by decide +kernel
theorem dX5_get_21 : decode cX5_get 21 = .ok (.iload_n 2, 1) := by decide +kernel
theorem dX5_get_22 : decode cX5_get 22 = .ok (.iload_n 3, 1) := by decide +kernel
theorem dX5_get_23 : decode cX5_get 23 = .ok (.invokevirtual 72, 3) := by decide +kernel
theorem dX5_get_26 : decode cX5_get 26 = .ok (.ifCond .eq 6, 3) := by decide +kernel
theorem dX5_get_29 : decode cX5_get 29 = .ok (.ldc 76, 2) := by decide +kernel
theorem dX5_get_31 : decode cX5_get 31 = .ok (.ireturn, 1) := by decide +kernel
theorem dX5_get_32 : decode cX5_get 32 = .ok (.aload_n 0, 1) := by decide +kernel
theorem dX5_get_33 : decode cX5_get 33 = .ok (.getfield 22, 3) := by decide +kernel
theorem dX5_get_36 : decode cX5_get 36 = .ok (.sipush 200, 3) := by decide +kernel
theorem dX5_get_39 : decode cX5_get 39 = .ok (.iload_n 1, 1) := by decide +kernel
theorem dX5_get_40 : decode cX5_get 40 = .ok (.imul, 1) := by decide +kernel
theorem dX5_get_41 : decode cX5_get 41 = .ok (.iload_n 3, 1) := by decide +kernel
theorem dX5_get_42 : decode cX5_get 42 = .ok (.iadd, 1) := by decide +kernel
theorem dX5_get_43 : decode cX5_get 43 = .ok (.iaload, 1) := by decide +kernel
theorem dX5_get_44 : decode cX5_get 44 = .ok (.ireturn, 1) := by decide +kernel
set_option maxRecDepth 20000 in
theorem ggX5_copy_X5_isReel : GoodIn wsX5_copy wsX5_isReel := goodIn_r _ [8, 9, 10, 11, 7, 12] (by decide +kernel) (by decide +kernel)
set_option maxRecDepth 20000 in
theorem gX5_copy_X5_isReel : GoodIn wsX5_copy (va_wsS RX5 62 yX5_isReel wsX5_isReel) := goodIn_app (goodIn_of _ (by decide +kernel)) ggX5_copy_X5_isReel
set_option maxRecDepth 20000 in
theorem ggX5_copy_X5_met : GoodIn wsX5_copy wsX5_met := goodIn_r _ [16, 17, 18, 19, 20, 21, 22, 23, 24, 25, 26, 27, 28, 29, 30, 31, 32, 33, 34, 35, 36, 37, 38, 39, 40, 41, 42, 43, 44, 45, 46, 47, 48] (by decide +kernel) (by decide +kernel)
set_option maxRecDepth 20000 in
theorem gX5_copy_X5_met : GoodIn wsX5_copy (wsV RX5 68 RX5 yX5_met wsX5_met) := goodIn_app (goodIn_of _ (by decide +kernel)) ggX5_copy_X5_met
theorem dX5_copy_0 : decode cX5_copy 0 = .ok (.iload_n 1, 1) := by decide +kernel
theorem dX5_copy_1 : decode cX5_copy 1 = .ok (.invokestatic 62, 3) := by decide +kernel
theorem dX5_copy_4 : decode cX5_copy 4 = .ok (.ifCond .eq 10, 3) := by decide +kernel
theorem dX5_copy_7 : decode cX5_copy 7 = .ok (.iload_n 3, 1) := by decide +kernel
theorem dX5_copy_8 : decode cX5_copy 8 = .ok (.invokestatic 62, 3) := by decide +kernel
theorem dX5_copy_11 : decode cX5_copy 11 = .ok (.ifCond .ne 6, 3) := by decide +kernel
theorem dX5_copy_14 : decode cX5_copy 14 = .ok (.bipush (-2), 2) := by decide +kernel
theorem dX5_copy_16 : decode cX5_copy 16 = .ok (.ireturn, 1) := by decide +kernel
theorem dX5_copy_17 : decode cX5_copy 17 = .ok (.aload_n 0, 1) := by decide +kernel
theorem dX5_copy_18 : decode cX5_copy 18 = .ok (.getfield 16, 3) := by decide +kernel
theorem dX5_copy_21 : decode cX5_copy 21 = .ok (.iload_n 1, 1) := by decide +kernel
theorem dX5_copy_22 : decode cX5_copy 22 = .ok (.iaload, 1) := by decide +kernel
theorem dX5_copy_23 : decode cX5_copy 23 = .ok (.ifCond .lt 12, 3) := by decide +kernel
theorem dX5_copy_26 : decode cX5_copy 26 = .ok (.aload_n 0, 1) := by decide +kernel
theorem dX5_copy_27 : decode cX5_copy 27 = .ok (.getfield 16, 3) := by decide +kernel
theorem dX5_copy_30 : decode cX5_copy 30 = .ok (.iload_n 3, 1) := by decide +kernel
theorem dX5_copy_31 : decode cX5_copy 31 = .ok (.iaload, 1) := by decide +kernel
theorem dX5_copy_32 : decode cX5_copy 32 = .ok (.ifCond .ge 9, 3) := by decide +kernel
theorem dX5_copy_35 : decode cX5_copy 35 = .ok (.aload_n 0, 1) := by decide +kernel
theorem dX5_copy_36 : decode cX5_copy 36 = .ok (.iconst 1, 1) := by decide +kernel
theorem dX5_copy_37 : decode cX5_copy 37 = .ok (.invokevirtual 68, 3) := by decide +kernel
theorem dX5_copy_40 : decode cX5_copy 40 = .ok (.ireturn, 1) := by decide +kernel
theorem dX5_copy_41 : decode cX5_copy 41 = .ok (.aload_n 0, 1) := by decide +kernel
theorem dX5_copy_42 : decode cX5_copy 42 = .ok (.getfield 16, 3) := by decide +kernel
theorem dX5_copy_45 : decode cX5_copy 45 = .ok (.iload_n 1, 1) := by decide +kernel
theorem dX5_copy_46 : decode cX5_copy 46 = .ok (.iaload, 1) := by decide +kernel
theorem dX5_copy_47 : decode cX5_copy 47 = .ok (.aload_n 0, 1) := by decide +kernel
theorem dX5_copy_48 : decode cX5_copy 48 = .ok (.getfield 16, 3) := by decide +kernel
theorem dX5_copy_51 : decode cX5_copy 51 = .ok (.iload_n 3, 1) := by decide +kernel
theorem dX5_copy_52 : decode cX5_copy 52 = .ok (.iaload, 1) := by decide +kernel
theorem dX5_copy_53 : decode cX5_copy 53 = .ok (.if_icmp .eq 9, 3) := by decide +kernel
theorem dX5_copy_56 : decode cX5_copy 56 = .ok (.aload_n 0, 1) := by decide +kernel
theorem dX5_copy_57 : decode cX5_copy 57 = .ok (.iconst 4, 1) := by decide +kernel
theorem dX5_copy_58 : decode cX5_copy 58 = .ok (.invokevirtual 68, 3) := by decide +kernel
theorem dX5_copy_61 : decode cX5_copy 61 = .ok (.ireturn, 1) := by decide +kernel
theorem dX5_copy_62 : decode cX5_copy 62 = .ok (.iload_n 2, 1) := by decide +kernel
theorem dX5_copy_63 : decode cX5_copy 63 = .ok (.ifCond .lt 48, 3) := by decide +kernel
theorem dX5_copy_66 : decode cX5_copy 66 = .ok (.iload 4, 2) := by decide +kernel
theorem dX5_copy_68 : decode cX5_copy 68 = .ok (.ifCond .lt 43, 3) := by decide +kernel
theorem dX5_copy_71 : decode cX5_copy 71 = .ok (.iload 5, 2) := by decide +kernel
theorem dX5_copy_73 : decode cX5_copy 73 = .ok (.ifCond .lt 38, 3) := by decide +kernel
