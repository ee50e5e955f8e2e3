theorem dX4_box_36 : decode cX4_box 36 = .ok (.iload 4, 2) := by decide +kernel
theorem dX4_box_38 : decode cX4_box 38 = .ok (.invokevirtual 226, 3) := by decide +kernel
theorem dX4_box_41 : decode cX4_box 41 = .ok (.istore 6, 2) := by decide +kernel
theorem dX4_box_43 : decode cX4_box 43 = .ok (.iload 5, 2) := by decide +kernel
theorem dX4_box_45 : decode cX4_box 45 = .ok (.ifCond .ne 9, 3) := by decide +kernel
theorem dX4_box_48 : decode cX4_box 48 = .ok (.iload 6, 2) := by decide +kernel
theorem dX4_box_50 : decode cX4_box 50 = .ok (.i2l, 1) := by decide +kernel
theorem dX4_box_51 : decode cX4_box 51 = .ok (.goto 18, 3) := by decide +kernel
theorem dX4_box_54 : decode cX4_box 54 = .ok (.aload_n 0, 1) := by decide +kernel
theorem dX4_box_55 : decode cX4_box 55 = .ok (.getfield 39, 3) := by decide +kernel
theorem dX4_box_58 : decode cX4_box 58 = .ok (.aload_n 0, 1) := by decide +kernel
theorem dX4_box_59 : decode cX4_box 59 = .ok (.getfield 52, 3) := by decide +kernel
theorem dX4_box_62 : decode cX4_box 62 = .ok (.iload 5, 2) := by decide +kernel
theorem dX4_box_64 : decode cX4_box 64 = .ok (.iconst 1, 1) := by decide +kernel
theorem dX4_box_65 : decode cX4_box 65 = .ok (.isub, 1) := by decide +kernel
theorem dX4_box_66 : decode cX4_box 66 = .ok (.invokevirtual 166, 3) := by decide +kernel
theorem dX4_box_69 : decode cX4_box 69 = .ok (.lreturn, 1) := by decide +kernel
set_option maxRecDepth 20000 in
theorem ggX4_mean_X4_isBox : GoodIn wsX4_mean wsX4_isBox := goodIn_r _ [7, 8, 9, 10, 11, 12, 13, 14, 15, 16, 17, 18, 19, 20, 21, 6, 22, 23, 24, 25, 26, 178, 179, 180, 181, 182, 183, 184, 185, 186, 187, 188, 189, 190, 191, 192, 193, 194, 195, 196] (by decide +kernel) (by decide +kernel)
set_option maxRecDepth 20000 in
theorem gX4_mean_X4_isBox : GoodIn wsX4_mean (wsV RX4 222 RX4 yX4_isBox wsX4_isBox) := goodIn_app (goodIn_of _ (by decide +kernel)) ggX4_mean_X4_isBox
set_option maxRecDepth 20000 in
theorem ggX4_mean_X4_isWithin : GoodIn wsX4_mean wsX4_isWithin := goodIn_r _ [26] (by decide +kernel) (by decide +kernel)
set_option maxRecDepth 20000 in
theorem gX4_mean_X4_isWithin : GoodIn wsX4_mean (va_wsS RX4 120 yX4_isWithin wsX4_isWithin) := goodIn_app (goodIn_of _ (by decide +kernel)) ggX4_mean_X4_isWithin
set_option maxRecDepth 20000 in
theorem ggX4_mean_X4_asLong : GoodIn wsX4_mean wsX4_asLong := goodIn_r _ [29, 30] (by decide +kernel) (by decide +kernel)
set_option maxRecDepth 20000 in
theorem gX4_mean_X4_asLong : GoodIn wsX4_mean (va_wsS RX4 162 yX4_asLong wsX4_asLong) := goodIn_app (goodIn_of _ (by decide +kernel)) ggX4_mean_X4_asLong
set_option maxRecDepth 20000 in
theorem ggX4_mean_X4_sumGood : GoodIn wsX4_mean wsX4_sumGood := goodIn_r _ [34, 35, 36, 37, 38, 39, 40, 41, 42, 43, 44, 45, 46, 47, 6, 48, 49, 50, 51, 8, 52, 53, 54, 55, 56, 57, 58, 59, 60, 61, 62, 63, 64, 65, 66, 67, 68, 69, 70, 71, 72, 73, 74, 75, 76, 77, 78, 79, 80, 81, 82, 83, 84, 85, 86, 87, 88, 89, 90, 12, 91, 92, 14, 15, 16, 17, 18, 93, 94, 95, 96, 97, 98, 99, 100, 101, 102, 103, 104, 105, 106, 107, 108, 109, 110, 111, 112, 113, 114, 115, 116, 117, 118, 119, 120, 121, 122, 123, 124, 125, 126, 127, 128, 129, 130, 131, 132, 133, 134, 135, 136, 137, 138, 139, 140, 141, 23, 142, 143, 144, 145, 146, 24, 25, 26, 147, 148, 149, 150, 151, 152, 153, 154, 155, 156, 157, 158, 159, 160, 161, 178, 179, 180, 181, 182, 183, 184, 185, 186, 187, 188, 189, 190, 191, 197, 198, 199, 200, 201, 202, 203, 204, 205, 206, 207, 208, 192, 193, 194, 195, 196] (by decide +kernel) (by decide +kernel)
set_option maxRecDepth 20000 in
theorem gX4_mean_X4_sumGood : GoodIn wsX4_mean (wsV RX4 226 RX4 yX4_sumGood wsX4_sumGood) := goodIn_app (goodIn_of _ (by decide +kernel)) ggX4_mean_X4_sumGood
set_option maxRecDepth 20000 in
theorem ggX4_mean_X1_part : GoodIn wsX4_mean wsX1_part := goodIn_r _ [165, 166, 167, 168, 39, 169, 41, 42, 43, 97, 6, 98, 99, 100, 101, 102, 103, 104, 105, 170, 171, 172, 173, 44, 106, 107, 197, 198, 199, 200] (by decide +kernel) (by decide +kernel)
set_option maxRecDepth 20000 in
theorem gX4_mean_X1_part : GoodIn wsX4_mean (wsV RX4 166 RX1 yX1_part wsX1_part) := goodIn_app (goodIn_of _ (by decide +kernel)) ggX4_mean_X1_part
set_option maxRecDepth 20000 in
theorem ggX4_mean_J9_floorDiv_f86c9 : GoodIn wsX4_mean wsJ9_floorDiv_f86c9 := goodIn_r _ [177] (by decide +kernel) (by decide +kernel)
set_option maxRecDepth 20000 in
theorem gX4_mean_J9_floorDiv_f86c9 : GoodIn wsX4_mean (va_wsS RX4 230 yJ9_floorDiv_f86c9 wsJ9_floorDiv_f86c9) := goodIn_app (goodIn_of _ (by decide +kernel)) ggX4_mean_J9_floorDiv_f86c9
theorem dX4_mean_0 : decode cX4_mean 0 = .ok (.aload_n 0, 1) := by decide +kernel
theorem dX4_mean_1 : decode cX4_mean 1 = .ok (.iload_n 1, 1) := by decide +kernel
theorem dX4_mean_2 : decode cX4_mean 2 = .ok (.iload_n 2, 1) := by decide +kernel
theorem dX4_mean_3 : decode cX4_mean 3 = .ok (.iload_n 3, 1) := by decide +kernel
theorem dX4_mean_4 : decode cX4_mean 4 = .ok (.iload 4, 2) := by decide +kernel
theorem dX4_mean_6 : decode cX4_mean 6 = .ok (.invokevirtual 222, 3) := by decide +kernel
theorem dX4_mean_9 : decode cX4_mean 9 = .ok (.ifCond .eq 13, 3) := by decide +kernel
theorem dX4_mean_12 : decode cX4_mean 12 = .ok (.iload 5, 2) := by decide +kernel
theorem dX4_mean_14 : decode cX4_mean 14 = .ok (.iconst 1, 1) := by decide +kernel
theorem dX4_mean_15 : decode cX4_mean 15 = .ok (.iconst 2, 1) := by decide +kernel
theorem dX4_mean_16 : decode cX4_mean 16 = .ok (.invokestatic 120, 3) := by decide +kernel
theorem dX4_mean_19 : decode cX4_mean 19 = .ok (.ifCond .ne 9, 3) := by decide +kernel
theorem dX4_mean_22 : decode cX4_mean 22 = .ok (.bipush (-2), 2) := by decide +kernel
theorem dX4_mean_24 : decode cX4_mean 24 = .ok (.invokestatic 162, 3) := by decide +kernel
theorem dX4_mean_27 : decode cX4_mean 27 = .ok (.lreturn, 1) := by decide +kernel
theorem dX4_mean_28 : decode cX4_mean 28 = .ok (.aload_n 0, 1) := by decide +kernel
theorem dX4_mean_29 : decode cX4_mean 29 = .ok (.aload_n 0, 1) := by decide +kernel
theorem dX4_mean_30 : decode cX4_mean 30 = .ok (.getfield 39, 3) := by decide +kernel
theorem dX4_mean_33 : decode cX4_mean 33 = .ok (.iload_n 1, 1) := by decide +kernel
theorem dX4_mean_34 : decode cX4_mean 34 = .ok (.iload_n 2, 1) := by decide +kernel
theorem dX4_mean_35 : decode cX4_mean 35 = .ok (.iload_n 3, 1) := by decide +kernel
theorem dX4_mean_36 : decode cX4_mean 36 = .ok (.iload 4, 2) := by decide +kernel
theorem dX4_mean_38 : decode cX4_mean 38 = .ok (.invokevirtual 226, 3) := by decide +kernel
theorem dX4_mean_41 : decode cX4_mean 41 = .ok (.istore 6, 2) := by decide +kernel
theorem dX4_mean_43 : decode cX4_mean 43 = .ok (.iload 6, 2) := by decide +kernel
theorem dX4_mean_45 : decode cX4_mean 45 = .ok (.ifCond .ne 9, 3) := by decide +kernel
theorem dX4_mean_48 : decode cX4_mean 48 = .ok (.bipush (-3), 2) := by decide +kernel
theorem dX4_mean_50 : decode cX4_mean 50 = .ok (.invokestatic 162, 3) := by decide +kernel
theorem dX4_mean_53 : decode cX4_mean 53 = .ok (.lreturn, 1) := by decide +kernel
theorem dX4_mean_54 : decode cX4_mean 54 = .ok (.aload_n 0, 1) := by decide +kernel
theorem dX4_mean_55 : decode cX4_mean 55 = .ok (.getfield 39, 3) := by decide +kernel
theorem dX4_mean_58 : decode cX4_mean 58 = .ok (.aload_n 0, 1) := by decide +kernel
theorem dX4_mean_59 : decode cX4_mean 59 = .ok (.getfield 52, 3) := by decide +kernel
theorem dX4_mean_62 : decode cX4_mean 62 = .ok (.iload 5, 2) := by decide +kernel
theorem dX4_mean_64 : decode cX4_mean 64 = .ok (.iconst 1, 1) := by decide +kernel
theorem dX4_mean_65 : decode cX4_mean 65 = .ok (.isub, 1) := by decide +kernel
theorem dX4_mean_66 : decode cX4_mean 66 = .ok (.invokevirtual 166, 3) := by decide +kernel
theorem dX4_mean_69 : decode cX4_mean 69 = .ok (.iload 6, 2) := by decide +kernel
theorem dX4_mean_71 : decode cX4_mean 71 = .ok (.i2l, 1) := by decide +kernel
theorem dX4_mean_72 : decode cX4_mean 72 = .ok (.invokestatic 230, 3) := by decide +kernel
theorem dX4_mean_75 : decode cX4_mean 75 = .ok (.lreturn, 1) := by decide +kernel
set_option maxRecDepth 20000 in
theorem ggX4_flow_X3_isSpan : GoodIn wsX4_flow wsX3_isSpan := goodIn_r _ [6, 7, 8, 9, 5, 10, 11, 183, 184, 185, 186, 187] (by decide +kernel) (by decide +kernel)
set_option maxRecDepth 20000 in
theorem gX4_flow_X3_isSpan : GoodIn wsX4_flow (wsV RX4 236 RX3 yX3_isSpan wsX3_isSpan) := goodIn_app (goodIn_of _ (by decide +kernel)) ggX4_flow_X3_isSpan
set_option maxRecDepth 20000 in
theorem ggX4_flow_X4_isWithin : GoodIn wsX4_flow wsX4_isWithin := goodIn_r _ [15] (by decide +kernel) (by decide +kernel)
set_option maxRecDepth 20000 in
theorem gX4_flow_X4_isWithin : GoodIn wsX4_flow (va_wsS RX4 120 yX4_isWithin wsX4_isWithin) := goodIn_app (goodIn_of _ (by decide +kernel)) ggX4_flow_X4_isWithin
set_option maxRecDepth 20000 in
theorem ggX4_flow_X4_asLong : GoodIn wsX4_flow wsX4_asLong := goodIn_r _ [18, 19] (by decide +kernel) (by decide +kernel)
set_option maxRecDepth 20000 in
theorem gX4_flow_X4_asLong : GoodIn wsX4_flow (va_wsS RX4 162 yX4_asLong wsX4_asLong) := goodIn_app (goodIn_of _ (by decide +kernel)) ggX4_flow_X4_asLong
set_option maxRecDepth 20000 in
theorem ggX4_flow_X4_flowOfPing : GoodIn wsX4_flow wsX4_flowOfPing := goodIn_r _ [23, 24, 25, 26, 27, 14, 28, 29, 30, 31, 1, 32, 33, 34, 35, 36, 37, 38, 39, 40, 41, 42, 43, 44, 45, 46, 47, 48, 49, 50, 51, 52, 53, 54, 55, 56, 57, 58, 59, 60, 61, 62, 63, 64, 65, 66, 67, 68, 69, 70, 71, 72, 73, 74, 75, 76, 77, 78, 79, 5, 80, 81, 7, 8, 9, 10, 11, 82, 83, 84, 85, 86, 87, 88, 89, 90, 91, 92, 93, 94, 95, 96, 97, 98, 99, 100, 101, 102, 103, 104, 105, 106, 107, 108, 109, 110, 111, 112, 113, 114, 115, 116, 117, 118, 119, 120, 121, 122, 123, 124, 125, 126, 127, 128, 129, 130, 131, 132, 133, 134, 135, 12, 13, 15, 136, 137, 138, 139, 140, 141, 142, 143, 144, 145, 146, 147, 148, 149, 150, 151, 152, 153, 154, 155, 156, 157, 158, 159, 160, 161, 162, 163, 164, 165, 166, 167, 168, 169, 170, 171, 172, 173, 174, 175, 176, 177, 178, 179, 180, 181, 182, 188, 189, 190, 191, 192, 193, 194, 195, 196, 197, 198, 199, 183, 184, 185, 186, 187] (by decide +kernel) (by decide +kernel)
set_option maxRecDepth 20000 in
theorem gX4_flow_X4_flowOfPing : GoodIn wsX4_flow (wsV RX4 239 RX4 yX4_flowOfPing wsX4_flowOfPing) := goodIn_app (goodIn_of _ (by decide +kernel)) ggX4_flow_X4_flowOfPing
theorem dX4_flow_0 : decode cX4_flow 0 = .ok (.aload_n 0, 1) := by decide +kernel
theorem dX4_flow_1 : decode cX4_flow 1 = .ok (.getfield 18, 3) := by decide +kernel
theorem dX4_flow_4 : decode cX4_flow 4 = .ok (.iload_n 1, 1) := by decide +kernel
theorem dX4_flow_5 : decode cX4_flow 5 = .ok (.iload_n 2, 1) := by decide +kernel
theorem dX4_flow_6 : decode cX4_flow 6 = .ok (.invokevirtual 236, 3) := by decide +kernel
theorem dX4_flow_9 : decode cX4_flow 9 = .ok (.ifCond .eq 17, 3) := by decide +kernel
theorem dX4_flow_12 : decode cX4_flow 12 = .ok (.iload_n 1, 1) := by decide +kernel
theorem dX4_flow_13 : decode cX4_flow 13 = .ok (.iload_n 2, 1) := by decide +kernel
theorem dX4_flow_14 : decode cX4_flow 14 = .ok (.if_icmp .eq 12, 3) := by decide +kernel
theorem dX4_flow_17 : decode cX4_flow 17 = .ok (.iload_n 3, 1) := by decide +kernel
theorem dX4_flow_18 : decode cX4_flow 18 = .ok (.iconst 0, 1) := by decide +kernel
theorem dX4_flow_19 : decode cX4_flow 19 = .ok (.iconst 1, 1) := by decide +kernel
theorem dX4_flow_20 : decode cX4_flow 20 = .ok (.invokestatic 120, 3) := by decide +kernel
theorem dX4_flow_23 : decode cX4_flow 23 = .ok (.ifCond .ne 9, 3) := by decide +kernel
theorem dX4_flow_26 : decode cX4_flow 26 = .ok (.bipush (-2), 2) := by decide +kernel
theorem dX4_flow_28 : decode cX4_flow 28 = .ok (.invokestatic 162, 3) := by decide +kernel
theorem dX4_flow_31 : decode cX4_flow 31 = .ok (.lreturn, 1) := by decide +kernel
theorem dX4_flow_32 : decode cX4_flow 32 = .ok (.lconst 0, 1) := by decide +kernel
theorem dX4_flow_33 : decode cX4_flow 33 = .ok (.lstore 4, 2) := by decide +kernel
theorem dX4_flow_35 : decode cX4_flow 35 = .ok (.iload_n 1, 1) := by decide +kernel
theorem dX4_flow_36 : decode cX4_flow 36 = .ok (.istore 6, 2) := by decide +kernel
theorem dX4_flow_38 : decode cX4_flow 38 = .ok (.iload 6, 2) := by decide +kernel
theorem dX4_flow_40 : decode cX4_flow 40 = .ok (.iload_n 2, 1) := by decide +kernel
theorem dX4_flow_41 : decode cX4_flow 41 = .ok (.if_icmp .ge 30, 3) := by decide +kernel
theorem dX4_flow_44 : decode cX4_flow 44 = .ok (.lload 4, 2) := by decide +kernel
theorem dX4_flow_46 : decode cX4_flow 46 = .ok (.aload_n 0, 1) := by decide +kernel
theorem dX4_flow_47 : decode cX4_flow 47 = .ok (.iload 6, 2) := by decide +kernel
theorem dX4_flow_49 : decode cX4_flow 49 = .ok (.iload_n 3, 1) := by decide +kernel
theorem dX4_flow_50 : decode cX4_flow 50 = .ok (.iconst 1, 1) := by decide +kernel
theorem dX4_flow_51 : decode cX4_flow 51 = .ok (.if_icmp .ne 7, 3) := by decide +kernel
theorem dX4_flow_54 : decode cX4_flow 54 = .ok (.iconst 1, 1) := by decide +kernel
theorem dX4_flow_55 : decode cX4_flow 55 = .ok (.goto 4, 3) := by decide +kernel
theorem dX4_flow_58 : decode cX4_flow 58 = .ok (.iconst 0, 1) := by decide +kernel
theorem dX4_flow_59 : decode cX4_flow 59 = .ok (.invokevirtual 239, 3) := by decide +kernel
theorem dX4_flow_62 : decode cX4_flow 62 = .ok (.ladd, 1) := by decide +kernel
theorem dX4_flow_63 : decode cX4_flow 63 = .ok (.lstore 4, 2) := by decide +kernel
theorem dX4_flow_65 : decode cX4_flow 65 = .ok (.iinc 6 1, 3) := by decide +kernel
theorem dX4_flow_68 : decode cX4_flow 68 = .ok (.goto (-30), 3) := by decide +kernel
theorem dX4_flow_71 : decode cX4_flow 71 = .ok (.lload 4, 2) := by decide +kernel
theorem dX4_flow_73 : decode cX4_flow 73 = .ok (.lreturn, 1) := by decide +kernel
set_option maxRecDepth 20000 in
theorem ggX4_askew_X3_isSpan : GoodIn wsX4_askew wsX3_isSpan := goodIn_r _ [9, 10, 11, 12, 8, 13, 14, 189, 190, 191, 192, 193] (by decide +kernel) (by decide +kernel)
set_option maxRecDepth 20000 in
theorem gX4_askew_X3_isSpan : GoodIn wsX4_askew (wsV RX4 236 RX3 yX3_isSpan wsX3_isSpan) := goodIn_app (goodIn_of _ (by decide +kernel)) ggX4_askew_X3_isSpan
set_option maxRecDepth 20000 in
theorem ggX4_askew_X4_sumGood : GoodIn wsX4_askew wsX4_sumGood := goodIn_r _ [19, 20, 21, 22, 23, 24, 25, 26, 27, 28, 29, 30, 31, 32, 18, 33, 34, 35, 36, 1, 37, 38, 39, 40, 41, 42, 43, 44, 45, 46, 47, 48, 49, 50, 51, 52, 53, 54, 55, 56, 57, 58, 59, 60, 61, 62, 63, 64, 65, 66, 67, 68, 69, 70, 71, 72, 73, 74, 75, 8, 76, 77, 10, 11, 12, 13, 14, 78, 79, 80, 81, 82, 83, 84, 85, 86, 87, 88, 89, 90, 91, 92, 93, 94, 95, 96, 97, 98, 99, 100, 101, 102, 103, 104, 105, 106, 107, 108, 109, 110, 111, 112, 113, 114, 115, 116, 117, 118, 119, 120, 121, 122, 123, 124, 125, 126, 3, 127, 128, 129, 130, 131, 132, 133, 134, 135, 136, 137, 138, 139, 140, 141, 142, 143, 144, 145, 146, 147, 148, 149, 175, 176, 177, 178, 179, 180, 181, 182, 183, 184, 185, 186, 187, 188, 194, 195, 196, 197, 198, 199, 200, 201, 202, 203, 204, 205, 189, 190, 191, 192, 193] (by decide +kernel) (by decide +kernel)
set_option maxRecDepth 20000 in
theorem gX4_askew_X4_sumGood : GoodIn wsX4_askew (wsV RX4 226 RX4 yX4_sumGood wsX4_sumGood) := goodIn_app (goodIn_of _ (by decide +kernel)) ggX4_askew_X4_sumGood
set_option maxRecDepth 20000 in
theorem ggX4_askew_X1_multiply : GoodIn wsX4_askew wsX1_multiply := goodIn_r _ [153, 26, 27, 28, 29, 194, 195, 196, 197] (by decide +kernel) (by decide +kernel)
set_option maxRecDepth 20000 in
theorem gX4_askew_X1_multiply : GoodIn wsX4_askew (wsV RX4 243 RX1 yX1_multiply wsX1_multiply) := goodIn_app (goodIn_of _ (by decide +kernel)) ggX4_askew_X1_multiply
set_option maxRecDepth 20000 in
theorem ggX4_askew_X1_subtract : GoodIn wsX4_askew wsX1_subtract := goodIn_r _ [145, 26, 27, 28, 29, 194, 195, 196, 197] (by decide +kernel) (by decide +kernel)
set_option maxRecDepth 20000 in
theorem gX4_askew_X1_subtract : GoodIn wsX4_askew (wsV RX4 247 RX1 yX1_subtract wsX1_subtract) := goodIn_app (goodIn_of _ (by decide +kernel)) ggX4_askew_X1_subtract
set_option maxRecDepth 20000 in
theorem ggX4_askew_X4_turnOfLeastMiss : GoodIn wsX4_askew wsX4_turnOfLeastMiss := goodIn_r _ [156, 157, 158, 18, 159, 160, 161, 162, 163, 164, 165, 166, 24, 167, 26, 27, 28, 82, 83, 84, 85, 86, 87, 88, 89, 90, 168, 169, 170, 171, 172, 173, 174, 29, 91, 92, 194, 195, 196, 197] (by decide +kernel) (by decide +kernel)
set_option maxRecDepth 20000 in
theorem gX4_askew_X4_turnOfLeastMiss : GoodIn wsX4_askew (va_wsS RX4 251 yX4_turnOfLeastMiss wsX4_turnOfLeastMiss) := goodIn_app (goodIn_of _ (by decide +kernel)) ggX4_askew_X4_turnOfLeastMiss
theorem dX4_askew_0 : decode cX4_askew 0 = .ok (.aload_n 0, 1) := by decide +kernel
theorem dX4_askew_1 : decode cX4_askew 1 = .ok (.getfield 18, 3) := by decide +kernel
theorem dX4_askew_4 : decode cX4_askew 4 = .ok (.iload_n 1, 1) := by decide +kernel
theorem dX4_askew_5 : decode cX4_askew 5 = .ok (.iload_n 2, 1) := by decide +kernel
theorem dX4_askew_6 : decode cX4_askew 6 = .ok (.invokevirtual 236, 3) := by decide +kernel
theorem dX4_askew_9 : decode cX4_askew 9 = .ok (.ifCond .eq 16, 3) := by decide +kernel
theorem dX4_askew_12 : decode cX4_askew 12 = .ok (.aload_n 0, 1) := by decide +kernel
theorem dX4_askew_13 : decode cX4_askew 13 = .ok (.getfield 18, 3) := by decide +kernel
theorem dX4_askew_16 : decode cX4_askew 16 = .ok (.iload_n 3, 1) := by decide +kernel
theorem dX4_askew_17 : decode cX4_askew 17 = .ok (.iload 4, 2) := by decide +kernel
theorem dX4_askew_19 : decode cX4_askew 19 = .ok (.invokevirtual 236, 3) := by decide +kernel
theorem dX4_askew_22 : decode cX4_askew 22 = .ok (.ifCond .ne 6, 3) := by decide +kernel
theorem dX4_askew_25 : decode cX4_askew 25 = .ok (.bipush (-2), 2) := by decide +kernel
theorem dX4_askew_27 : decode cX4_askew 27 = .ok (.ireturn, 1) := by decide +kernel
theorem dX4_askew_28 : decode cX4_askew 28 = .ok (.aload_n 0, 1) := by decide +kernel
theorem dX4_askew_29 : decode cX4_askew 29 = .ok (.aload_n 0, 1) := by decide +kernel
theorem dX4_askew_30 : decode cX4_askew 30 = .ok (.getfield 39, 3) := by decide +kernel
theorem dX4_askew_33 : decode cX4_askew 33 = .ok (.iload_n 1, 1) := by decide +kernel
theorem dX4_askew_34 : decode cX4_askew 34 = .ok (.iload_n 2, 1) := by decide +kernel
theorem dX4_askew_35 : decode cX4_askew 35 = .ok (.iconst 0, 1) := by decide +kernel
theorem dX4_askew_36 : decode cX4_askew 36 = .ok (.aload_n 0, 1) := by decide +kernel
theorem dX4_askew_37 : decode cX4_askew 37 = .ok (.getfield 45, 3) := by decide +kernel
theorem dX4_askew_40 : decode cX4_askew 40 = .ok (.iconst 1, 1) := by decide +kernel
theorem dX4_askew_41 : decode cX4_askew 41 = .ok (.isub, 1) := by decide +kernel
theorem dX4_askew_42 : decode cX4_askew 42 = .ok (.invokevirtual 226, 3) := by decide +kernel
theorem dX4_askew_45 : decode cX4_askew 45 = .ok (.istore 5, 2) := by decide +kernel
theorem dX4_askew_47 : decode cX4_askew 47 = .ok (.aload_n 0, 1) := by decide +kernel
theorem dX4_askew_48 : decode cX4_askew 48 = .ok (.aload_n 0, 1) := by decide +kernel
theorem dX4_askew_49 : decode cX4_askew 49 = .ok (.getfield 42, 3) := by decide +kernel
theorem dX4_askew_52 : decode cX4_askew 52 = .ok (.iload_n 3, 1) := by decide +kernel
theorem dX4_askew_53 : decode cX4_askew 53 = .ok (.iload 4, 2) := by decide +kernel
theorem dX4_askew_55 : decode cX4_askew 55 = .ok (.iconst 0, 1) := by decide +kernel
theorem dX4_askew_56 : decode cX4_askew 56 = .ok (.aload_n 0, 1) := by decide +kernel
theorem dX4_askew_57 : decode cX4_askew 57 = .ok (.getfield 45, 3) := by decide +kernel
theorem dX4_askew_60 : decode cX4_askew 60 = .ok (.iconst 1, 1) := by decide +kernel
theorem dX4_askew_61 : decode cX4_askew 61 = .ok (.isub, 1) := by decide +kernel
theorem dX4_askew_62 : decode cX4_askew 62 = .ok (.invokevirtual 226, 3) := by decide +kernel
theorem dX4_askew_65 : decode cX4_askew 65 = .ok (.istore 6, 2) := by decide +kernel
theorem dX4_askew_67 : decode cX4_askew 67 = .ok (.iload 5, 2) := by decide +kernel
theorem dX4_askew_69 : decode cX4_askew 69 = .ok (.ifCond .eq 8, 3) := by decide +kernel
theorem dX4_askew_72 : decode cX4_askew 72 = .ok (.iload 6, 2) := by decide +kernel
theorem dX4_askew_74 : decode cX4_askew 74 = .ok (.ifCond .ne 6, 3) := by decide +kernel
theorem dX4_askew_77 : decode cX4_askew 77 = .ok (.bipush (-3), 2) := by decide +kernel
theorem dX4_askew_79 : decode cX4_askew 79 = .ok (.ireturn, 1) := by decide +kernel
theorem dX4_askew_80 : decode cX4_askew 80 = .ok (.aload_n 0, 1) := by decide +kernel
theorem dX4_askew_81 : decode cX4_askew 81 = .ok (.getfield 39, 3) := by decide +kernel
theorem dX4_askew_84 : decode cX4_askew 84 = .ok (.iload 6, 2) := by decide +kernel
theorem dX4_askew_86 : decode cX4_askew 86 = .ok (.i2l, 1) := by decide +kernel
theorem dX4_askew_87 : decode cX4_askew 87 = .ok (.invokevirtual 243, 3) := by decide +kernel
theorem dX4_askew_90 : decode cX4_askew 90 = .ok (.aload_n 0, 1) := by decide +kernel
theorem dX4_askew_91 : decode cX4_askew 91 = .ok (.getfield 42, 3) := by decide +kernel
theorem dX4_askew_94 : decode cX4_askew 94 = .ok (.iload 5, 2) := by decide +kernel
theorem dX4_askew_96 : decode cX4_askew 96 = .ok (.i2l, 1) := by decide +kernel
theorem dX4_askew_97 : decode cX4_askew 97 = .ok (.invokevirtual 243, 3) := by decide +kernel
theorem dX4_askew_100 : decode cX4_askew 100 = .ok (.aload_n 0, 1) := by decide +kernel
theorem dX4_askew_101 : decode cX4_askew 101 = .ok (.getfield 39, 3) := by decide +kernel
theorem dX4_askew_104 : decode cX4_askew 104 = .ok (.aload_n 0, 1) := by decide +kernel
theorem dX4_askew_105 : decode cX4_askew 105 = .ok (.getfield 42, 3) := by decide +kernel
theorem dX4_askew_108 : decode cX4_askew 108 = .ok (.invokevirtual 247, 3) := by decide +kernel
theorem dX4_askew_111 : decode cX4_askew 111 = .ok (.aload_n 0, 1) := by decide +kernel
theorem dX4_askew_112 : decode cX4_askew 112 = .ok (.getfield 39, 3) := by decide +kernel
theorem dX4_askew_115 : decode cX4_askew 115 = .ok (.invokestatic 251, 3) := by decide +kernel
theorem dX4_askew_118 : decode cX4_askew 118 = .ok (.ireturn, 1) := by decide +kernel
set_option maxRecDepth 20000 in
theorem ggX4_closes_X3_isPing : GoodIn wsX4_closes wsX3_isPing := goodIn_r _ [7, 8, 46, 47, 48, 49, 50] (by decide +kernel) (by decide +kernel)
set_option maxRecDepth 20000 in
theorem gX4_closes_X3_isPing : GoodIn wsX4_closes (wsV RX4 140 RX3 yX3_isPing wsX3_isPing) := goodIn_app (goodIn_of _ (by decide +kernel)) ggX4_closes_X3_isPing
set_option maxRecDepth 20000 in
theorem ggX4_closes_X4_isWithin : GoodIn wsX4_closes wsX4_isWithin := goodIn_r _ [12] (by decide +kernel) (by decide +kernel)
set_option maxRecDepth 20000 in
theorem gX4_closes_X4_isWithin : GoodIn wsX4_closes (va_wsS RX4 120 yX4_isWithin wsX4_isWithin) := goodIn_app (goodIn_of _ (by decide +kernel)) ggX4_closes_X4_isWithin
set_option maxRecDepth 20000 in
theorem ggX4_closes_X3_areNear : GoodIn wsX4_closes wsX3_areNear := goodIn_r _ [16, 17, 18, 19, 20, 21, 22, 23, 6, 24, 25, 26, 4, 5, 7, 8, 27, 28, 29, 30, 31, 46, 47, 48, 49, 50] (by decide +kernel) (by decide +kernel)
set_option maxRecDepth 20000 in
theorem gX4_closes_X3_areNear : GoodIn wsX4_closes (wsV RX4 255 RX3 yX3_areNear wsX3_areNear) := goodIn_app (goodIn_of _ (by decide +kernel)) ggX4_closes_X3_areNear
theorem dX4_closes_0 : decode cX4_closes 0 = .ok (.aload_n 0, 1) := by decide +kernel
theorem dX4_closes_1 : decode cX4_closes 1 = .ok (.getfield 18, 3) := by decide +kernel
theorem dX4_closes_4 : decode cX4_closes 4 = .ok (.iload_n 1, 1) := by decide +kernel
theorem dX4_closes_5 : decode cX4_closes 5 = .ok (.invokevirtual 140, 3) := by decide +kernel
theorem dX4_closes_8 : decode cX4_closes 8 = .ok (.ifCond .eq 13, 3) := by decide +kernel
theorem dX4_closes_11 : decode cX4_closes 11 = .ok (.iload_n 2, 1) := by decide +kernel
theorem dX4_closes_12 : decode cX4_closes 12 = .ok (.iconst 0, 1) := by decide +kernel
theorem dX4_closes_13 : decode cX4_closes 13 = .ok (.ldc 194, 2) := by decide +kernel
theorem dX4_closes_15 : decode cX4_closes 15 = .ok (.invokestatic 120, 3) := by decide +kernel
theorem dX4_closes_18 : decode cX4_closes 18 = .ok (.ifCond .ne 6, 3) := by decide +kernel
theorem dX4_closes_21 : decode cX4_closes 21 = .ok (.bipush (-2), 2) := by decide +kernel
theorem dX4_closes_23 : decode cX4_closes 23 = .ok (.ireturn, 1) := by decide +kernel
theorem dX4_closes_24 : decode cX4_closes 24 = .ok (.iload_n 1, 1) := by decide +kernel
theorem dX4_closes_25 : decode cX4_closes 25 = .ok (.iconst 2, 1) := by decide +kernel
theorem dX4_closes_26 : decode cX4_closes 26 = .ok (.iadd, 1) := by decide +kernel
theorem dX4_closes_27 : decode cX4_closes 27 = .ok (.istore_n 3, 1) := by decide +kernel
theorem dX4_closes_28 : decode cX4_closes 28 = .ok (.iload_n 3, 1) := by decide +kernel
theorem dX4_closes_29 : decode cX4_closes 29 = .ok (.aload_n 0, 1) := by decide +kernel
theorem dX4_closes_30 : decode cX4_closes 30 = .ok (.getfield 18, 3) := by decide +kernel
theorem dX4_closes_33 : decode cX4_closes 33 = .ok (.getfield 124, 3) := by decide +kernel
theorem dX4_closes_36 : decode cX4_closes 36 = .ok (.if_icmp .ge 24, 3) := by decide +kernel
theorem dX4_closes_39 : decode cX4_closes 39 = .ok (.aload_n 0, 1) := by decide +kernel
theorem dX4_closes_40 : decode cX4_closes 40 = .ok (.getfield 18, 3) := by decide +kernel
theorem dX4_closes_43 : decode cX4_closes 43 = .ok (.iload_n 1, 1) := by decide +kernel
theorem dX4_closes_44 : decode cX4_closes 44 = .ok (.iload_n 3, 1) := by decide +kernel
theorem dX4_closes_45 : decode cX4_closes 45 = .ok (.iload_n 2, 1) := by decide +kernel
theorem dX4_closes_46 : decode cX4_closes 46 = .ok (.invokevirtual 255, 3) := by decide +kernel
theorem dX4_closes_49 : decode cX4_closes 49 = .ok (.ifCond .eq 5, 3) := by decide +kernel
theorem dX4_closes_52 : decode cX4_closes 52 = .ok (.iload_n 3, 1) := by decide +kernel
theorem dX4_closes_53 : decode cX4_closes 53 = .ok (.ireturn, 1) := by decide +kernel
theorem dX4_closes_54 : decode cX4_closes 54 = .ok (.iinc 3 1, 3) := by decide +kernel
theorem dX4_closes_57 : decode cX4_closes 57 = .ok (.goto (-29), 3) := by decide +kernel
theorem dX4_closes_60 : decode cX4_closes 60 = .ok (.iconst (-1), 1) := by decide +kernel
theorem dX4_closes_61 : decode cX4_closes 61 = .ok (.ireturn, 1) := by decide +kernel
set_option maxRecDepth 20000 in
theorem ggX4_count_X4_asNumber : GoodIn wsX4_count wsX4_asNumber := goodIn_r _ [12] (by decide +kernel) (by decide +kernel)
set_option maxRecDepth 20000 in
theorem gX4_count_X4_asNumber : GoodIn wsX4_count (va_wsS RX4 158 yX4_asNumber wsX4_asNumber) := goodIn_app (goodIn_of _ (by decide +kernel)) ggX4_count_X4_asNumber
theorem dX4_count_0 : decode cX4_count 0 = .ok (.iload_n 1, 1) := by decide +kernel
theorem dX4_count_1 : decode cX4_count 1 = .ok (.tableswitch 93 0 7 #[47, 55, 60, 65, 70, 75, 80, 85], 47) := by decide +kernel
theorem dX4_count_48 : decode cX4_count 48 = .ok (.aload_n 0, 1) := by decide +kernel
theorem dX4_count_49 : decode cX4_count 49 = .ok (.getfield 18, 3) := by decide +kernel
theorem dX4_count_52 : decode cX4_count 52 = .ok (.getfield 124, 3) := by decide +kernel
theorem dX4_count_55 : decode cX4_count 55 = .ok (.ireturn, 1) := by decide +kernel
theorem dX4_count_56 : decode cX4_count 56 = .ok (.aload_n 0, 1) := by decide +kernel
theorem dX4_count_57 : decode cX4_count 57 = .ok (.getfield 45, 3) := by decide +kernel
theorem dX4_count_60 : decode cX4_count 60 = .ok (.ireturn, 1) := by decide +kernel
theorem dX4_count_61 : decode cX4_count 61 = .ok (.aload_n 0, 1) := by decide +kernel
theorem dX4_count_62 : decode cX4_count 62 = .ok (.getfield 49, 3) := by decide +kernel
theorem dX4_count_65 : decode cX4_count 65 = .ok (.ireturn, 1) := by decide +kernel
theorem dX4_count_66 : decode cX4_count 66 = .ok (.aload_n 0, 1) := by decide +kernel
theorem dX4_count_67 : decode cX4_count 67 = .ok (.getfield 52, 3) := by decide +kernel
theorem dX4_count_70 : decode cX4_count 70 = .ok (.ireturn, 1) := by decide +kernel
theorem dX4_count_71 : decode cX4_count 71 = .ok (.aload_n 0, 1) := by decide +kernel
theorem dX4_count_72 : decode cX4_count 72 = .ok (.getfield 55, 3) := by decide +kernel
theorem dX4_count_75 : decode cX4_count 75 = .ok (.ireturn, 1) := by decide +kernel
theorem dX4_count_76 : decode cX4_count 76 = .ok (.aload_n 0, 1) := by decide +kernel
theorem dX4_count_77 : decode cX4_count 77 = .ok (.getfield 65, 3) := by decide +kernel
theorem dX4_count_80 : decode cX4_count 80 = .ok (.ireturn, 1) := by decide +kernel
theorem dX4_count_81 : decode cX4_count 81 = .ok (.aload_n 0, 1) := by decide +kernel
theorem dX4_count_82 : decode cX4_count 82 = .ok (.getfield 62, 3) := by decide +kernel
theorem dX4_count_85 : decode cX4_count 85 = .ok (.ireturn, 1) := by decide +kernel
theorem dX4_count_86 : decode cX4_count 86 = .ok (.aload_n 0, 1) := by decide +kernel
theorem dX4_count_87 : decode cX4_count 87 = .ok (.getfield 58, 3) := by decide +kernel
theorem dX4_count_90 : decode cX4_count 90 = .ok (.invokestatic 158, 3) := by decide +kernel
theorem dX4_count_93 : decode cX4_count 93 = .ok (.ireturn, 1) := by decide +kernel
theorem dX4_count_94 : decode cX4_count 94 = .ok (.bipush (-2), 2) := by decide +kernel
theorem dX4_count_96 : decode cX4_count 96 = .ok (.ireturn, 1) := by decide +kernel
set_option maxRecDepth 20000 in
theorem ggX4_digest_X4_count : GoodIn wsX4_digest wsX4_count := goodIn_r _ [8, 3, 9, 10, 11, 12, 13, 14, 15, 16, 17, 7, 18, 164, 165, 166, 167, 168, 169, 170, 171, 172, 173, 174, 175, 176, 177, 178, 179, 180, 181, 182] (by decide +kernel) (by decide +kernel)
set_option maxRecDepth 20000 in
theorem gX4_digest_X4_count : GoodIn wsX4_digest (wsV RX4 262 RX4 yX4_count wsX4_count) := goodIn_app (goodIn_of _ (by decide +kernel)) ggX4_digest_X4_count
set_option maxRecDepth 20000 in
theorem ggX4_digest_X4_digestOfPing : GoodIn wsX4_digest wsX4_digestOfPing := goodIn_r _ [22, 2, 9, 23, 11, 24, 25, 26, 7, 27, 3, 28, 29, 30, 31, 32, 33, 34, 35, 36, 37, 38, 39, 40, 41, 42, 43, 44, 45, 46, 47, 48, 49, 50, 51, 52, 53, 54, 55, 56, 57, 58, 59, 60, 10, 61, 62, 63, 64, 65, 66, 67, 68, 69, 70, 71, 72, 73, 74, 75, 76, 77, 78, 79, 80, 81, 82, 83, 84, 85, 86, 87, 88, 89, 90, 91, 92, 93, 94, 95, 96, 97, 98, 99, 100, 101, 102, 103, 104, 17, 18, 105, 106, 107, 108, 109, 110, 111, 112, 113, 114, 115, 116, 117, 118, 119, 120, 121, 122, 123, 124, 125, 126, 127, 128, 129, 130, 131, 132, 133, 16, 134, 135, 136, 137, 12, 15, 14, 138, 139, 140, 141, 142, 143, 144, 145, 146, 147, 148, 149, 150, 151, 152, 153, 154, 155, 156, 157, 158, 159, 160, 161, 162, 163, 164, 165, 166, 167, 168, 169, 170, 171, 172, 173, 174, 175, 176, 177, 178, 179, 180, 181, 182, 183, 184, 185, 186, 187, 188, 189, 190, 191, 192, 193, 194] (by decide +kernel) (by decide +kernel)
set_option maxRecDepth 20000 in
theorem gX4_digest_X4_digestOfPing : GoodIn wsX4_digest (wsV RX4 265 RX4 yX4_digestOfPing wsX4_digestOfPing) := goodIn_app (goodIn_of _ (by decide +kernel)) ggX4_digest_X4_digestOfPing
theorem dX4_digest_0 : decode cX4_digest 0 = .ok (.ldc2_w 258, 3) := by decide +kernel
theorem dX4_digest_3 : decode cX4_digest 3 = .ok (.lstore_n 1, 1) := by decide +kernel
theorem dX4_digest_4 : decode cX4_digest 4 = .ok (.iconst 0, 1) := by decide +kernel
theorem dX4_digest_5 : decode cX4_digest 5 = .ok (.istore_n 3, 1) := by decide +kernel
theorem dX4_digest_6 : decode cX4_digest 6 = .ok (.iload_n 3, 1) := by decide +kernel
theorem dX4_digest_7 : decode cX4_digest 7 = .ok (.iconst 4, 1) := by decide +kernel
theorem dX4_digest_8 : decode cX4_digest 8 = .ok (.if_icmp .gt 22, 3) := by decide +kernel
theorem dX4_digest_11 : decode cX4_digest 11 = .ok (.ldc2_w 260, 3) := by decide +kernel
theorem dX4_digest_14 : decode cX4_digest 14 = .ok (.lload_n 1, 1) := by decide +kernel
theorem dX4_digest_15 : decode cX4_digest 15 = .ok (.lmul, 1) := by decide +kernel
theorem dX4_digest_16 : decode cX4_digest 16 = .ok (.aload_n 0, 1) := by decide +kernel
theorem dX4_digest_17 : decode cX4_digest 17 = .ok (.iload_n 3, 1) := by decide +kernel
theorem dX4_digest_18 : decode cX4_digest 18 = .ok (.invokevirtual 262, 3) := by decide +kernel
theorem dX4_digest_21 : decode cX4_digest 21 = .ok (.i2l, 1) := by decide +kernel
theorem dX4_digest_22 : decode cX4_digest 22 = .ok (.ladd, 1) := by decide +kernel
theorem dX4_digest_23 : decode cX4_digest 23 = .ok (.lstore_n 1, 1) := by decide +kernel
theorem dX4_digest_24 : decode cX4_digest 24 = .ok (.iinc 3 1, 3) := by decide +kernel
theorem dX4_digest_27 : decode cX4_digest 27 = .ok (.goto (-21), 3) := by decide +kernel
theorem dX4_digest_30 : decode cX4_digest 30 = .ok (.ldc2_w 260, 3) := by decide +kernel
theorem dX4_digest_33 : decode cX4_digest 33 = .ok (.lload_n 1, 1) := by decide +kernel
theorem dX4_digest_34 : decode cX4_digest 34 = .ok (.lmul, 1) := by decide +kernel
theorem dX4_digest_35 : decode cX4_digest 35 = .ok (.aload_n 0, 1) := by decide +kernel
theorem dX4_digest_36 : decode cX4_digest 36 = .ok (.bipush 6, 2) := by decide +kernel
theorem dX4_digest_38 : decode cX4_digest 38 = .ok (.invokevirtual 262, 3) := by decide +kernel
theorem dX4_digest_41 : decode cX4_digest 41 = .ok (.i2l, 1) := by decide +kernel
theorem dX4_digest_42 : decode cX4_digest 42 = .ok (.ladd, 1) := by decide +kernel
theorem dX4_digest_43 : decode cX4_digest 43 = .ok (.lstore_n 1, 1) := by decide +kernel
theorem dX4_digest_44 : decode cX4_digest 44 = .ok (.ldc2_w 260, 3) := by decide +kernel
theorem dX4_digest_47 : decode cX4_digest 47 = .ok (.lload_n 1, 1) := by decide +kernel
theorem dX4_digest_48 : decode cX4_digest 48 = .ok (.lmul, 1) := by decide +kernel
theorem dX4_digest_49 : decode cX4_digest 49 = .ok (.aload_n 0, 1) := by decide +kernel
theorem dX4_digest_50 : decode cX4_digest 50 = .ok (.bipush 7, 2) := by decide +kernel
theorem dX4_digest_52 : decode cX4_digest 52 = .ok (.invokevirtual 262, 3) := by decide +kernel
theorem dX4_digest_55 : decode cX4_digest 55 = .ok (.i2l, 1) := by decide +kernel
theorem dX4_digest_56 : decode cX4_digest 56 = .ok (.ladd, 1) := by decide +kernel
theorem dX4_digest_57 : decode cX4_digest 57 = .ok (.lstore_n 1, 1) := by decide +kernel
theorem dX4_digest_58 : decode cX4_digest 58 = .ok (.iconst 0, 1) := by decide +kernel
theorem dX4_digest_59 : decode cX4_digest 59 = .ok (.istore_n 3, 1) := by decide +kernel
theorem dX4_digest_60 : decode cX4_digest 60 = .ok (.iload_n 3, 1) := by decide +kernel
theorem dX4_digest_61 : decode cX4_digest 61 = .ok (.aload_n 0, 1) := by decide +kernel
theorem dX4_digest_62 : decode cX4_digest 62 = .ok (.getfield 18, 3) := by decide +kernel
theorem dX4_digest_65 : decode cX4_digest 65 = .ok (.getfield 124, 3) := by decide +kernel
theorem dX4_digest_68 : decode cX4_digest 68 = .ok (.if_icmp .ge 16, 3) := by decide +kernel
theorem dX4_digest_71 : decode cX4_digest 71 = .ok (.aload_n 0, 1) := by decide +kernel
theorem dX4_digest_72 : decode cX4_digest 72 = .ok (.lload_n 1, 1) := by decide +kernel
theorem dX4_digest_73 : decode cX4_digest 73 = .ok (.iload_n 3, 1) := by decide +kernel
theorem dX4_digest_74 : decode cX4_digest 74 = .ok (.invokevirtual 265, 3) := by decide +kernel
theorem dX4_digest_77 : decode cX4_digest 77 = .ok (.lstore_n 1, 1) := by decide +kernel
theorem dX4_digest_78 : decode cX4_digest 78 = .ok (.iinc 3 1, 3) := by decide +kernel
theorem dX4_digest_81 : decode cX4_digest 81 = .ok (.goto (-21), 3) := by decide +kernel
theorem dX4_digest_84 : decode cX4_digest 84 = .ok (.lload_n 1, 1) := by decide +kernel
theorem dX4_digest_85 : decode cX4_digest 85 = .ok (.lreturn, 1) := by decide +kernel
theorem dX4_isWithin_0 : decode cX4_isWithin 0 = .ok (.iload_n 0, 1) := by decide +kernel
theorem dX4_isWithin_1 : decode cX4_isWithin 1 = .ok (.iload_n 1, 1) := by decide +kernel
theorem dX4_isWithin_2 : decode cX4_isWithin 2 = .ok (.if_icmp .lt 12, 3) := by decide +kernel
theorem dX4_isWithin_5 : decode cX4_isWithin 5 = .ok (.iload_n 0, 1) := by decide +kernel
theorem dX4_isWithin_6 : decode cX4_isWithin 6 = .ok (.iload_n 2, 1) := by decide +kernel
theorem dX4_isWithin_7 : decode cX4_isWithin 7 = .ok (.if_icmp .gt 7, 3) := by decide +kernel
theorem dX4_isWithin_10 : decode cX4_isWithin 10 = .ok (.iconst 1, 1) := by decide +kernel
theorem dX4_isWithin_11 : decode cX4_isWithin 11 = .ok (.goto 4, 3) := by decide +kernel
theorem dX4_isWithin_14 : decode cX4_isWithin 14 = .ok (.iconst 0, 1) := by decide +kernel
theorem dX4_isWithin_15 : decode cX4_isWithin 15 = .ok (.ireturn, 1) := by decide +kernel
theorem dX4_isReel_0 : decode cX4_isReel 0 = .ok (.iload_n 1, 1) := by decide +kernel
theorem dX4_isReel_1 : decode cX4_isReel 1 = .ok (.ifCond .lt 16, 3) := by decide +kernel
theorem dX4_isReel_4 : decode cX4_isReel 4 = .ok (.iload_n 1, 1) := by decide +kernel
theorem dX4_isReel_5 : decode cX4_isReel 5 = .ok (.aload_n 0, 1) := by decide +kernel
theorem dX4_isReel_6 : decode cX4_isReel 6 = .ok (.getfield 11, 3) := by decide +kernel
theorem dX4_isReel_9 : decode cX4_isReel 9 = .ok (.arraylength, 1) := by decide +kernel
theorem dX4_isReel_10 : decode cX4_isReel 10 = .ok (.if_icmp .ge 7, 3) := by decide +kernel
theorem dX4_isReel_13 : decode cX4_isReel 13 = .ok (.iconst 1, 1) := by decide +kernel
theorem dX4_isReel_14 : decode cX4_isReel 14 = .ok (.goto 4, 3) := by decide +kernel
theorem dX4_isReel_17 : decode cX4_isReel 17 = .ok (.iconst 0, 1) := by decide +kernel
theorem dX4_isReel_18 : decode cX4_isReel 18 = .ok (.ireturn, 1) := by decide +kernel
set_option maxRecDepth 20000 in
theorem ggX4_isForm_X4_isWithin : GoodIn wsX4_isForm wsX4_isWithin := goodIn_r _ [4] (by decide +kernel) (by decide +kernel)
set_option maxRecDepth 20000 in
theorem gX4_isForm_X4_isWithin : GoodIn wsX4_isForm (va_wsS RX4 120 yX4_isWithin wsX4_isWithin) := goodIn_app (goodIn_of _ (by decide +kernel)) ggX4_isForm_X4_isWithin
theorem dX4_isForm_0 : decode cX4_isForm 0 = .ok (.iload_n 0, 1) := by decide +kernel
theorem dX4_isForm_1 : decode cX4_isForm 1 = .ok (.iconst 0, 1) := by decide +kernel
theorem dX4_isForm_2 : decode cX4_isForm 2 = .ok (.iconst 2, 1) := by decide +kernel
theorem dX4_isForm_3 : decode cX4_isForm 3 = .ok (.invokestatic 120, 3) := by decide +kernel
theorem dX4_isForm_6 : decode cX4_isForm 6 = .ok (.ireturn, 1) := by decide +kernel
set_option maxRecDepth 20000 in
theorem ggX4_isTurn_X4_isWithin : GoodIn wsX4_isTurn wsX4_isWithin := goodIn_r _ [4] (by decide +kernel) (by decide +kernel)
set_option maxRecDepth 20000 in
theorem gX4_isTurn_X4_isWithin : GoodIn wsX4_isTurn (va_wsS RX4 120 yX4_isWithin wsX4_isWithin) := goodIn_app (goodIn_of _ (by decide +kernel)) ggX4_isTurn_X4_isWithin
theorem dX4_isTurn_0 : decode cX4_isTurn 0 = .ok (.iload_n 0, 1) := by decide +kernel
theorem dX4_isTurn_1 : decode cX4_isTurn 1 = .ok (.iconst 0, 1) := by decide +kernel
theorem dX4_isTurn_2 : decode cX4_isTurn 2 = .ok (.bipush 35, 2) := by decide +kernel
theorem dX4_isTurn_4 : decode cX4_isTurn 4 = .ok (.invokestatic 120, 3) := by decide +kernel
theorem dX4_isTurn_7 : decode cX4_isTurn 7 = .ok (.ireturn, 1) := by decide +kernel
set_option maxRecDepth 20000 in
theorem ggX4_isPlace_X4_isWithin : GoodIn wsX4_isPlace wsX4_isWithin := goodIn_r _ [6] (by decide +kernel) (by decide +kernel)
set_option maxRecDepth 20000 in
theorem gX4_isPlace_X4_isWithin : GoodIn wsX4_isPlace (va_wsS RX4 120 yX4_isWithin wsX4_isWithin) := goodIn_app (goodIn_of _ (by decide +kernel)) ggX4_isPlace_X4_isWithin
theorem dX4_isPlace_0 : decode cX4_isPlace 0 = .ok (.iload_n 0, 1) := by decide +kernel
theorem dX4_isPlace_1 : decode cX4_isPlace 1 = .ok (.ldc 193, 2) := by decide +kernel
theorem dX4_isPlace_3 : decode cX4_isPlace 3 = .ok (.ldc 194, 2) := by decide +kernel
theorem dX4_isPlace_5 : decode cX4_isPlace 5 = .ok (.invokestatic 120, 3) := by decide +kernel
theorem dX4_isPlace_8 : decode cX4_isPlace 8 = .ok (.ireturn, 1) := by decide +kernel
set_option maxRecDepth 20000 in
theorem ggX4_isPart_X4_isWithin : GoodIn wsX4_isPart wsX4_isWithin := goodIn_r _ [4] (by decide +kernel) (by decide +kernel)
set_option maxRecDepth 20000 in
theorem gX4_isPart_X4_isWithin : GoodIn wsX4_isPart (va_wsS RX4 120 yX4_isWithin wsX4_isWithin) := goodIn_app (goodIn_of _ (by decide +kernel)) ggX4_isPart_X4_isWithin
theorem dX4_isPart_0 : decode cX4_isPart 0 = .ok (.iload_n 0, 1) := by decide +kernel
theorem dX4_isPart_1 : decode cX4_isPart 1 = .ok (.sipush (-20000), 3) := by decide +kernel
theorem dX4_isPart_4 : decode cX4_isPart 4 = .ok (.sipush 20000, 3) := by decide +kernel
theorem dX4_isPart_7 : decode cX4_isPart 7 = .ok (.invokestatic 120, 3) := by decide +kernel
theorem dX4_isPart_10 : decode cX4_isPart 10 = .ok (.ireturn, 1) := by decide +kernel
set_option maxRecDepth 20000 in
theorem ggX4_isCell_X4_isWithin : GoodIn wsX4_isCell wsX4_isWithin := goodIn_r _ [5] (by decide +kernel) (by decide +kernel)
set_option maxRecDepth 20000 in
theorem gX4_isCell_X4_isWithin : GoodIn wsX4_isCell (va_wsS RX4 120 yX4_isWithin wsX4_isWithin) := goodIn_app (goodIn_of _ (by decide +kernel)) ggX4_isCell_X4_isWithin
theorem dX4_isCell_0 : decode cX4_isCell 0 = .ok (.iload_n 1, 1) := by decide +kernel
theorem dX4_isCell_1 : decode cX4_isCell 1 = .ok (.iconst 0, 1) := by decide +kernel
theorem dX4_isCell_2 : decode cX4_isCell 2 = .ok (.aload_n 0, 1) := by decide +kernel
theorem dX4_isCell_3 : decode cX4_isCell 3 = .ok (.getfield 45, 3) := by decide +kernel
theorem dX4_isCell_6 : decode cX4_isCell 6 = .ok (.iconst 1, 1) := by decide +kernel
theorem dX4_isCell_7 : decode cX4_isCell 7 = .ok (.isub, 1) := by decide +kernel
theorem dX4_isCell_8 : decode cX4_isCell 8 = .ok (.invokestatic 120, 3) := by decide +kernel
theorem dX4_isCell_11 : decode cX4_isCell 11 = .ok (.ireturn, 1) := by decide +kernel
set_option maxRecDepth 20000 in
theorem ggX4_isBox_X3_isSpan : GoodIn wsX4_isBox wsX3_isSpan := goodIn_r _ [6, 7, 8, 9, 5, 10, 11, 35, 36, 37, 38, 39] (by decide +kernel) (by decide +kernel)
set_option maxRecDepth 20000 in
theorem gX4_isBox_X3_isSpan : GoodIn wsX4_isBox (wsV RX4 236 RX3 yX3_isSpan wsX3_isSpan) := goodIn_app (goodIn_of _ (by decide +kernel)) ggX4_isBox_X3_isSpan
set_option maxRecDepth 20000 in
theorem ggX4_isBox_X4_isCell : GoodIn wsX4_isBox wsX4_isCell := goodIn_r _ [16, 17, 18, 19, 15, 20, 21, 22, 23, 24, 25, 26, 27, 28, 29, 30, 31, 32, 33, 34] (by decide +kernel) (by decide +kernel)
set_option maxRecDepth 20000 in
theorem gX4_isBox_X4_isCell : GoodIn wsX4_isBox (wsV RX4 202 RX4 yX4_isCell wsX4_isCell) := goodIn_app (goodIn_of _ (by decide +kernel)) ggX4_isBox_X4_isCell
theorem dX4_isBox_0 : decode cX4_isBox 0 = .ok (.aload_n 0, 1) := by decide +kernel
theorem dX4_isBox_1 : decode cX4_isBox 1 = .ok (.getfield 18, 3) := by decide +kernel
theorem dX4_isBox_4 : decode cX4_isBox 4 = .ok (.iload_n 1, 1) := by decide +kernel
theorem dX4_isBox_5 : decode cX4_isBox 5 = .ok (.iload_n 2, 1) := by decide +kernel
theorem dX4_isBox_6 : decode cX4_isBox 6 = .ok (.invokevirtual 236, 3) := by decide +kernel
theorem dX4_isBox_9 : decode cX4_isBox 9 = .ok (.ifCond .eq 30, 3) := by decide +kernel
theorem dX4_isBox_12 : decode cX4_isBox 12 = .ok (.aload_n 0, 1) := by decide +kernel
theorem dX4_isBox_13 : decode cX4_isBox 13 = .ok (.iload_n 3, 1) := by decide +kernel
theorem dX4_isBox_14 : decode cX4_isBox 14 = .ok (.invokevirtual 202, 3) := by decide +kernel
theorem dX4_isBox_17 : decode cX4_isBox 17 = .ok (.ifCond .eq 22, 3) := by decide +kernel
theorem dX4_isBox_20 : decode cX4_isBox 20 = .ok (.aload_n 0, 1) := by decide +kernel
theorem dX4_isBox_21 : decode cX4_isBox 21 = .ok (.iload 4, 2) := by decide +kernel
theorem dX4_isBox_23 : decode cX4_isBox 23 = .ok (.invokevirtual 202, 3) := by decide +kernel
theorem dX4_isBox_26 : decode cX4_isBox 26 = .ok (.ifCond .eq 13, 3) := by decide +kernel
theorem dX4_isBox_29 : decode cX4_isBox 29 = .ok (.iload_n 3, 1) := by decide +kernel
theorem dX4_isBox_30 : decode cX4_isBox 30 = .ok (.iload 4, 2) := by decide +kernel
theorem dX4_isBox_32 : decode cX4_isBox 32 = .ok (.if_icmp .gt 7, 3) := by decide +kernel
theorem dX4_isBox_35 : decode cX4_isBox 35 = .ok (.iconst 1, 1) := by decide +kernel
theorem dX4_isBox_36 : decode cX4_isBox 36 = .ok (.goto 4, 3) := by decide +kernel
theorem dX4_isBox_39 : decode cX4_isBox 39 = .ok (.iconst 0, 1) := by decide +kernel
theorem dX4_isBox_40 : decode cX4_isBox 40 = .ok (.ireturn, 1) := by decide +kernel
theorem dX4_found_0 : decode cX4_found 0 = .ok (.aload_n 0, 1) := by decide +kernel
theorem dX4_found_1 : decode cX4_found 1 = .ok (.iload_n 1, 1) := by decide +kernel
theorem dX4_found_2 : decode cX4_found 2 = .ok (.putfield 65, 3) := by decide +kernel
theorem dX4_found_5 : decode cX4_found 5 = .ok (.bipush (-10), 2) := by decide +kernel
theorem dX4_found_7 : decode cX4_found 7 = .ok (.iload_n 1, 1) := by decide +kernel
theorem dX4_found_8 : decode cX4_found 8 = .ok (.isub, 1) := by decide +kernel
theorem dX4_found_9 : decode cX4_found 9 = .ok (.ireturn, 1) := by decide +kernel
theorem dX4_asLong_0 : decode cX4_asLong 0 = .ok (.ldc2_w 269, 3) := by decide +kernel
theorem dX4_asLong_3 : decode cX4_asLong 3 = .ok (.iload_n 0, 1) := by decide +kernel
theorem dX4_asLong_4 : decode cX4_asLong 4 = .ok (.i2l, 1) := by decide +kernel
theorem dX4_asLong_5 : decode cX4_asLong 5 = .ok (.lsub, 1) := by decide +kernel
theorem dX4_asLong_6 : decode cX4_asLong 6 = .ok (.lreturn, 1) := by decide +kernel
theorem dX4_asNumber_0 : decode cX4_asNumber 0 = .ok (.iload_n 0, 1) := by decide +kernel
theorem dX4_asNumber_1 : decode cX4_asNumber 1 = .ok (.ifCond .eq 7, 3) := by decide +kernel
theorem dX4_asNumber_4 : decode cX4_asNumber 4 = .ok (.iconst 1, 1) := by decide +kernel
theorem dX4_asNumber_5 : decode cX4_asNumber 5 = .ok (.goto 4, 3) := by decide +kernel
theorem dX4_asNumber_8 : decode cX4_asNumber 8 = .ok (.iconst 0, 1) := by decide +kernel
theorem dX4_asNumber_9 : decode cX4_asNumber 9 = .ok (.ireturn, 1) := by decide +kernel
theorem dX4_cOf_0 : decode cX4_cOf 0 = .ok (.iload_n 0, 1) := by decide +kernel
theorem dX4_cOf_1 : decode cX4_cOf 1 = .ok (.ifCond .lt 18, 3) := by decide +kernel
theorem dX4_cOf_4 : decode cX4_cOf 4 = .ok (.iload_n 0, 1) := by decide +kernel
theorem dX4_cOf_5 : decode cX4_cOf 5 = .ok (.bipush 36, 2) := by decide +kernel
theorem dX4_cOf_7 : decode cX4_cOf 7 = .ok (.if_icmp .ge 12, 3) := by decide +kernel
theorem dX4_cOf_10 : decode cX4_cOf 10 = .ok (.getstatic 271, 3) := by decide +kernel
theorem dX4_cOf_13 : decode cX4_cOf 13 = .ok (.iload_n 0, 1) := by decide +kernel
theorem dX4_cOf_14 : decode cX4_cOf 14 = .ok (.iaload, 1) := by decide +kernel
theorem dX4_cOf_15 : decode cX4_cOf 15 = .ok (.i2l, 1) := by decide +kernel
theorem dX4_cOf_16 : decode cX4_cOf 16 = .ok (.goto 4, 3) := by decide +kernel
theorem dX4_cOf_19 : decode cX4_cOf 19 = .ok (.lconst 0, 1) := by decide +kernel
theorem dX4_cOf_20 : decode cX4_cOf 20 = .ok (.lreturn, 1) := by decide +kernel
theorem dX4_sOf_0 : decode cX4_sOf 0 = .ok (.iload_n 0, 1) := by decide +kernel
theorem dX4_sOf_1 : decode cX4_sOf 1 = .ok (.ifCond .lt 24, 3) := by decide +kernel
theorem dX4_sOf_4 : decode cX4_sOf 4 = .ok (.iload_n 0, 1) := by decide +kernel
theorem dX4_sOf_5 : decode cX4_sOf 5 = .ok (.bipush 36, 2) := by decide +kernel
theorem dX4_sOf_7 : decode cX4_sOf 7 = .ok (.if_icmp .ge 18, 3) := by decide +kernel
theorem dX4_sOf_10 : decode cX4_sOf 10 = .ok (.getstatic 271, 3) := by decide +kernel
theorem dX4_sOf_13 : decode cX4_sOf 13 = .ok (.iload_n 0, 1) := by decide +kernel
theorem dX4_sOf_14 : decode cX4_sOf 14 = .ok (.bipush 27, 2) := by decide +kernel
theorem dX4_sOf_16 : decode cX4_sOf 16 = .ok (.iadd, 1) := by decide +kernel
theorem dX4_sOf_17 : decode cX4_sOf 17 = .ok (.bipush 36, 2) := by decide +kernel
theorem dX4_sOf_19 : decode cX4_sOf 19 = .ok (.irem, 1) := by decide +kernel
theorem dX4_sOf_20 : decode cX4_sOf 20 = .ok (.iaload, 1) := by decide +kernel
theorem dX4_sOf_21 : decode cX4_sOf 21 = .ok (.i2l, 1) := by decide +kernel
theorem dX4_sOf_22 : decode cX4_sOf 22 = .ok (.goto 4, 3) := by decide +kernel
theorem dX4_sOf_25 : decode cX4_sOf 25 = .ok (.lconst 0, 1) := by decide +kernel
theorem dX4_sOf_26 : decode cX4_sOf 26 = .ok (.lreturn, 1) := by decide +kernel
set_option maxRecDepth 20000 in
theorem ggX4_xTurned_X4_cOf : GoodIn wsX4_xTurned wsX4_cOf := goodIn_r _ [4, 5] (by decide +kernel) (by decide +kernel)
set_option maxRecDepth 20000 in
theorem gX4_xTurned_X4_cOf : GoodIn wsX4_xTurned (va_wsS RX4 274 yX4_cOf wsX4_cOf) := goodIn_app (goodIn_of _ (by decide +kernel)) ggX4_xTurned_X4_cOf
set_option maxRecDepth 20000 in
theorem ggX4_xTurned_X4_sOf : GoodIn wsX4_xTurned wsX4_sOf := goodIn_r _ [8, 5] (by decide +kernel) (by decide +kernel)
set_option maxRecDepth 20000 in
theorem gX4_xTurned_X4_sOf : GoodIn wsX4_xTurned (va_wsS RX4 277 yX4_sOf wsX4_sOf) := goodIn_app (goodIn_of _ (by decide +kernel)) ggX4_xTurned_X4_sOf
theorem dX4_xTurned_0 : decode cX4_xTurned 0 = .ok (.iload 4, 2) := by decide +kernel
theorem dX4_xTurned_2 : decode cX4_xTurned 2 = .ok (.invokestatic 274, 3) := by decide +kernel
theorem dX4_xTurned_5 : decode cX4_xTurned 5 = .ok (.lload_n 0, 1) := by decide +kernel
theorem dX4_xTurned_6 : decode cX4_xTurned 6 = .ok (.lmul, 1) := by decide +kernel
theorem dX4_xTurned_7 : decode cX4_xTurned 7 = .ok (.iload 4, 2) := by decide +kernel
theorem dX4_xTurned_9 : decode cX4_xTurned 9 = .ok (.invokestatic 277, 3) := by decide +kernel
theorem dX4_xTurned_12 : decode cX4_xTurned 12 = .ok (.lload_n 2, 1) := by decide +kernel
theorem dX4_xTurned_13 : decode cX4_xTurned 13 = .ok (.lmul, 1) := by decide +kernel
theorem dX4_xTurned_14 : decode cX4_xTurned 14 = .ok (.lsub, 1) := by decide +kernel
theorem dX4_xTurned_15 : decode cX4_xTurned 15 = .ok (.lreturn, 1) := by decide +kernel
set_option maxRecDepth 20000 in
theorem ggX4_yTurned_X4_sOf : GoodIn wsX4_yTurned wsX4_sOf := goodIn_r _ [4, 5] (by decide +kernel) (by decide +kernel)
set_option maxRecDepth 20000 in
theorem gX4_yTurned_X4_sOf : GoodIn wsX4_yTurned (va_wsS RX4 277 yX4_sOf wsX4_sOf) := goodIn_app (goodIn_of _ (by decide +kernel)) ggX4_yTurned_X4_sOf
set_option maxRecDepth 20000 in
theorem ggX4_yTurned_X4_cOf : GoodIn wsX4_yTurned wsX4_cOf := goodIn_r _ [8, 5] (by decide +kernel) (by decide +kernel)
set_option maxRecDepth 20000 in
theorem gX4_yTurned_X4_cOf : GoodIn wsX4_yTurned (va_wsS RX4 274 yX4_cOf wsX4_cOf) := goodIn_app (goodIn_of _ (by decide +kernel)) ggX4_yTurned_X4_cOf
theorem dX4_yTurned_0 : decode cX4_yTurned 0 = .ok (.iload 4, 2) := by decide +kernel
theorem dX4_yTurned_2 : decode cX4_yTurned 2 = .ok (.invokestatic 277, 3) := by decide +kernel
theorem dX4_yTurned_5 : decode cX4_yTurned 5 = .ok (.lload_n 0, 1) := by decide +kernel
theorem dX4_yTurned_6 : decode cX4_yTurned 6 = .ok (.lmul, 1) := by decide +kernel
theorem dX4_yTurned_7 : decode cX4_yTurned 7 = .ok (.iload 4, 2) := by decide +kernel
theorem dX4_yTurned_9 : decode cX4_yTurned 9 = .ok (.invokestatic 274, 3) := by decide +kernel
theorem dX4_yTurned_12 : decode cX4_yTurned 12 = .ok (.lload_n 2, 1) := by decide +kernel
theorem dX4_yTurned_13 : decode cX4_yTurned 13 = .ok (.lmul, 1) := by decide +kernel
theorem dX4_yTurned_14 : decode cX4_yTurned 14 = .ok (.ladd, 1) := by decide +kernel
theorem dX4_yTurned_15 : decode cX4_yTurned 15 = .ok (.lreturn, 1) := by decide +kernel
set_option maxRecDepth 20000 in
theorem ggX4_readingOf_X4_isReel : GoodIn wsX4_readingOf wsX4_isReel := goodIn_r _ [6, 1, 14, 15, 16, 17, 18, 19, 20, 21, 22, 23, 24, 25, 26, 27] (by decide +kernel) (by decide +kernel)
set_option maxRecDepth 20000 in
theorem gX4_readingOf_X4_isReel : GoodIn wsX4_readingOf (wsV RX4 69 RX4 yX4_isReel wsX4_isReel) := goodIn_app (goodIn_of _ (by decide +kernel)) ggX4_readingOf_X4_isReel
set_option maxRecDepth 20000 in
theorem ggX4_readingOf_X2_reading : GoodIn wsX4_readingOf wsX2_reading := goodIn_r _ [11, 12, 13, 28, 29, 30] (by decide +kernel) (by decide +kernel)
set_option maxRecDepth 20000 in
theorem gX4_readingOf_X2_reading : GoodIn wsX4_readingOf (wsV RX4 280 RX2 yX2_reading wsX2_reading) := goodIn_app (goodIn_of _ (by decide +kernel)) ggX4_readingOf_X2_reading
theorem dX4_readingOf_0 : decode cX4_readingOf 0 = .ok (.aload_n 0, 1) := by decide +kernel
theorem dX4_readingOf_1 : decode cX4_readingOf 1 = .ok (.iload_n 1, 1) := by decide +kernel
theorem dX4_readingOf_2 : decode cX4_readingOf 2 = .ok (.invokevirtual 69, 3) := by decide +kernel
theorem dX4_readingOf_5 : decode cX4_readingOf 5 = .ok (.ifCond .eq 16, 3) := by decide +kernel
theorem dX4_readingOf_8 : decode cX4_readingOf 8 = .ok (.aload_n 0, 1) := by decide +kernel
theorem dX4_readingOf_9 : decode cX4_readingOf 9 = .ok (.getfield 11, 3) := by decide +kernel
theorem dX4_readingOf_12 : decode cX4_readingOf 12 = .ok (.iload_n 1, 1) := by decide +kernel
theorem dX4_readingOf_13 : decode cX4_readingOf 13 = .ok (.aaload, 1) := by decide +kernel
theorem dX4_readingOf_14 : decode cX4_readingOf 14 = .ok (.iload_n 2, 1) := by decide +kernel
theorem dX4_readingOf_15 : decode cX4_readingOf 15 = .ok (.invokevirtual 280, 3) := by decide +kernel
theorem dX4_readingOf_18 : decode cX4_readingOf 18 = .ok (.goto 5, 3) := by decide +kernel
theorem dX4_readingOf_21 : decode cX4_readingOf 21 = .ok (.bipush (-128), 2) := by decide +kernel
theorem dX4_readingOf_23 : decode cX4_readingOf 23 = .ok (.ireturn, 1) := by decide +kernel
set_option maxRecDepth 20000 in
theorem ggX4_readBeams_X4_readingOf : GoodIn wsX4_readBeams wsX4_readingOf := goodIn_r _ [6, 7, 8, 9, 10, 5, 11, 12, 13, 14, 15, 16, 17, 18, 34, 35, 36, 37, 38, 39, 40, 41, 42, 43, 44, 45, 46, 47, 48, 49, 50] (by decide +kernel) (by decide +kernel)
set_option maxRecDepth 20000 in
theorem gX4_readBeams_X4_readingOf : GoodIn wsX4_readBeams (wsV RX4 283 RX4 yX4_readingOf wsX4_readingOf) := goodIn_app (goodIn_of _ (by decide +kernel)) ggX4_readBeams_X4_readingOf
set_option maxRecDepth 20000 in
theorem ggX4_readBeams_X0_take : GoodIn wsX4_readBeams wsX0_take := goodIn_r _ [23, 24, 25, 26, 27, 28, 29, 30, 22, 31, 32, 5, 33, 51, 52, 53, 54, 55] (by decide +kernel) (by decide +kernel)
set_option maxRecDepth 20000 in
theorem gX4_readBeams_X0_take : GoodIn wsX4_readBeams (wsV RX4 171 RX0 yX0_take wsX0_take) := goodIn_app (goodIn_of _ (by decide +kernel)) ggX4_readBeams_X0_take
theorem dX4_readBeams_0 : decode cX4_readBeams 0 = .ok (.aload_n 0, 1) := by decide +kernel
theorem dX4_readBeams_1 : decode cX4_readBeams 1 = .ok (.iload_n 1, 1) := by decide +kernel
theorem dX4_readBeams_2 : decode cX4_readBeams 2 = .ok (.iload_n 2, 1) := by decide +kernel
theorem dX4_readBeams_3 : decode cX4_readBeams 3 = .ok (.invokevirtual 283, 3) := by decide +kernel
theorem dX4_readBeams_6 : decode cX4_readBeams 6 = .ok (.istore_n 3, 1) := by decide +kernel
theorem dX4_readBeams_7 : decode cX4_readBeams 7 = .ok (.aload_n 0, 1) := by decide +kernel
theorem dX4_readBeams_8 : decode cX4_readBeams 8 = .ok (.iload_n 1, 1) := by decide +kernel
theorem dX4_readBeams_9 : decode cX4_readBeams 9 = .ok (.iconst 1, 1) := by decide +kernel
theorem dX4_readBeams_10 : decode cX4_readBeams 10 = .ok (.iadd, 1) := by decide +kernel
theorem dX4_readBeams_11 : decode cX4_readBeams 11 = .ok (.iload_n 2, 1) := by decide +kernel
theorem dX4_readBeams_12 : decode cX4_readBeams 12 = .ok (.invokevirtual 283, 3) := by decide +kernel
theorem dX4_readBeams_15 : decode cX4_readBeams 15 = .ok (.istore 4, 2) := by decide +kernel
theorem dX4_readBeams_17 : decode cX4_readBeams 17 = .ok (.aload_n 0, 1) := by decide +kernel
theorem dX4_readBeams_18 : decode cX4_readBeams 18 = .ok (.iload_n 1, 1) := by decide +kernel
theorem dX4_readBeams_19 : decode cX4_readBeams 19 = .ok (.iconst 2, 1) := by decide +kernel
theorem dX4_readBeams_20 : decode cX4_readBeams 20 = .ok (.iadd, 1) := by decide +kernel
theorem dX4_readBeams_21 : decode cX4_readBeams 21 = .ok (.iload_n 2, 1) := by decide +kernel
theorem dX4_readBeams_22 : decode cX4_readBeams 22 = .ok (.invokevirtual 283, 3) := by decide +kernel
theorem dX4_readBeams_25 : decode cX4_readBeams 25 = .ok (.istore 5, 2) := by decide +kernel
theorem dX4_readBeams_27 : decode cX4_readBeams 27 = .ok (.aload_n 0, 1) := by decide +kernel
theorem dX4_readBeams_28 : decode cX4_readBeams 28 = .ok (.iload_n 1, 1) := by decide +kernel
theorem dX4_readBeams_29 : decode cX4_readBeams 29 = .ok (.iconst 3, 1) := by decide +kernel
theorem dX4_readBeams_30 : decode cX4_readBeams 30 = .ok (.iadd, 1) := by decide +kernel
theorem dX4_readBeams_31 : decode cX4_readBeams 31 = .ok (.iload_n 2, 1) := by decide +kernel
theorem dX4_readBeams_32 : decode cX4_readBeams 32 = .ok (.invokevirtual 283, 3) := by decide +kernel
theorem dX4_readBeams_35 : decode cX4_readBeams 35 = .ok (.istore 6, 2) := by decide +kernel
theorem dX4_readBeams_37 : decode cX4_readBeams 37 = .ok (.aload_n 0, 1) := by decide +kernel
theorem dX4_readBeams_38 : decode cX4_readBeams 38 = .ok (.getfield 25, 3) := by decide +kernel
theorem dX4_readBeams_41 : decode cX4_readBeams 41 = .ok (.iload_n 3, 1) := by decide +kernel
theorem dX4_readBeams_42 : decode cX4_readBeams 42 = .ok (.iload 4, 2) := by decide +kernel
theorem dX4_readBeams_44 : decode cX4_readBeams 44 = .ok (.iload 5, 2) := by decide +kernel
theorem dX4_readBeams_46 : decode cX4_readBeams 46 = .ok (.iload 6, 2) := by decide +kernel
theorem dX4_readBeams_48 : decode cX4_readBeams 48 = .ok (.invokevirtual 171, 3) := by decide +kernel
theorem dX4_readBeams_51 : decode cX4_readBeams 51 = .ok (.return_, 1) := by decide +kernel
theorem dX4_itemOfCell_0 : decode cX4_itemOfCell 0 = .ok (.aload_n 0, 1) := by decide +kernel
theorem dX4_itemOfCell_1 : decode cX4_itemOfCell 1 = .ok (.getfield 45, 3) := by decide +kernel
theorem dX4_itemOfCell_4 : decode cX4_itemOfCell 4 = .ok (.iload_n 1, 1) := by decide +kernel
theorem dX4_itemOfCell_5 : decode cX4_itemOfCell 5 = .ok (.imul, 1) := by decide +kernel
theorem dX4_itemOfCell_6 : decode cX4_itemOfCell 6 = .ok (.iload_n 2, 1) := by decide +kernel
theorem dX4_itemOfCell_7 : decode cX4_itemOfCell 7 = .ok (.iadd, 1) := by decide +kernel
theorem dX4_itemOfCell_8 : decode cX4_itemOfCell 8 = .ok (.ireturn, 1) := by decide +kernel
set_option maxRecDepth 20000 in
theorem ggX4_findOwn_X1_rest : GoodIn wsX4_findOwn wsX1_rest := goodIn_r _ [10, 11, 12, 13, 14, 119, 120, 121, 122] (by decide +kernel) (by decide +kernel)
set_option maxRecDepth 20000 in
theorem gX4_findOwn_X1_rest : GoodIn wsX4_findOwn (wsV RX4 286 RX1 yX1_rest wsX1_rest) := goodIn_app (goodIn_of _ (by decide +kernel)) ggX4_findOwn_X1_rest
set_option maxRecDepth 20000 in
theorem ggX4_findOwn_X4_readBeams : GoodIn wsX4_findOwn wsX4_readBeams := goodIn_r _ [19, 3, 20, 21, 22, 18, 23, 24, 25, 26, 27, 28, 29, 30, 31, 32, 33, 34, 35, 36, 37, 38, 39, 40, 41, 42, 43, 44, 45, 46, 47, 48, 49, 50, 100, 101, 102, 103, 104, 105, 106, 107, 108, 109, 110, 111, 112, 113, 123, 124, 125, 114, 115, 116, 117, 118] (by decide +kernel) (by decide +kernel)
set_option maxRecDepth 20000 in
theorem gX4_findOwn_X4_readBeams : GoodIn wsX4_findOwn (wsV RX4 212 RX4 yX4_readBeams wsX4_readBeams) := goodIn_app (goodIn_of _ (by decide +kernel)) ggX4_findOwn_X4_readBeams
set_option maxRecDepth 20000 in
theorem ggX4_findOwn_X3_headingOf : GoodIn wsX4_findOwn wsX3_headingOf := goodIn_r _ [55, 56, 57, 58, 59, 54, 60, 61, 126, 127, 128, 129, 130] (by decide +kernel) (by decide +kernel)
set_option maxRecDepth 20000 in
theorem gX4_findOwn_X3_headingOf : GoodIn wsX4_findOwn (wsV RX4 143 RX3 yX3_headingOf wsX3_headingOf) := goodIn_app (goodIn_of _ (by decide +kernel)) ggX4_findOwn_X3_headingOf
set_option maxRecDepth 20000 in
theorem ggX4_findOwn_X1_swing : GoodIn wsX4_findOwn wsX1_swing := goodIn_r _ [65, 11, 12, 66, 18, 67, 68, 69, 70, 71, 72, 73, 74, 75, 76, 119, 120, 121, 122] (by decide +kernel) (by decide +kernel)
set_option maxRecDepth 20000 in
theorem gX4_findOwn_X1_swing : GoodIn wsX4_findOwn (wsV RX4 289 RX1 yX1_swing wsX1_swing) := goodIn_app (goodIn_of _ (by decide +kernel)) ggX4_findOwn_X1_swing
set_option maxRecDepth 20000 in
theorem ggX4_findOwn_X3_isPing : GoodIn wsX4_findOwn wsX3_isPing := goodIn_r _ [60, 61, 126, 127, 128, 129, 130] (by decide +kernel) (by decide +kernel)
set_option maxRecDepth 20000 in
theorem gX4_findOwn_X3_isPing : GoodIn wsX4_findOwn (wsV RX4 140 RX3 yX3_isPing wsX3_isPing) := goodIn_app (goodIn_of _ (by decide +kernel)) ggX4_findOwn_X3_isPing
set_option maxRecDepth 20000 in
theorem ggX4_findOwn_X3_stepX : GoodIn wsX4_findOwn wsX3_stepX := goodIn_r _ [81, 82, 83, 84, 54, 85, 86, 57, 58, 59, 60, 61, 126, 127, 128, 129, 130] (by decide +kernel) (by decide +kernel)
set_option maxRecDepth 20000 in
theorem gX4_findOwn_X3_stepX : GoodIn wsX4_findOwn (wsV RX4 295 RX3 yX3_stepX wsX3_stepX) := goodIn_app (goodIn_of _ (by decide +kernel)) ggX4_findOwn_X3_stepX
set_option maxRecDepth 20000 in
theorem ggX4_findOwn_X3_stepY : GoodIn wsX4_findOwn wsX3_stepY := goodIn_r _ [90, 91, 92, 93, 54, 94, 95, 57, 58, 59, 60, 61, 126, 127, 128, 129, 130] (by decide +kernel) (by decide +kernel)
set_option maxRecDepth 20000 in
theorem gX4_findOwn_X3_stepY : GoodIn wsX4_findOwn (wsV RX4 298 RX3 yX3_stepY wsX3_stepY) := goodIn_app (goodIn_of _ (by decide +kernel)) ggX4_findOwn_X3_stepY
set_option maxRecDepth 20000 in
theorem ggX4_findOwn_X1_hold : GoodIn wsX4_findOwn wsX1_hold := goodIn_r _ [99, 13, 14, 119, 120, 121, 122] (by decide +kernel) (by decide +kernel)
set_option maxRecDepth 20000 in
theorem gX4_findOwn_X1_hold : GoodIn wsX4_findOwn (wsV RX4 301 RX1 yX1_hold wsX1_hold) := goodIn_app (goodIn_of _ (by decide +kernel)) ggX4_findOwn_X1_hold
theorem dX4_findOwn_0 : decode cX4_findOwn 0 = .ok (.aload_n 0, 1) := by decide +kernel
theorem dX4_findOwn_1 : decode cX4_findOwn 1 = .ok (.getfield 32, 3) := by decide +kernel
theorem dX4_findOwn_4 : decode cX4_findOwn 4 = .ok (.invokevirtual 286, 3) := by decide +kernel
theorem dX4_findOwn_7 : decode cX4_findOwn 7 = .ok (.aload_n 0, 1) := by decide +kernel
theorem dX4_findOwn_8 : decode cX4_findOwn 8 = .ok (.getfield 49, 3) := by decide +kernel
theorem dX4_findOwn_11 : decode cX4_findOwn 11 = .ok (.iconst 1, 1) := by decide +kernel
theorem dX4_findOwn_12 : decode cX4_findOwn 12 = .ok (.if_icmp .ne 50, 3) := by decide +kernel
theorem dX4_findOwn_15 : decode cX4_findOwn 15 = .ok (.aload_n 0, 1) := by decide +kernel
theorem dX4_findOwn_16 : decode cX4_findOwn 16 = .ok (.iconst 4, 1) := by decide +kernel
theorem dX4_findOwn_17 : decode cX4_findOwn 17 = .ok (.iload_n 1, 1) := by decide +kernel
theorem dX4_findOwn_18 : decode cX4_findOwn 18 = .ok (.invokevirtual 212, 3) := by decide +kernel
theorem dX4_findOwn_21 : decode cX4_findOwn 21 = .ok (.aload_n 0, 1) := by decide +kernel
theorem dX4_findOwn_22 : decode cX4_findOwn 22 = .ok (.getfield 25, 3) := by decide +kernel
theorem dX4_findOwn_25 : decode cX4_findOwn 25 = .ok (.getfield 175, 3) := by decide +kernel
theorem dX4_findOwn_28 : decode cX4_findOwn 28 = .ok (.ifCond .ne 5, 3) := by decide +kernel
theorem dX4_findOwn_31 : decode cX4_findOwn 31 = .ok (.iconst 0, 1) := by decide +kernel
theorem dX4_findOwn_32 : decode cX4_findOwn 32 = .ok (.ireturn, 1) := by decide +kernel
theorem dX4_findOwn_33 : decode cX4_findOwn 33 = .ok (.aload_n 0, 1) := by decide +kernel
theorem dX4_findOwn_34 : decode cX4_findOwn 34 = .ok (.getfield 32, 3) := by decide +kernel
theorem dX4_findOwn_37 : decode cX4_findOwn 37 = .ok (.aload_n 0, 1) := by decide +kernel
theorem dX4_findOwn_38 : decode cX4_findOwn 38 = .ok (.getfield 25, 3) := by decide +kernel
theorem dX4_findOwn_41 : decode cX4_findOwn 41 = .ok (.getfield 178, 3) := by decide +kernel
theorem dX4_findOwn_44 : decode cX4_findOwn 44 = .ok (.aload_n 0, 1) := by decide +kernel
theorem dX4_findOwn_45 : decode cX4_findOwn 45 = .ok (.getfield 25, 3) := by decide +kernel
theorem dX4_findOwn_48 : decode cX4_findOwn 48 = .ok (.getfield 181, 3) := by decide +kernel
theorem dX4_findOwn_51 : decode cX4_findOwn 51 = .ok (.aload_n 0, 1) := by decide +kernel
theorem dX4_findOwn_52 : decode cX4_findOwn 52 = .ok (.getfield 18, 3) := by decide +kernel
theorem dX4_findOwn_55 : decode cX4_findOwn 55 = .ok (.iload_n 1, 1) := by decide +kernel
theorem dX4_findOwn_56 : decode cX4_findOwn 56 = .ok (.invokevirtual 143, 3) := by decide +kernel
theorem dX4_findOwn_59 : decode cX4_findOwn 59 = .ok (.invokevirtual 289, 3) := by decide +kernel
theorem dX4_findOwn_62 : decode cX4_findOwn 62 = .ok (.aload_n 0, 1) := by decide +kernel
theorem dX4_findOwn_63 : decode cX4_findOwn 63 = .ok (.getfield 49, 3) := by decide +kernel
theorem dX4_findOwn_66 : decode cX4_findOwn 66 = .ok (.iconst 2, 1) := by decide +kernel
theorem dX4_findOwn_67 : decode cX4_findOwn 67 = .ok (.if_icmp .ne 49, 3) := by decide +kernel
theorem dX4_findOwn_70 : decode cX4_findOwn 70 = .ok (.aload_n 0, 1) := by decide +kernel
theorem dX4_findOwn_71 : decode cX4_findOwn 71 = .ok (.getfield 18, 3) := by decide +kernel
theorem dX4_findOwn_74 : decode cX4_findOwn 74 = .ok (.iload_n 1, 1) := by decide +kernel
theorem dX4_findOwn_75 : decode cX4_findOwn 75 = .ok (.iconst 1, 1) := by decide +kernel
theorem dX4_findOwn_76 : decode cX4_findOwn 76 = .ok (.iadd, 1) := by decide +kernel
theorem dX4_findOwn_77 : decode cX4_findOwn 77 = .ok (.invokevirtual 140, 3) := by decide +kernel
theorem dX4_findOwn_80 : decode cX4_findOwn 80 = .ok (.ifCond .ne 5, 3) := by decide +kernel
theorem dX4_findOwn_83 : decode cX4_findOwn 83 = .ok (.iconst 0, 1) := by decide +kernel
theorem dX4_findOwn_84 : decode cX4_findOwn 84 = .ok (.ireturn, 1) := by decide +kernel
theorem dX4_findOwn_85 : decode cX4_findOwn 85 = .ok (.aload_n 0, 1) := by decide +kernel
theorem dX4_findOwn_86 : decode cX4_findOwn 86 = .ok (.getfield 32, 3) := by decide +kernel
theorem dX4_findOwn_89 : decode cX4_findOwn 89 = .ok (.ldc2_w 293, 3) := by decide +kernel
theorem dX4_findOwn_92 : decode cX4_findOwn 92 = .ok (.aload_n 0, 1) := by decide +kernel
theorem dX4_findOwn_93 : decode cX4_findOwn 93 = .ok (.getfield 18, 3) := by decide +kernel
theorem dX4_findOwn_96 : decode cX4_findOwn 96 = .ok (.iload_n 1, 1) := by decide +kernel
theorem dX4_findOwn_97 : decode cX4_findOwn 97 = .ok (.invokevirtual 295, 3) := by decide +kernel
theorem dX4_findOwn_100 : decode cX4_findOwn 100 = .ok (.lmul, 1) := by decide +kernel
theorem dX4_findOwn_101 : decode cX4_findOwn 101 = .ok (.ldc2_w 293, 3) := by decide +kernel
theorem dX4_findOwn_104 : decode cX4_findOwn 104 = .ok (.aload_n 0, 1) := by decide +kernel
theorem dX4_findOwn_105 : decode cX4_findOwn 105 = .ok (.getfield 18, 3) := by decide +kernel
theorem dX4_findOwn_108 : decode cX4_findOwn 108 = .ok (.iload_n 1, 1) := by decide +kernel
theorem dX4_findOwn_109 : decode cX4_findOwn 109 = .ok (.invokevirtual 298, 3) := by decide +kernel
theorem dX4_findOwn_112 : decode cX4_findOwn 112 = .ok (.lmul, 1) := by decide +kernel
theorem dX4_findOwn_113 : decode cX4_findOwn 113 = .ok (.invokevirtual 301, 3) := by decide +kernel
theorem dX4_findOwn_116 : decode cX4_findOwn 116 = .ok (.iconst 1, 1) := by decide +kernel
theorem dX4_findOwn_117 : decode cX4_findOwn 117 = .ok (.ireturn, 1) := by decide +kernel
set_option maxRecDepth 20000 in
theorem ggX4_findPace_X1_rest : GoodIn wsX4_findPace wsX1_rest := goodIn_r _ [9, 10, 11, 12, 13, 64, 65, 66, 67] (by decide +kernel) (by decide +kernel)
set_option maxRecDepth 20000 in
theorem gX4_findPace_X1_rest : GoodIn wsX4_findPace (wsV RX4 286 RX1 yX1_rest wsX1_rest) := goodIn_app (goodIn_of _ (by decide +kernel)) ggX4_findPace_X1_rest
set_option maxRecDepth 20000 in
theorem ggX4_findPace_X3_headingOf : GoodIn wsX4_findPace wsX3_headingOf := goodIn_r _ [18, 19, 20, 21, 22, 17, 23, 24, 68, 69, 70, 71, 72] (by decide +kernel) (by decide +kernel)
set_option maxRecDepth 20000 in
theorem gX4_findPace_X3_headingOf : GoodIn wsX4_findPace (wsV RX4 143 RX3 yX3_headingOf wsX3_headingOf) := goodIn_app (goodIn_of _ (by decide +kernel)) ggX4_findPace_X3_headingOf
set_option maxRecDepth 20000 in
theorem ggX4_findPace_X1_swing : GoodIn wsX4_findPace wsX1_swing := goodIn_r _ [28, 10, 11, 29, 30, 31, 32, 33, 34, 35, 36, 37, 38, 39, 40, 64, 65, 66, 67] (by decide +kernel) (by decide +kernel)
set_option maxRecDepth 20000 in
theorem gX4_findPace_X1_swing : GoodIn wsX4_findPace (wsV RX4 289 RX1 yX1_swing wsX1_swing) := goodIn_app (goodIn_of _ (by decide +kernel)) ggX4_findPace_X1_swing
set_option maxRecDepth 20000 in
theorem ggX4_findPace_X1_subtract : GoodIn wsX4_findPace wsX1_subtract := goodIn_r _ [44, 10, 11, 12, 13, 64, 65, 66, 67] (by decide +kernel) (by decide +kernel)
set_option maxRecDepth 20000 in
theorem gX4_findPace_X1_subtract : GoodIn wsX4_findPace (wsV RX4 247 RX1 yX1_subtract wsX1_subtract) := goodIn_app (goodIn_of _ (by decide +kernel)) ggX4_findPace_X1_subtract
theorem dX4_findPace_0 : decode cX4_findPace 0 = .ok (.aload_n 0, 1) := by decide +kernel
theorem dX4_findPace_1 : decode cX4_findPace 1 = .ok (.getfield 36, 3) := by decide +kernel
theorem dX4_findPace_4 : decode cX4_findPace 4 = .ok (.invokevirtual 286, 3) := by decide +kernel
theorem dX4_findPace_7 : decode cX4_findPace 7 = .ok (.aload_n 0, 1) := by decide +kernel
theorem dX4_findPace_8 : decode cX4_findPace 8 = .ok (.getfield 36, 3) := by decide +kernel
theorem dX4_findPace_11 : decode cX4_findPace 11 = .ok (.aload_n 0, 1) := by decide +kernel
theorem dX4_findPace_12 : decode cX4_findPace 12 = .ok (.getfield 25, 3) := by decide +kernel
theorem dX4_findPace_15 : decode cX4_findPace 15 = .ok (.getfield 178, 3) := by decide +kernel
theorem dX4_findPace_18 : decode cX4_findPace 18 = .ok (.aload_n 0, 1) := by decide +kernel
theorem dX4_findPace_19 : decode cX4_findPace 19 = .ok (.getfield 25, 3) := by decide +kernel
theorem dX4_findPace_22 : decode cX4_findPace 22 = .ok (.getfield 181, 3) := by decide +kernel
theorem dX4_findPace_25 : decode cX4_findPace 25 = .ok (.aload_n 0, 1) := by decide +kernel
theorem dX4_findPace_26 : decode cX4_findPace 26 = .ok (.getfield 18, 3) := by decide +kernel
theorem dX4_findPace_29 : decode cX4_findPace 29 = .ok (.iload_n 1, 1) := by decide +kernel
theorem dX4_findPace_30 : decode cX4_findPace 30 = .ok (.invokevirtual 143, 3) := by decide +kernel
theorem dX4_findPace_33 : decode cX4_findPace 33 = .ok (.invokevirtual 289, 3) := by decide +kernel
theorem dX4_findPace_36 : decode cX4_findPace 36 = .ok (.aload_n 0, 1) := by decide +kernel
theorem dX4_findPace_37 : decode cX4_findPace 37 = .ok (.getfield 36, 3) := by decide +kernel
theorem dX4_findPace_40 : decode cX4_findPace 40 = .ok (.aload_n 0, 1) := by decide +kernel
theorem dX4_findPace_41 : decode cX4_findPace 41 = .ok (.getfield 32, 3) := by decide +kernel
theorem dX4_findPace_44 : decode cX4_findPace 44 = .ok (.invokevirtual 247, 3) := by decide +kernel
theorem dX4_findPace_47 : decode cX4_findPace 47 = .ok (.return_, 1) := by decide +kernel
set_option maxRecDepth 20000 in
theorem ggX4_judge_X4_itemOfCell : GoodIn wsX4_judge wsX4_itemOfCell := goodIn_r _ [10, 11, 64, 65, 66, 67, 68, 69, 70, 71, 72, 73, 74, 75, 76, 77] (by decide +kernel) (by decide +kernel)
set_option maxRecDepth 20000 in
theorem gX4_judge_X4_itemOfCell : GoodIn wsX4_judge (wsV RX4 209 RX4 yX4_itemOfCell wsX4_itemOfCell) := goodIn_app (goodIn_of _ (by decide +kernel)) ggX4_judge_X4_itemOfCell
set_option maxRecDepth 20000 in
theorem ggX4_judge_X4_readBeams : GoodIn wsX4_judge wsX4_readBeams := goodIn_r _ [15, 1, 16, 17, 18, 9, 19, 20, 21, 22, 23, 24, 25, 26, 27, 28, 29, 30, 31, 32, 33, 34, 35, 36, 37, 38, 39, 40, 41, 42, 43, 44, 45, 46, 64, 65, 66, 67, 68, 69, 70, 71, 72, 73, 74, 75, 76, 77, 83, 84, 85, 78, 79, 80, 81, 82] (by decide +kernel) (by decide +kernel)
set_option maxRecDepth 20000 in
theorem gX4_judge_X4_readBeams : GoodIn wsX4_judge (wsV RX4 212 RX4 yX4_readBeams wsX4_readBeams) := goodIn_app (goodIn_of _ (by decide +kernel)) ggX4_judge_X4_readBeams
set_option maxRecDepth 20000 in
theorem ggX4_judge_X3_depthOf : GoodIn wsX4_judge wsX3_depthOf := goodIn_r _ [51, 52, 53, 54, 55, 50, 56, 57, 86, 87, 88, 89, 90] (by decide +kernel) (by decide +kernel)
set_option maxRecDepth 20000 in
theorem gX4_judge_X3_depthOf : GoodIn wsX4_judge (wsV RX4 152 RX3 yX3_depthOf wsX3_depthOf) := goodIn_app (goodIn_of _ (by decide +kernel)) ggX4_judge_X3_depthOf
set_option maxRecDepth 20000 in
theorem ggX4_judge_X4_isWithin : GoodIn wsX4_judge wsX4_isWithin := goodIn_r _ [60] (by decide +kernel) (by decide +kernel)
set_option maxRecDepth 20000 in
theorem gX4_judge_X4_isWithin : GoodIn wsX4_judge (va_wsS RX4 120 yX4_isWithin wsX4_isWithin) := goodIn_app (goodIn_of _ (by decide +kernel)) ggX4_judge_X4_isWithin
set_option maxRecDepth 20000 in
theorem ggX4_judge_X4_isPart : GoodIn wsX4_judge wsX4_isPart := goodIn_r _ [63, 58, 59, 9, 60] (by decide +kernel) (by decide +kernel)
set_option maxRecDepth 20000 in
theorem gX4_judge_X4_isPart : GoodIn wsX4_judge (va_wsS RX4 190 yX4_isPart wsX4_isPart) := goodIn_app (goodIn_of _ (by decide +kernel)) ggX4_judge_X4_isPart
theorem dX4_judge_0 : decode cX4_judge 0 = .ok (.iload_n 3, 1) := by decide +kernel
theorem dX4_judge_1 : decode cX4_judge 1 = .ok (.ifCond .ne 5, 3) := by decide +kernel
theorem dX4_judge_4 : decode cX4_judge 4 = .ok (.iconst 1, 1) := by decide +kernel
theorem dX4_judge_5 : decode cX4_judge 5 = .ok (.ireturn, 1) := by decide +kernel
theorem dX4_judge_6 : decode cX4_judge 6 = .ok (.aload_n 0, 1) := by decide +kernel
theorem dX4_judge_7 : decode cX4_judge 7 = .ok (.iconst 0, 1) := by decide +kernel
theorem dX4_judge_8 : decode cX4_judge 8 = .ok (.aload_n 0, 1) := by decide +kernel
theorem dX4_judge_9 : decode cX4_judge 9 = .ok (.iload_n 1, 1) := by decide +kernel
theorem dX4_judge_10 : decode cX4_judge 10 = .ok (.iload_n 2, 1) := by decide +kernel
theorem dX4_judge_11 : decode cX4_judge 11 = .ok (.invokevirtual 209, 3) := by decide +kernel
theorem dX4_judge_14 : decode cX4_judge 14 = .ok (.invokevirtual 212, 3) := by decide +kernel
theorem dX4_judge_17 : decode cX4_judge 17 = .ok (.aload_n 0, 1) := by decide +kernel
theorem dX4_judge_18 : decode cX4_judge 18 = .ok (.getfield 25, 3) := by decide +kernel
theorem dX4_judge_21 : decode cX4_judge 21 = .ok (.getfield 175, 3) := by decide +kernel
theorem dX4_judge_24 : decode cX4_judge 24 = .ok (.ifCond .ne 5, 3) := by decide +kernel
theorem dX4_judge_27 : decode cX4_judge 27 = .ok (.iconst 2, 1) := by decide +kernel
theorem dX4_judge_28 : decode cX4_judge 28 = .ok (.ireturn, 1) := by decide +kernel
theorem dX4_judge_29 : decode cX4_judge 29 = .ok (.iload_n 2, 1) := by decide +kernel
theorem dX4_judge_30 : decode cX4_judge 30 = .ok (.aload_n 0, 1) := by decide +kernel
theorem dX4_judge_31 : decode cX4_judge 31 = .ok (.getfield 55, 3) := by decide +kernel
theorem dX4_judge_34 : decode cX4_judge 34 = .ok (.iadd, 1) := by decide +kernel
theorem dX4_judge_35 : decode cX4_judge 35 = .ok (.aload_n 0, 1) := by decide +kernel
theorem dX4_judge_36 : decode cX4_judge 36 = .ok (.getfield 18, 3) := by decide +kernel
theorem dX4_judge_39 : decode cX4_judge 39 = .ok (.iload_n 1, 1) := by decide +kernel
theorem dX4_judge_40 : decode cX4_judge 40 = .ok (.invokevirtual 152, 3) := by decide +kernel
theorem dX4_judge_43 : decode cX4_judge 43 = .ok (.if_icmp .lt 5, 3) := by decide +kernel
theorem dX4_judge_46 : decode cX4_judge 46 = .ok (.iconst 3, 1) := by decide +kernel
theorem dX4_judge_47 : decode cX4_judge 47 = .ok (.ireturn, 1) := by decide +kernel
theorem dX4_judge_48 : decode cX4_judge 48 = .ok (.aload_n 0, 1) := by decide +kernel
theorem dX4_judge_49 : decode cX4_judge 49 = .ok (.getfield 25, 3) := by decide +kernel
theorem dX4_judge_52 : decode cX4_judge 52 = .ok (.getfield 187, 3) := by decide +kernel
theorem dX4_judge_55 : decode cX4_judge 55 = .ok (.ifCond .eq 12, 3) := by decide +kernel
theorem dX4_judge_58 : decode cX4_judge 58 = .ok (.aload_n 0, 1) := by decide +kernel
theorem dX4_judge_59 : decode cX4_judge 59 = .ok (.getfield 58, 3) := by decide +kernel
theorem dX4_judge_62 : decode cX4_judge 62 = .ok (.ifCond .ne 5, 3) := by decide +kernel
theorem dX4_judge_65 : decode cX4_judge 65 = .ok (.iconst 4, 1) := by decide +kernel
theorem dX4_judge_66 : decode cX4_judge 66 = .ok (.ireturn, 1) := by decide +kernel
theorem dX4_judge_67 : decode cX4_judge 67 = .ok (.aload_n 0, 1) := by decide +kernel
theorem dX4_judge_68 : decode cX4_judge 68 = .ok (.getfield 25, 3) := by decide +kernel
theorem dX4_judge_71 : decode cX4_judge 71 = .ok (.getfield 184, 3) := by decide +kernel
theorem dX4_judge_74 : decode cX4_judge 74 = .ok (.aload_n 0, 1) := by decide +kernel
theorem dX4_judge_75 : decode cX4_judge 75 = .ok (.getfield 62, 3) := by decide +kernel
theorem dX4_judge_78 : decode cX4_judge 78 = .ok (.ineg, 1) := by decide +kernel
theorem dX4_judge_79 : decode cX4_judge 79 = .ok (.aload_n 0, 1) := by decide +kernel
theorem dX4_judge_80 : decode cX4_judge 80 = .ok (.getfield 62, 3) := by decide +kernel
theorem dX4_judge_83 : decode cX4_judge 83 = .ok (.invokestatic 120, 3) := by decide +kernel
theorem dX4_judge_86 : decode cX4_judge 86 = .ok (.ifCond .ne 5, 3) := by decide +kernel
theorem dX4_judge_89 : decode cX4_judge 89 = .ok (.iconst 5, 1) := by decide +kernel
theorem dX4_judge_90 : decode cX4_judge 90 = .ok (.ireturn, 1) := by decide +kernel
theorem dX4_judge_91 : decode cX4_judge 91 = .ok (.aload_n 0, 1) := by decide +kernel
theorem dX4_judge_92 : decode cX4_judge 92 = .ok (.getfield 25, 3) := by decide +kernel
theorem dX4_judge_95 : decode cX4_judge 95 = .ok (.getfield 178, 3) := by decide +kernel
theorem dX4_judge_98 : decode cX4_judge 98 = .ok (.invokestatic 190, 3) := by decide +kernel
theorem dX4_judge_101 : decode cX4_judge 101 = .ok (.ifCond .eq 20, 3) := by decide +kernel
theorem dX4_judge_104 : decode cX4_judge 104 = .ok (.aload_n 0, 1) := by decide +kernel
theorem dX4_judge_105 : decode cX4_judge 105 = .ok (.getfield 25, 3) := by decide +kernel
theorem dX4_judge_108 : decode cX4_judge 108 = .ok (.getfield 181, 3) := by decide +kernel
theorem dX4_judge_111 : decode cX4_judge 111 = .ok (.invokestatic 190, 3) := by decide +kernel
theorem dX4_judge_114 : decode cX4_judge 114 = .ok (.ifCond .eq 7, 3) := by decide +kernel
theorem dX4_judge_117 : decode cX4_judge 117 = .ok (.iconst 0, 1) := by decide +kernel
theorem dX4_judge_118 : decode cX4_judge 118 = .ok (.goto 5, 3) := by decide +kernel
theorem dX4_judge_121 : decode cX4_judge 121 = .ok (.bipush 6, 2) := by decide +kernel
theorem dX4_judge_123 : decode cX4_judge 123 = .ok (.ireturn, 1) := by decide +kernel
set_option maxRecDepth 20000 in
theorem ggX4_fatesOfPing_X4_findOwn : GoodIn wsX4_fatesOfPing wsX4_findOwn := goodIn_r _ [6, 7, 8, 9, 10, 11, 12, 13, 14, 15, 16, 17, 18, 19, 20, 21, 22, 23, 5, 24, 25, 26, 27, 28, 29, 30, 31, 32, 33, 34, 35, 36, 37, 38, 39, 40, 41, 42, 43, 44, 45, 46, 47, 48, 49, 50, 51, 52, 53, 54, 55, 56, 57, 58, 59, 60, 61, 62, 63, 64, 65, 66, 67, 68, 69, 70, 71, 72, 73, 74, 75, 76, 77, 78, 79, 80, 81, 82, 83, 84, 85, 86, 87, 88, 89, 90, 91, 92, 93, 94, 95, 96, 97, 98, 99, 100, 101, 102, 103, 104, 128, 129, 130, 131, 132, 133, 134, 135, 136, 137, 138, 139, 140, 141, 142, 143, 144, 145, 146, 147, 148, 149, 150, 151, 152, 153, 154, 155, 156, 157, 158] (by decide +kernel) (by decide +kernel)
set_option maxRecDepth 20000 in
theorem gX4_fatesOfPing_X4_findOwn : GoodIn wsX4_fatesOfPing (wsV RX4 155 RX4 yX4_findOwn wsX4_findOwn) := goodIn_app (goodIn_of _ (by decide +kernel)) ggX4_fatesOfPing_X4_findOwn
set_option maxRecDepth 20000 in
theorem ggX4_fatesOfPing_X4_judge : GoodIn wsX4_fatesOfPing wsX4_judge := goodIn_r _ [108, 9, 109, 10, 110, 111, 112, 113, 114, 5, 115, 1, 21, 22, 23, 24, 25, 26, 27, 28, 29, 30, 31, 32, 33, 34, 35, 36, 37, 38, 39, 40, 41, 42, 43, 44, 45, 46, 47, 48, 49, 50, 51, 52, 53, 54, 55, 116, 117, 118, 59, 119, 120, 62, 63, 64, 65, 66, 121, 122, 123, 124, 125, 126, 128, 129, 130, 131, 132, 133, 134, 135, 136, 137, 138, 139, 140, 141, 142, 143, 144, 145, 146, 151, 152, 153, 154, 155, 156, 157, 158] (by decide +kernel) (by decide +kernel)
set_option maxRecDepth 20000 in
theorem gX4_fatesOfPing_X4_judge : GoodIn wsX4_fatesOfPing (wsV RX4 205 RX4 yX4_judge wsX4_judge) := goodIn_app (goodIn_of _ (by decide +kernel)) ggX4_fatesOfPing_X4_judge
set_option maxRecDepth 20000 in
theorem ggX4_fatesOfPing_X4_asNumber : GoodIn wsX4_fatesOfPing wsX4_asNumber := goodIn_r _ [55] (by decide +kernel) (by decide +kernel)
set_option maxRecDepth 20000 in
theorem gX4_fatesOfPing_X4_asNumber : GoodIn wsX4_fatesOfPing (va_wsS RX4 158 yX4_asNumber wsX4_asNumber) := goodIn_app (goodIn_of _ (by decide +kernel)) ggX4_fatesOfPing_X4_asNumber
theorem dX4_fatesOfPing_0 : decode cX4_fatesOfPing 0 = .ok (.aload_n 0, 1) := by decide +kernel
theorem dX4_fatesOfPing_1 : decode cX4_fatesOfPing 1 = .ok (.iload_n 1, 1) := by decide +kernel
theorem dX4_fatesOfPing_2 : decode cX4_fatesOfPing 2 = .ok (.invokevirtual 155, 3) := by decide +kernel
theorem dX4_fatesOfPing_5 : decode cX4_fatesOfPing 5 = .ok (.istore_n 3, 1) := by decide +kernel
theorem dX4_fatesOfPing_6 : decode cX4_fatesOfPing 6 = .ok (.iconst 0, 1) := by decide +kernel
theorem dX4_fatesOfPing_7 : decode cX4_fatesOfPing 7 = .ok (.istore 4, 2) := by decide +kernel
theorem dX4_fatesOfPing_9 : decode cX4_fatesOfPing 9 = .ok (.iconst 0, 1) := by decide +kernel
theorem dX4_fatesOfPing_10 : decode cX4_fatesOfPing 10 = .ok (.istore 5, 2) := by decide +kernel
theorem dX4_fatesOfPing_12 : decode cX4_fatesOfPing 12 = .ok (.iload 5, 2) := by decide +kernel
theorem dX4_fatesOfPing_14 : decode cX4_fatesOfPing 14 = .ok (.aload_n 0, 1) := by decide +kernel
theorem dX4_fatesOfPing_15 : decode cX4_fatesOfPing 15 = .ok (.getfield 45, 3) := by decide +kernel
theorem dX4_fatesOfPing_18 : decode cX4_fatesOfPing 18 = .ok (.if_icmp .ge 34, 3) := by decide +kernel
theorem dX4_fatesOfPing_21 : decode cX4_fatesOfPing 21 = .ok (.iload 4, 2) := by decide +kernel
theorem dX4_fatesOfPing_23 : decode cX4_fatesOfPing 23 = .ok (.aload_n 0, 1) := by decide +kernel
theorem dX4_fatesOfPing_24 : decode cX4_fatesOfPing 24 = .ok (.iload_n 1, 1) := by decide +kernel
theorem dX4_fatesOfPing_25 : decode cX4_fatesOfPing 25 = .ok (.iload 5, 2) := by decide +kernel
theorem dX4_fatesOfPing_27 : decode cX4_fatesOfPing 27 = .ok (.iload_n 3, 1) := by decide +kernel
theorem dX4_fatesOfPing_28 : decode cX4_fatesOfPing 28 = .ok (.invokevirtual 205, 3) := by decide +kernel
theorem dX4_fatesOfPing_31 : decode cX4_fatesOfPing 31 = .ok (.iload_n 2, 1) := by decide +kernel
theorem dX4_fatesOfPing_32 : decode cX4_fatesOfPing 32 = .ok (.if_icmp .ne 7, 3) := by decide +kernel
theorem dX4_fatesOfPing_35 : decode cX4_fatesOfPing 35 = .ok (.iconst 1, 1) := by decide +kernel
theorem dX4_fatesOfPing_36 : decode cX4_fatesOfPing 36 = .ok (.goto 4, 3) := by decide +kernel
theorem dX4_fatesOfPing_39 : decode cX4_fatesOfPing 39 = .ok (.iconst 0, 1) := by decide +kernel
theorem dX4_fatesOfPing_40 : decode cX4_fatesOfPing 40 = .ok (.invokestatic 158, 3) := by decide +kernel
theorem dX4_fatesOfPing_43 : decode cX4_fatesOfPing 43 = .ok (.iadd, 1) := by decide +kernel
theorem dX4_fatesOfPing_44 : decode cX4_fatesOfPing 44 = .ok (.istore 4, 2) := by decide +kernel
