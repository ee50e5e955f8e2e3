theorem dX4_init_119 : decode cX4_init 119 = .ok (.aload_n 0, 1) := by decide +kernel
theorem dX4_init_120 : decode cX4_init 120 = .ok (.getfield 11, 3) := by decide +kernel
theorem dX4_init_123 : decode cX4_init 123 = .ok (.arraylength, 1) := by decide +kernel
theorem dX4_init_124 : decode cX4_init 124 = .ok (.if_icmp .ge 22, 3) := by decide +kernel
theorem dX4_init_127 : decode cX4_init 127 = .ok (.aload_n 0, 1) := by decide +kernel
theorem dX4_init_128 : decode cX4_init 128 = .ok (.getfield 11, 3) := by decide +kernel
theorem dX4_init_131 : decode cX4_init 131 = .ok (.iload_n 1, 1) := by decide +kernel
theorem dX4_init_132 : decode cX4_init 132 = .ok (.new 9, 3) := by decide +kernel
theorem dX4_init_135 : decode cX4_init 135 = .ok (.dup, 1) := by decide +kernel
theorem dX4_init_136 : decode cX4_init 136 = .ok (.invokespecial 68, 3) := by decide +kernel
theorem dX4_init_139 : decode cX4_init 139 = .ok (.aastore, 1) := by decide +kernel
theorem dX4_init_140 : decode cX4_init 140 = .ok (.iinc 1 1, 3) := by decide +kernel
theorem dX4_init_143 : decode cX4_init 143 = .ok (.goto (-25), 3) := by decide +kernel
theorem dX4_init_146 : decode cX4_init 146 = .ok (.return_, 1) := by decide +kernel
set_option maxRecDepth 20000 in
theorem ggX4_reel_X4_isReel : GoodIn wsX4_reel wsX4_isReel := goodIn_r _ [6, 1, 30, 31, 32, 33, 34, 35, 36, 37, 38, 39, 40, 41, 42, 43] (by decide +kernel) (by decide +kernel)
set_option maxRecDepth 20000 in
theorem gX4_reel_X4_isReel : GoodIn wsX4_reel (wsV RX4 69 RX4 yX4_isReel wsX4_isReel) := goodIn_app (goodIn_of _ (by decide +kernel)) ggX4_reel_X4_isReel
set_option maxRecDepth 20000 in
theorem ggX4_reel_X4_isForm : GoodIn wsX4_reel wsX4_isForm := goodIn_r _ [9, 10, 11, 5, 12] (by decide +kernel) (by decide +kernel)
set_option maxRecDepth 20000 in
theorem gX4_reel_X4_isForm : GoodIn wsX4_reel (va_wsS RX4 73 yX4_isForm wsX4_isForm) := goodIn_app (goodIn_of _ (by decide +kernel)) ggX4_reel_X4_isForm
set_option maxRecDepth 20000 in
theorem ggX4_reel_X4_found : GoodIn wsX4_reel wsX4_found := goodIn_r _ [16, 17, 30, 31, 32, 33, 34, 35, 36, 37, 38, 39, 40, 41, 42, 43] (by decide +kernel) (by decide +kernel)
set_option maxRecDepth 20000 in
theorem gX4_reel_X4_found : GoodIn wsX4_reel (wsV RX4 76 RX4 yX4_found wsX4_found) := goodIn_app (goodIn_of _ (by decide +kernel)) ggX4_reel_X4_found
set_option maxRecDepth 20000 in
theorem ggX4_reel_X2_renew : GoodIn wsX4_reel wsX2_renew := goodIn_r _ [22, 23, 24, 25, 26, 27, 28, 29, 44, 45, 46] (by decide +kernel) (by decide +kernel)
set_option maxRecDepth 20000 in
theorem gX4_reel_X2_renew : GoodIn wsX4_reel (wsV RX4 80 RX2 yX2_renew wsX2_renew) := goodIn_app (goodIn_of _ (by decide +kernel)) ggX4_reel_X2_renew
theorem dX4_reel_0 : decode cX4_reel 0 = .ok (.aload_n 0, 1) := by decide +kernel
theorem dX4_reel_1 : decode cX4_reel 1 = .ok (.iload_n 1, 1) := by decide +kernel
theorem dX4_reel_2 : decode cX4_reel 2 = .ok (.invokevirtual 69, 3) := by decide +kernel
theorem dX4_reel_5 : decode cX4_reel 5 = .ok (.ifCond .eq 17, 3) := by decide +kernel
theorem dX4_reel_8 : decode cX4_reel 8 = .ok (.iload_n 2, 1) := by decide +kernel
theorem dX4_reel_9 : decode cX4_reel 9 = .ok (.invokestatic 73, 3) := by decide +kernel
theorem dX4_reel_12 : decode cX4_reel 12 = .ok (.ifCond .eq 10, 3) := by decide +kernel
theorem dX4_reel_15 : decode cX4_reel 15 = .ok (.iload_n 3, 1) := by decide +kernel
theorem dX4_reel_16 : decode cX4_reel 16 = .ok (.sipush 200, 3) := by decide +kernel
theorem dX4_reel_19 : decode cX4_reel 19 = .ok (.if_icmp .le 6, 3) := by decide +kernel
theorem dX4_reel_22 : decode cX4_reel 22 = .ok (.bipush (-2), 2) := by decide +kernel
theorem dX4_reel_24 : decode cX4_reel 24 = .ok (.ireturn, 1) := by decide +kernel
theorem dX4_reel_25 : decode cX4_reel 25 = .ok (.iload_n 3, 1) := by decide +kernel
theorem dX4_reel_26 : decode cX4_reel 26 = .ok (.ifCond .ge 9, 3) := by decide +kernel
theorem dX4_reel_29 : decode cX4_reel 29 = .ok (.aload_n 0, 1) := by decide +kernel
theorem dX4_reel_30 : decode cX4_reel 30 = .ok (.iconst 5, 1) := by decide +kernel
theorem dX4_reel_31 : decode cX4_reel 31 = .ok (.invokevirtual 76, 3) := by decide +kernel
theorem dX4_reel_34 : decode cX4_reel 34 = .ok (.ireturn, 1) := by decide +kernel
theorem dX4_reel_35 : decode cX4_reel 35 = .ok (.aload_n 0, 1) := by decide +kernel
theorem dX4_reel_36 : decode cX4_reel 36 = .ok (.getfield 11, 3) := by decide +kernel
theorem dX4_reel_39 : decode cX4_reel 39 = .ok (.iload_n 1, 1) := by decide +kernel
theorem dX4_reel_40 : decode cX4_reel 40 = .ok (.aaload, 1) := by decide +kernel
theorem dX4_reel_41 : decode cX4_reel 41 = .ok (.iload_n 2, 1) := by decide +kernel
theorem dX4_reel_42 : decode cX4_reel 42 = .ok (.iload_n 3, 1) := by decide +kernel
theorem dX4_reel_43 : decode cX4_reel 43 = .ok (.invokevirtual 80, 3) := by decide +kernel
theorem dX4_reel_46 : decode cX4_reel 46 = .ok (.iload_n 3, 1) := by decide +kernel
theorem dX4_reel_47 : decode cX4_reel 47 = .ok (.ireturn, 1) := by decide +kernel
set_option maxRecDepth 20000 in
theorem ggX4_lose_X4_isReel : GoodIn wsX4_lose wsX4_isReel := goodIn_r _ [6, 1, 23, 24, 25, 26, 27, 28, 29, 30, 31, 32, 33, 34, 35, 36] (by decide +kernel) (by decide +kernel)
set_option maxRecDepth 20000 in
theorem gX4_lose_X4_isReel : GoodIn wsX4_lose (wsV RX4 69 RX4 yX4_isReel wsX4_isReel) := goodIn_app (goodIn_of _ (by decide +kernel)) ggX4_lose_X4_isReel
set_option maxRecDepth 20000 in
theorem ggX4_lose_X2_isLost : GoodIn wsX4_lose wsX2_isLost := goodIn_r _ [11, 12, 37, 38, 39] (by decide +kernel) (by decide +kernel)
set_option maxRecDepth 20000 in
theorem gX4_lose_X2_isLost : GoodIn wsX4_lose (wsV RX4 84 RX2 yX2_isLost wsX2_isLost) := goodIn_app (goodIn_of _ (by decide +kernel)) ggX4_lose_X2_isLost
set_option maxRecDepth 20000 in
theorem ggX4_lose_X4_found : GoodIn wsX4_lose wsX4_found := goodIn_r _ [16, 17, 23, 24, 25, 26, 27, 28, 29, 30, 31, 32, 33, 34, 35, 36] (by decide +kernel) (by decide +kernel)
set_option maxRecDepth 20000 in
theorem gX4_lose_X4_found : GoodIn wsX4_lose (wsV RX4 76 RX4 yX4_found wsX4_found) := goodIn_app (goodIn_of _ (by decide +kernel)) ggX4_lose_X4_found
set_option maxRecDepth 20000 in
theorem ggX4_lose_X2_drop : GoodIn wsX4_lose wsX2_drop := goodIn_r _ [21, 22, 12, 37, 38, 39] (by decide +kernel) (by decide +kernel)
set_option maxRecDepth 20000 in
theorem gX4_lose_X2_drop : GoodIn wsX4_lose (wsV RX4 88 RX2 yX2_drop wsX2_drop) := goodIn_app (goodIn_of _ (by decide +kernel)) ggX4_lose_X2_drop
theorem dX4_lose_0 : decode cX4_lose 0 = .ok (.aload_n 0, 1) := by decide +kernel
theorem dX4_lose_1 : decode cX4_lose 1 = .ok (.iload_n 1, 1) := by decide +kernel
theorem dX4_lose_2 : decode cX4_lose 2 = .ok (.invokevirtual 69, 3) := by decide +kernel
theorem dX4_lose_5 : decode cX4_lose 5 = .ok (.ifCond .ne 6, 3) := by decide +kernel
theorem dX4_lose_8 : decode cX4_lose 8 = .ok (.bipush (-2), 2) := by decide +kernel
theorem dX4_lose_10 : decode cX4_lose 10 = .ok (.ireturn, 1) := by decide +kernel
theorem dX4_lose_11 : decode cX4_lose 11 = .ok (.aload_n 0, 1) := by decide +kernel
theorem dX4_lose_12 : decode cX4_lose 12 = .ok (.getfield 11, 3) := by decide +kernel
theorem dX4_lose_15 : decode cX4_lose 15 = .ok (.iload_n 1, 1) := by decide +kernel
theorem dX4_lose_16 : decode cX4_lose 16 = .ok (.aaload, 1) := by decide +kernel
theorem dX4_lose_17 : decode cX4_lose 17 = .ok (.invokevirtual 84, 3) := by decide +kernel
theorem dX4_lose_20 : decode cX4_lose 20 = .ok (.ifCond .eq 9, 3) := by decide +kernel
theorem dX4_lose_23 : decode cX4_lose 23 = .ok (.aload_n 0, 1) := by decide +kernel
theorem dX4_lose_24 : decode cX4_lose 24 = .ok (.iconst 1, 1) := by decide +kernel
theorem dX4_lose_25 : decode cX4_lose 25 = .ok (.invokevirtual 76, 3) := by decide +kernel
theorem dX4_lose_28 : decode cX4_lose 28 = .ok (.ireturn, 1) := by decide +kernel
theorem dX4_lose_29 : decode cX4_lose 29 = .ok (.aload_n 0, 1) := by decide +kernel
theorem dX4_lose_30 : decode cX4_lose 30 = .ok (.getfield 11, 3) := by decide +kernel
theorem dX4_lose_33 : decode cX4_lose 33 = .ok (.iload_n 1, 1) := by decide +kernel
theorem dX4_lose_34 : decode cX4_lose 34 = .ok (.aaload, 1) := by decide +kernel
theorem dX4_lose_35 : decode cX4_lose 35 = .ok (.invokevirtual 88, 3) := by decide +kernel
theorem dX4_lose_38 : decode cX4_lose 38 = .ok (.ireturn, 1) := by decide +kernel
set_option maxRecDepth 20000 in
theorem ggX4_put_X4_isReel : GoodIn wsX4_put wsX4_isReel := goodIn_r _ [6, 1, 42, 43, 44, 45, 46, 47, 48, 49, 50, 51, 52, 53, 54, 55] (by decide +kernel) (by decide +kernel)
set_option maxRecDepth 20000 in
theorem gX4_put_X4_isReel : GoodIn wsX4_put (wsV RX4 69 RX4 yX4_isReel wsX4_isReel) := goodIn_app (goodIn_of _ (by decide +kernel)) ggX4_put_X4_isReel
set_option maxRecDepth 20000 in
theorem ggX4_put_X4_isForm : GoodIn wsX4_put wsX4_isForm := goodIn_r _ [9, 10, 11, 5, 12] (by decide +kernel) (by decide +kernel)
set_option maxRecDepth 20000 in
theorem gX4_put_X4_isForm : GoodIn wsX4_put (va_wsS RX4 73 yX4_isForm wsX4_isForm) := goodIn_app (goodIn_of _ (by decide +kernel)) ggX4_put_X4_isForm
set_option maxRecDepth 20000 in
theorem ggX4_put_X2_findingAt : GoodIn wsX4_put wsX2_findingAt := goodIn_r _ [17, 18, 19, 20, 21, 16, 22, 23, 24, 25, 26, 27, 56, 57, 58] (by decide +kernel) (by decide +kernel)
set_option maxRecDepth 20000 in
theorem gX4_put_X2_findingAt : GoodIn wsX4_put (wsV RX4 92 RX2 yX2_findingAt wsX2_findingAt) := goodIn_app (goodIn_of _ (by decide +kernel)) ggX4_put_X2_findingAt
set_option maxRecDepth 20000 in
theorem ggX4_put_X4_found : GoodIn wsX4_put wsX4_found := goodIn_r _ [31, 32, 42, 43, 44, 45, 46, 47, 48, 49, 50, 51, 52, 53, 54, 55] (by decide +kernel) (by decide +kernel)
set_option maxRecDepth 20000 in
theorem gX4_put_X4_found : GoodIn wsX4_put (wsV RX4 76 RX4 yX4_found wsX4_found) := goodIn_app (goodIn_of _ (by decide +kernel)) ggX4_put_X4_found
set_option maxRecDepth 20000 in
theorem ggX4_put_X2_store : GoodIn wsX4_put wsX2_store := goodIn_r _ [36, 37, 23, 24, 25, 16, 26, 27, 38, 39, 40, 41, 18, 56, 57, 58] (by decide +kernel) (by decide +kernel)
set_option maxRecDepth 20000 in
theorem gX4_put_X2_store : GoodIn wsX4_put (wsV RX4 96 RX2 yX2_store wsX2_store) := goodIn_app (goodIn_of _ (by decide +kernel)) ggX4_put_X2_store
theorem dX4_put_0 : decode cX4_put 0 = .ok (.aload_n 0, 1) := by decide +kernel
theorem dX4_put_1 : decode cX4_put 1 = .ok (.iload_n 1, 1) := by decide +kernel
theorem dX4_put_2 : decode cX4_put 2 = .ok (.invokevirtual 69, 3) := by decide +kernel
theorem dX4_put_5 : decode cX4_put 5 = .ok (.ifCond .eq 10, 3) := by decide +kernel
theorem dX4_put_8 : decode cX4_put 8 = .ok (.iload_n 2, 1) := by decide +kernel
theorem dX4_put_9 : decode cX4_put 9 = .ok (.invokestatic 73, 3) := by decide +kernel
theorem dX4_put_12 : decode cX4_put 12 = .ok (.ifCond .ne 6, 3) := by decide +kernel
theorem dX4_put_15 : decode cX4_put 15 = .ok (.bipush (-2), 2) := by decide +kernel
theorem dX4_put_17 : decode cX4_put 17 = .ok (.ireturn, 1) := by decide +kernel
theorem dX4_put_18 : decode cX4_put 18 = .ok (.aload_n 0, 1) := by decide +kernel
theorem dX4_put_19 : decode cX4_put 19 = .ok (.getfield 11, 3) := by decide +kernel
theorem dX4_put_22 : decode cX4_put 22 = .ok (.iload_n 1, 1) := by decide +kernel
theorem dX4_put_23 : decode cX4_put 23 = .ok (.aaload, 1) := by decide +kernel
theorem dX4_put_24 : decode cX4_put 24 = .ok (.iload_n 2, 1) := by decide +kernel
theorem dX4_put_25 : decode cX4_put 25 = .ok (.iload_n 3, 1) := by decide +kernel
theorem dX4_put_26 : decode cX4_put 26 = .ok (.invokevirtual 92, 3) := by decide +kernel
theorem dX4_put_29 : decode cX4_put 29 = .ok (.istore 5, 2) := by decide +kernel
theorem dX4_put_31 : decode cX4_put 31 = .ok (.iload 5, 2) := by decide +kernel
theorem dX4_put_33 : decode cX4_put 33 = .ok (.ifCond .eq 10, 3) := by decide +kernel
theorem dX4_put_36 : decode cX4_put 36 = .ok (.aload_n 0, 1) := by decide +kernel
theorem dX4_put_37 : decode cX4_put 37 = .ok (.iload 5, 2) := by decide +kernel
theorem dX4_put_39 : decode cX4_put 39 = .ok (.invokevirtual 76, 3) := by decide +kernel
theorem dX4_put_42 : decode cX4_put 42 = .ok (.ireturn, 1) := by decide +kernel
theorem dX4_put_43 : decode cX4_put 43 = .ok (.aload_n 0, 1) := by decide +kernel
theorem dX4_put_44 : decode cX4_put 44 = .ok (.getfield 11, 3) := by decide +kernel
theorem dX4_put_47 : decode cX4_put 47 = .ok (.iload_n 1, 1) := by decide +kernel
theorem dX4_put_48 : decode cX4_put 48 = .ok (.aaload, 1) := by decide +kernel
theorem dX4_put_49 : decode cX4_put 49 = .ok (.iload_n 3, 1) := by decide +kernel
theorem dX4_put_50 : decode cX4_put 50 = .ok (.iload 4, 2) := by decide +kernel
theorem dX4_put_52 : decode cX4_put 52 = .ok (.invokevirtual 96, 3) := by decide +kernel
theorem dX4_put_55 : decode cX4_put 55 = .ok (.iconst 1, 1) := by decide +kernel
theorem dX4_put_56 : decode cX4_put 56 = .ok (.ireturn, 1) := by decide +kernel
set_option maxRecDepth 20000 in
theorem ggX4_get_X4_isReel : GoodIn wsX4_get wsX4_isReel := goodIn_r _ [7, 2, 39, 40, 41, 42, 43, 44, 45, 46, 47, 48, 49, 50, 51, 52] (by decide +kernel) (by decide +kernel)
set_option maxRecDepth 20000 in
theorem gX4_get_X4_isReel : GoodIn wsX4_get (wsV RX4 69 RX4 yX4_isReel wsX4_isReel) := goodIn_app (goodIn_of _ (by decide +kernel)) ggX4_get_X4_isReel
set_option maxRecDepth 20000 in
theorem ggX4_get_X4_isForm : GoodIn wsX4_get wsX4_isForm := goodIn_r _ [10, 11, 12, 6, 13] (by decide +kernel) (by decide +kernel)
set_option maxRecDepth 20000 in
theorem gX4_get_X4_isForm : GoodIn wsX4_get (va_wsS RX4 73 yX4_isForm wsX4_isForm) := goodIn_app (goodIn_of _ (by decide +kernel)) ggX4_get_X4_isForm
set_option maxRecDepth 20000 in
theorem ggX4_get_X2_findingAt : GoodIn wsX4_get wsX2_findingAt := goodIn_r _ [18, 19, 20, 21, 22, 17, 23, 24, 25, 26, 27, 28, 53, 54, 55] (by decide +kernel) (by decide +kernel)
set_option maxRecDepth 20000 in
theorem gX4_get_X2_findingAt : GoodIn wsX4_get (wsV RX4 92 RX2 yX2_findingAt wsX2_findingAt) := goodIn_app (goodIn_of _ (by decide +kernel)) ggX4_get_X2_findingAt
set_option maxRecDepth 20000 in
theorem ggX4_get_X4_found : GoodIn wsX4_get wsX4_found := goodIn_r _ [32, 33, 39, 40, 41, 42, 43, 44, 45, 46, 47, 48, 49, 50, 51, 52] (by decide +kernel) (by decide +kernel)
set_option maxRecDepth 20000 in
theorem gX4_get_X4_found : GoodIn wsX4_get (wsV RX4 76 RX4 yX4_found wsX4_found) := goodIn_app (goodIn_of _ (by decide +kernel)) ggX4_get_X4_found
set_option maxRecDepth 20000 in
theorem ggX4_get_X2_item : GoodIn wsX4_get wsX2_item := goodIn_r _ [37, 38, 24, 25, 26, 17, 27, 28, 53, 54, 55] (by decide +kernel) (by decide +kernel)
set_option maxRecDepth 20000 in
theorem gX4_get_X2_item : GoodIn wsX4_get (wsV RX4 100 RX2 yX2_item wsX2_item) := goodIn_app (goodIn_of _ (by decide +kernel)) ggX4_get_X2_item
theorem dX4_get_0 : decode cX4_get 0 = .ok (.aload_n 0, 1) := by decide +kernel
theorem dX4_get_1 : decode cX4_get 1 = .ok (.iload_n 1, 1) := by decide +kernel
theorem dX4_get_2 : decode cX4_get 2 = .ok (.invokevirtual 69, 3) := by decide +kernel
theorem dX4_get_5 : decode cX4_get 5 = .ok (.ifCond .eq 10, 3) := by decide +kernel
theorem dX4_get_8 : decode cX4_get 8 = .ok (.iload_n 2, 1) := by decide +kernel
theorem dX4_get_9 : decode cX4_get 9 = .ok (.invokestatic 73, 3) := by decide +kernel
theorem dX4_get_12 : decode cX4_get 12 = .ok (.ifCond .ne 6, 3) := by decide +kernel
theorem dX4_get_15 : decode cX4_get 15 = .ok (.ldc 99, 2) := by decide +kernel
theorem dX4_get_17 : decode cX4_get 17 = .ok (.ireturn, 1) := by decide +kernel
theorem dX4_get_18 : decode cX4_get 18 = .ok (.aload_n 0, 1) := by decide +kernel
theorem dX4_get_19 : decode cX4_get 19 = .ok (.getfield 11, 3) := by decide +kernel
theorem dX4_get_22 : decode cX4_get 22 = .ok (.iload_n 1, 1) := by decide +kernel
theorem dX4_get_23 : decode cX4_get 23 = .ok (.aaload, 1) := by decide +kernel
theorem dX4_get_24 : decode cX4_get 24 = .ok (.iload_n 2, 1) := by decide +kernel
theorem dX4_get_25 : decode cX4_get 25 = .ok (.iload_n 3, 1) := by decide +kernel
theorem dX4_get_26 : decode cX4_get 26 = .ok (.invokevirtual 92, 3) := by decide +kernel
theorem dX4_get_29 : decode cX4_get 29 = .ok (.istore 4, 2) := by decide +kernel
theorem dX4_get_31 : decode cX4_get 31 = .ok (.iload 4, 2) := by decide +kernel
theorem dX4_get_33 : decode cX4_get 33 = .ok (.ifCond .eq 13, 3) := by decide +kernel
theorem dX4_get_36 : decode cX4_get 36 = .ok (.aload_n 0, 1) := by decide +kernel
theorem dX4_get_37 : decode cX4_get 37 = .ok (.iload 4, 2) := by decide +kernel
theorem dX4_get_39 : decode cX4_get 39 = .ok (.invokevirtual 76, 3) := by decide +kernel
theorem dX4_get_42 : decode cX4_get 42 = .ok (.pop, 1) := by decide +kernel
theorem dX4_get_43 : decode cX4_get 43 = .ok (.ldc 99, 2) := by decide +kernel
theorem dX4_get_45 : decode cX4_get 45 = .ok (.ireturn, 1) := by decide +kernel
theorem dX4_get_46 : decode cX4_get 46 = .ok (.aload_n 0, 1) := by decide +kernel
theorem dX4_get_47 : decode cX4_get 47 = .ok (.getfield 11, 3) := by decide +kernel
theorem dX4_get_50 : decode cX4_get 50 = .ok (.iload_n 1, 1) := by decide +kernel
theorem dX4_get_51 : decode cX4_get 51 = .ok (.aaload, 1) := by decide +kernel
theorem dX4_get_52 : decode cX4_get 52 = .ok (.iload_n 3, 1) := by decide +kernel
theorem dX4_get_53 : decode cX4_get 53 = .ok (.invokevirtual 100, 3) := by decide +kernel
theorem dX4_get_56 : decode cX4_get 56 = .ok (.ireturn, 1) := by decide +kernel
set_option maxRecDepth 20000 in
theorem ggX4_copy_X4_isReel : GoodIn wsX4_copy wsX4_isReel := goodIn_r _ [10, 1, 27, 28, 29, 30, 31, 32, 33, 34, 35, 36, 37, 38, 39, 40] (by decide +kernel) (by decide +kernel)
set_option maxRecDepth 20000 in
theorem gX4_copy_X4_isReel : GoodIn wsX4_copy (wsV RX4 69 RX4 yX4_isReel wsX4_isReel) := goodIn_app (goodIn_of _ (by decide +kernel)) ggX4_copy_X4_isReel
set_option maxRecDepth 20000 in
theorem ggX4_copy_X2_isLost : GoodIn wsX4_copy wsX2_isLost := goodIn_r _ [15, 16, 41, 42, 43] (by decide +kernel) (by decide +kernel)
set_option maxRecDepth 20000 in
theorem gX4_copy_X2_isLost : GoodIn wsX4_copy (wsV RX4 84 RX2 yX2_isLost wsX2_isLost) := goodIn_app (goodIn_of _ (by decide +kernel)) ggX4_copy_X2_isLost
set_option maxRecDepth 20000 in
theorem ggX4_copy_X4_found : GoodIn wsX4_copy wsX4_found := goodIn_r _ [20, 21, 27, 28, 29, 30, 31, 32, 33, 34, 35, 36, 37, 38, 39, 40] (by decide +kernel) (by decide +kernel)
set_option maxRecDepth 20000 in
theorem gX4_copy_X4_found : GoodIn wsX4_copy (wsV RX4 76 RX4 yX4_found wsX4_found) := goodIn_app (goodIn_of _ (by decide +kernel)) ggX4_copy_X4_found
set_option maxRecDepth 20000 in
theorem ggX4_copy_X2_holdsRun : GoodIn wsX4_copy wsX2_holdsRun := goodIn_r _ [25, 26, 41, 42, 43] (by decide +kernel) (by decide +kernel)
set_option maxRecDepth 20000 in
theorem gX4_copy_X2_holdsRun : GoodIn wsX4_copy (wsV RX4 106 RX2 yX2_holdsRun wsX2_holdsRun) := goodIn_app (goodIn_of _ (by decide +kernel)) ggX4_copy_X2_holdsRun
theorem dX4_copy_0 : decode cX4_copy 0 = .ok (.aload_n 0, 1) := by decide +kernel
theorem dX4_copy_1 : decode cX4_copy 1 = .ok (.iload_n 1, 1) := by decide +kernel
theorem dX4_copy_2 : decode cX4_copy 2 = .ok (.invokevirtual 69, 3) := by decide +kernel
theorem dX4_copy_5 : decode cX4_copy 5 = .ok (.ifCond .eq 11, 3) := by decide +kernel
theorem dX4_copy_8 : decode cX4_copy 8 = .ok (.aload_n 0, 1) := by decide +kernel
theorem dX4_copy_9 : decode cX4_copy 9 = .ok (.iload_n 3, 1) := by decide +kernel
theorem dX4_copy_10 : decode cX4_copy 10 = .ok (.invokevirtual 69, 3) := by decide +kernel
theorem dX4_copy_13 : decode cX4_copy 13 = .ok (.ifCond .ne 6, 3) := by decide +kernel
theorem dX4_copy_16 : decode cX4_copy 16 = .ok (.bipush (-2), 2) := by decide +kernel
theorem dX4_copy_18 : decode cX4_copy 18 = .ok (.ireturn, 1) := by decide +kernel
theorem dX4_copy_19 : decode cX4_copy 19 = .ok (.aload_n 0, 1) := by decide +kernel
theorem dX4_copy_20 : decode cX4_copy 20 = .ok (.getfield 11, 3) := by decide +kernel
theorem dX4_copy_23 : decode cX4_copy 23 = .ok (.iload_n 1, 1) := by decide +kernel
theorem dX4_copy_24 : decode cX4_copy 24 = .ok (.aaload, 1) := by decide +kernel
theorem dX4_copy_25 : decode cX4_copy 25 = .ok (.astore 6, 2) := by decide +kernel
theorem dX4_copy_27 : decode cX4_copy 27 = .ok (.aload_n 0, 1) := by decide +kernel
theorem dX4_copy_28 : decode cX4_copy 28 = .ok (.getfield 11, 3) := by decide +kernel
theorem dX4_copy_31 : decode cX4_copy 31 = .ok (.iload_n 3, 1) := by decide +kernel
theorem dX4_copy_32 : decode cX4_copy 32 = .ok (.aaload, 1) := by decide +kernel
theorem dX4_copy_33 : decode cX4_copy 33 = .ok (.astore 7, 2) := by decide +kernel
theorem dX4_copy_35 : decode cX4_copy 35 = .ok (.aload 6, 2) := by decide +kernel
theorem dX4_copy_37 : decode cX4_copy 37 = .ok (.invokevirtual 84, 3) := by decide +kernel
theorem dX4_copy_40 : decode cX4_copy 40 = .ok (.ifCond .ne 11, 3) := by decide +kernel
theorem dX4_copy_43 : decode cX4_copy 43 = .ok (.aload 7, 2) := by decide +kernel
theorem dX4_copy_45 : decode cX4_copy 45 = .ok (.invokevirtual 84, 3) := by decide +kernel
theorem dX4_copy_48 : decode cX4_copy 48 = .ok (.ifCond .eq 9, 3) := by decide +kernel
theorem dX4_copy_51 : decode cX4_copy 51 = .ok (.aload_n 0, 1) := by decide +kernel
theorem dX4_copy_52 : decode cX4_copy 52 = .ok (.iconst 1, 1) := by decide +kernel
theorem dX4_copy_53 : decode cX4_copy 53 = .ok (.invokevirtual 76, 3) := by decide +kernel
theorem dX4_copy_56 : decode cX4_copy 56 = .ok (.ireturn, 1) := by decide +kernel
theorem dX4_copy_57 : decode cX4_copy 57 = .ok (.aload 6, 2) := by decide +kernel
theorem dX4_copy_59 : decode cX4_copy 59 = .ok (.getfield 103, 3) := by decide +kernel
theorem dX4_copy_62 : decode cX4_copy 62 = .ok (.aload 7, 2) := by decide +kernel
theorem dX4_copy_64 : decode cX4_copy 64 = .ok (.getfield 103, 3) := by decide +kernel
theorem dX4_copy_67 : decode cX4_copy 67 = .ok (.if_icmp .eq 9, 3) := by decide +kernel
theorem dX4_copy_70 : decode cX4_copy 70 = .ok (.aload_n 0, 1) := by decide +kernel
theorem dX4_copy_71 : decode cX4_copy 71 = .ok (.iconst 4, 1) := by decide +kernel
theorem dX4_copy_72 : decode cX4_copy 72 = .ok (.invokevirtual 76, 3) := by decide +kernel
theorem dX4_copy_75 : decode cX4_copy 75 = .ok (.ireturn, 1) := by decide +kernel
theorem dX4_copy_76 : decode cX4_copy 76 = .ok (.aload 6, 2) := by decide +kernel
theorem dX4_copy_78 : decode cX4_copy 78 = .ok (.iload_n 2, 1) := by decide +kernel
theorem dX4_copy_79 : decode cX4_copy 79 = .ok (.iload 5, 2) := by decide +kernel
theorem dX4_copy_81 : decode cX4_copy 81 = .ok (.invokevirtual 106, 3) := by decide +kernel
theorem dX4_copy_84 : decode cX4_copy 84 = .ok (.ifCond .eq 15, 3) := by decide +kernel
theorem dX4_copy_87 : decode cX4_copy 87 = .ok (.aload 7, 2) := by decide +kernel
theorem dX4_copy_89 : decode cX4_copy 89 = .ok (.iload 4, 2) := by decide +kernel
theorem dX4_copy_91 : decode cX4_copy 91 = .ok (.iload 5, 2) := by decide +kernel
theorem dX4_copy_93 : decode cX4_copy 93 = .ok (.invokevirtual 106, 3) := by decide +kernel
theorem dX4_copy_96 : decode cX4_copy 96 = .ok (.ifCond .ne 9, 3) := by decide +kernel
theorem dX4_copy_99 : decode cX4_copy 99 = .ok (.aload_n 0, 1) := by decide +kernel
theorem dX4_copy_100 : decode cX4_copy 100 = .ok (.iconst 2, 1) := by decide +kernel
theorem dX4_copy_101 : decode cX4_copy 101 = .ok (.invokevirtual 76, 3) := by decide +kernel
theorem dX4_copy_104 : decode cX4_copy 104 = .ok (.ireturn, 1) := by decide +kernel
theorem dX4_copy_105 : decode cX4_copy 105 = .ok (.aload 6, 2) := by decide +kernel
theorem dX4_copy_107 : decode cX4_copy 107 = .ok (.getfield 110, 3) := by decide +kernel
theorem dX4_copy_110 : decode cX4_copy 110 = .ok (.iload_n 2, 1) := by decide +kernel
theorem dX4_copy_111 : decode cX4_copy 111 = .ok (.aload 7, 2) := by decide +kernel
theorem dX4_copy_113 : decode cX4_copy 113 = .ok (.getfield 110, 3) := by decide +kernel
theorem dX4_copy_116 : decode cX4_copy 116 = .ok (.iload 4, 2) := by decide +kernel
theorem dX4_copy_118 : decode cX4_copy 118 = .ok (.iload 5, 2) := by decide +kernel
theorem dX4_copy_120 : decode cX4_copy 120 = .ok (.invokestatic 114, 3) := by decide +kernel
theorem dX4_copy_123 : decode cX4_copy 123 = .ok (.iconst 1, 1) := by decide +kernel
theorem dX4_copy_124 : decode cX4_copy 124 = .ok (.ireturn, 1) := by decide +kernel
set_option maxRecDepth 20000 in
theorem ggX4_cells_X4_isWithin : GoodIn wsX4_cells wsX4_isWithin := goodIn_r _ [6] (by decide +kernel) (by decide +kernel)
set_option maxRecDepth 20000 in
theorem gX4_cells_X4_isWithin : GoodIn wsX4_cells (va_wsS RX4 120 yX4_isWithin wsX4_isWithin) := goodIn_app (goodIn_of _ (by decide +kernel)) ggX4_cells_X4_isWithin
theorem dX4_cells_0 : decode cX4_cells 0 = .ok (.iload_n 1, 1) := by decide +kernel
theorem dX4_cells_1 : decode cX4_cells 1 = .ok (.iconst 1, 1) := by decide +kernel
theorem dX4_cells_2 : decode cX4_cells 2 = .ok (.bipush 16, 2) := by decide +kernel
theorem dX4_cells_4 : decode cX4_cells 4 = .ok (.invokestatic 120, 3) := by decide +kernel
theorem dX4_cells_7 : decode cX4_cells 7 = .ok (.ifCond .ne 6, 3) := by decide +kernel
theorem dX4_cells_10 : decode cX4_cells 10 = .ok (.bipush (-2), 2) := by decide +kernel
theorem dX4_cells_12 : decode cX4_cells 12 = .ok (.ireturn, 1) := by decide +kernel
theorem dX4_cells_13 : decode cX4_cells 13 = .ok (.aload_n 0, 1) := by decide +kernel
theorem dX4_cells_14 : decode cX4_cells 14 = .ok (.getfield 18, 3) := by decide +kernel
theorem dX4_cells_17 : decode cX4_cells 17 = .ok (.getfield 124, 3) := by decide +kernel
theorem dX4_cells_20 : decode cX4_cells 20 = .ok (.ifCond .le 6, 3) := by decide +kernel
theorem dX4_cells_23 : decode cX4_cells 23 = .ok (.bipush (-3), 2) := by decide +kernel
theorem dX4_cells_25 : decode cX4_cells 25 = .ok (.ireturn, 1) := by decide +kernel
theorem dX4_cells_26 : decode cX4_cells 26 = .ok (.aload_n 0, 1) := by decide +kernel
theorem dX4_cells_27 : decode cX4_cells 27 = .ok (.getfield 45, 3) := by decide +kernel
theorem dX4_cells_30 : decode cX4_cells 30 = .ok (.istore_n 2, 1) := by decide +kernel
theorem dX4_cells_31 : decode cX4_cells 31 = .ok (.aload_n 0, 1) := by decide +kernel
theorem dX4_cells_32 : decode cX4_cells 32 = .ok (.iload_n 1, 1) := by decide +kernel
theorem dX4_cells_33 : decode cX4_cells 33 = .ok (.putfield 45, 3) := by decide +kernel
theorem dX4_cells_36 : decode cX4_cells 36 = .ok (.iload_n 2, 1) := by decide +kernel
theorem dX4_cells_37 : decode cX4_cells 37 = .ok (.ireturn, 1) := by decide +kernel
set_option maxRecDepth 20000 in
theorem ggX4_ping_X4_isTurn : GoodIn wsX4_ping wsX4_isTurn := goodIn_r _ [5, 6, 7, 4, 8] (by decide +kernel) (by decide +kernel)
set_option maxRecDepth 20000 in
theorem gX4_ping_X4_isTurn : GoodIn wsX4_ping (va_wsS RX4 127 yX4_isTurn wsX4_isTurn) := goodIn_app (goodIn_of _ (by decide +kernel)) ggX4_ping_X4_isTurn
set_option maxRecDepth 20000 in
theorem ggX4_ping_X4_isPlace : GoodIn wsX4_ping wsX4_isPlace := goodIn_r _ [11, 12, 13, 6, 7, 4, 8] (by decide +kernel) (by decide +kernel)
set_option maxRecDepth 20000 in
theorem gX4_ping_X4_isPlace : GoodIn wsX4_ping (va_wsS RX4 130 yX4_isPlace wsX4_isPlace) := goodIn_app (goodIn_of _ (by decide +kernel)) ggX4_ping_X4_isPlace
set_option maxRecDepth 20000 in
theorem ggX4_ping_X4_isWithin : GoodIn wsX4_ping wsX4_isWithin := goodIn_r _ [8] (by decide +kernel) (by decide +kernel)
set_option maxRecDepth 20000 in
theorem gX4_ping_X4_isWithin : GoodIn wsX4_ping (va_wsS RX4 120 yX4_isWithin wsX4_isWithin) := goodIn_app (goodIn_of _ (by decide +kernel)) ggX4_ping_X4_isWithin
set_option maxRecDepth 20000 in
theorem ggX4_ping_X3_append : GoodIn wsX4_ping wsX3_append := goodIn_r _ [18, 19, 20, 21, 22, 23, 38, 39, 40, 41, 42] (by decide +kernel) (by decide +kernel)
set_option maxRecDepth 20000 in
theorem gX4_ping_X3_append : GoodIn wsX4_ping (wsV RX4 133 RX3 yX3_append wsX3_append) := goodIn_app (goodIn_of _ (by decide +kernel)) ggX4_ping_X3_append
theorem dX4_ping_0 : decode cX4_ping 0 = .ok (.iload_n 1, 1) := by decide +kernel
theorem dX4_ping_1 : decode cX4_ping 1 = .ok (.invokestatic 127, 3) := by decide +kernel
theorem dX4_ping_4 : decode cX4_ping 4 = .ok (.ifCond .eq 28, 3) := by decide +kernel
theorem dX4_ping_7 : decode cX4_ping 7 = .ok (.iload_n 2, 1) := by decide +kernel
theorem dX4_ping_8 : decode cX4_ping 8 = .ok (.invokestatic 130, 3) := by decide +kernel
theorem dX4_ping_11 : decode cX4_ping 11 = .ok (.ifCond .eq 21, 3) := by decide +kernel
theorem dX4_ping_14 : decode cX4_ping 14 = .ok (.iload_n 3, 1) := by decide +kernel
theorem dX4_ping_15 : decode cX4_ping 15 = .ok (.invokestatic 130, 3) := by decide +kernel
theorem dX4_ping_18 : decode cX4_ping 18 = .ok (.ifCond .eq 14, 3) := by decide +kernel
theorem dX4_ping_21 : decode cX4_ping 21 = .ok (.iload 4, 2) := by decide +kernel
theorem dX4_ping_23 : decode cX4_ping 23 = .ok (.iconst 0, 1) := by decide +kernel
theorem dX4_ping_24 : decode cX4_ping 24 = .ok (.bipush 16, 2) := by decide +kernel
theorem dX4_ping_26 : decode cX4_ping 26 = .ok (.invokestatic 120, 3) := by decide +kernel
theorem dX4_ping_29 : decode cX4_ping 29 = .ok (.ifCond .ne 6, 3) := by decide +kernel
theorem dX4_ping_32 : decode cX4_ping 32 = .ok (.bipush (-2), 2) := by decide +kernel
theorem dX4_ping_34 : decode cX4_ping 34 = .ok (.ireturn, 1) := by decide +kernel
theorem dX4_ping_35 : decode cX4_ping 35 = .ok (.aload_n 0, 1) := by decide +kernel
theorem dX4_ping_36 : decode cX4_ping 36 = .ok (.getfield 18, 3) := by decide +kernel
theorem dX4_ping_39 : decode cX4_ping 39 = .ok (.iload_n 1, 1) := by decide +kernel
theorem dX4_ping_40 : decode cX4_ping 40 = .ok (.iload_n 2, 1) := by decide +kernel
theorem dX4_ping_41 : decode cX4_ping 41 = .ok (.iload_n 3, 1) := by decide +kernel
theorem dX4_ping_42 : decode cX4_ping 42 = .ok (.iload 4, 2) := by decide +kernel
theorem dX4_ping_44 : decode cX4_ping 44 = .ok (.invokevirtual 133, 3) := by decide +kernel
theorem dX4_ping_47 : decode cX4_ping 47 = .ok (.ireturn, 1) := by decide +kernel
set_option maxRecDepth 20000 in
theorem ggX4_mend_X4_isTurn : GoodIn wsX4_mend wsX4_isTurn := goodIn_r _ [5, 6, 7, 4, 8] (by decide +kernel) (by decide +kernel)
set_option maxRecDepth 20000 in
theorem gX4_mend_X4_isTurn : GoodIn wsX4_mend (va_wsS RX4 127 yX4_isTurn wsX4_isTurn) := goodIn_app (goodIn_of _ (by decide +kernel)) ggX4_mend_X4_isTurn
set_option maxRecDepth 20000 in
theorem ggX4_mend_X3_changeHeading : GoodIn wsX4_mend wsX3_changeHeading := goodIn_r _ [13, 14, 15, 16, 17, 12, 18, 19, 34, 35, 36, 37, 38] (by decide +kernel) (by decide +kernel)
set_option maxRecDepth 20000 in
theorem gX4_mend_X3_changeHeading : GoodIn wsX4_mend (wsV RX4 137 RX3 yX3_changeHeading wsX3_changeHeading) := goodIn_app (goodIn_of _ (by decide +kernel)) ggX4_mend_X3_changeHeading
theorem dX4_mend_0 : decode cX4_mend 0 = .ok (.iload_n 2, 1) := by decide +kernel
theorem dX4_mend_1 : decode cX4_mend 1 = .ok (.invokestatic 127, 3) := by decide +kernel
theorem dX4_mend_4 : decode cX4_mend 4 = .ok (.ifCond .ne 6, 3) := by decide +kernel
theorem dX4_mend_7 : decode cX4_mend 7 = .ok (.bipush (-2), 2) := by decide +kernel
theorem dX4_mend_9 : decode cX4_mend 9 = .ok (.ireturn, 1) := by decide +kernel
theorem dX4_mend_10 : decode cX4_mend 10 = .ok (.aload_n 0, 1) := by decide +kernel
theorem dX4_mend_11 : decode cX4_mend 11 = .ok (.getfield 18, 3) := by decide +kernel
theorem dX4_mend_14 : decode cX4_mend 14 = .ok (.iload_n 1, 1) := by decide +kernel
theorem dX4_mend_15 : decode cX4_mend 15 = .ok (.iload_n 2, 1) := by decide +kernel
theorem dX4_mend_16 : decode cX4_mend 16 = .ok (.invokevirtual 137, 3) := by decide +kernel
theorem dX4_mend_19 : decode cX4_mend 19 = .ok (.ireturn, 1) := by decide +kernel
theorem dX4_clear_0 : decode cX4_clear 0 = .ok (.aload_n 0, 1) := by decide +kernel
theorem dX4_clear_1 : decode cX4_clear 1 = .ok (.getfield 18, 3) := by decide +kernel
theorem dX4_clear_4 : decode cX4_clear 4 = .ok (.getfield 124, 3) := by decide +kernel
theorem dX4_clear_7 : decode cX4_clear 7 = .ok (.istore_n 1, 1) := by decide +kernel
theorem dX4_clear_8 : decode cX4_clear 8 = .ok (.aload_n 0, 1) := by decide +kernel
theorem dX4_clear_9 : decode cX4_clear 9 = .ok (.getfield 18, 3) := by decide +kernel
theorem dX4_clear_12 : decode cX4_clear 12 = .ok (.iconst 0, 1) := by decide +kernel
theorem dX4_clear_13 : decode cX4_clear 13 = .ok (.putfield 124, 3) := by decide +kernel
theorem dX4_clear_16 : decode cX4_clear 16 = .ok (.iload_n 1, 1) := by decide +kernel
theorem dX4_clear_17 : decode cX4_clear 17 = .ok (.ireturn, 1) := by decide +kernel
set_option maxRecDepth 20000 in
theorem ggX4_about_X3_isPing : GoodIn wsX4_about wsX3_isPing := goodIn_r _ [7, 8, 127, 128, 129, 130, 131] (by decide +kernel) (by decide +kernel)
set_option maxRecDepth 20000 in
theorem gX4_about_X3_isPing : GoodIn wsX4_about (wsV RX4 140 RX3 yX3_isPing wsX3_isPing) := goodIn_app (goodIn_of _ (by decide +kernel)) ggX4_about_X3_isPing
set_option maxRecDepth 20000 in
theorem ggX4_about_X3_headingOf : GoodIn wsX4_about wsX3_headingOf := goodIn_r _ [12, 13, 14, 4, 5, 6, 7, 8, 127, 128, 129, 130, 131] (by decide +kernel) (by decide +kernel)
set_option maxRecDepth 20000 in
theorem gX4_about_X3_headingOf : GoodIn wsX4_about (wsV RX4 143 RX3 yX3_headingOf wsX3_headingOf) := goodIn_app (goodIn_of _ (by decide +kernel)) ggX4_about_X3_headingOf
set_option maxRecDepth 20000 in
theorem ggX4_about_X3_xOf : GoodIn wsX4_about wsX3_xOf := goodIn_r _ [18, 19, 14, 4, 5, 6, 7, 8, 127, 128, 129, 130, 131] (by decide +kernel) (by decide +kernel)
set_option maxRecDepth 20000 in
theorem gX4_about_X3_xOf : GoodIn wsX4_about (wsV RX4 146 RX3 yX3_xOf wsX3_xOf) := goodIn_app (goodIn_of _ (by decide +kernel)) ggX4_about_X3_xOf
set_option maxRecDepth 20000 in
theorem ggX4_about_X3_yOf : GoodIn wsX4_about wsX3_yOf := goodIn_r _ [23, 24, 14, 4, 5, 6, 7, 8, 127, 128, 129, 130, 131] (by decide +kernel) (by decide +kernel)
set_option maxRecDepth 20000 in
theorem gX4_about_X3_yOf : GoodIn wsX4_about (wsV RX4 149 RX3 yX3_yOf wsX3_yOf) := goodIn_app (goodIn_of _ (by decide +kernel)) ggX4_about_X3_yOf
set_option maxRecDepth 20000 in
theorem ggX4_about_X3_depthOf : GoodIn wsX4_about wsX3_depthOf := goodIn_r _ [28, 29, 14, 4, 5, 6, 7, 8, 127, 128, 129, 130, 131] (by decide +kernel) (by decide +kernel)
set_option maxRecDepth 20000 in
theorem gX4_about_X3_depthOf : GoodIn wsX4_about (wsV RX4 152 RX3 yX3_depthOf wsX3_depthOf) := goodIn_app (goodIn_of _ (by decide +kernel)) ggX4_about_X3_depthOf
set_option maxRecDepth 20000 in
theorem ggX4_about_X4_findOwn : GoodIn wsX4_about wsX4_findOwn := goodIn_r _ [34, 35, 36, 37, 1, 38, 39, 40, 41, 42, 43, 44, 45, 46, 47, 48, 49, 50, 33, 51, 52, 53, 54, 55, 56, 57, 58, 59, 60, 61, 62, 63, 64, 65, 66, 67, 68, 69, 70, 71, 72, 73, 74, 75, 76, 77, 78, 79, 80, 81, 82, 9, 10, 11, 6, 12, 13, 14, 4, 5, 7, 8, 83, 84, 85, 86, 87, 88, 89, 90, 91, 92, 93, 94, 95, 96, 97, 3, 98, 99, 100, 101, 102, 16, 17, 18, 19, 103, 104, 105, 106, 107, 21, 22, 23, 24, 108, 109, 110, 111, 113, 114, 115, 116, 117, 118, 119, 120, 121, 122, 123, 124, 125, 126, 132, 133, 134, 135, 136, 137, 138, 139, 140, 141, 142, 143, 127, 128, 129, 130, 131] (by decide +kernel) (by decide +kernel)
set_option maxRecDepth 20000 in
theorem gX4_about_X4_findOwn : GoodIn wsX4_about (wsV RX4 155 RX4 yX4_findOwn wsX4_findOwn) := goodIn_app (goodIn_of _ (by decide +kernel)) ggX4_about_X4_findOwn
set_option maxRecDepth 20000 in
theorem ggX4_about_X4_asNumber : GoodIn wsX4_about wsX4_asNumber := goodIn_r _ [82] (by decide +kernel) (by decide +kernel)
set_option maxRecDepth 20000 in
theorem gX4_about_X4_asNumber : GoodIn wsX4_about (va_wsS RX4 158 yX4_asNumber wsX4_asNumber) := goodIn_app (goodIn_of _ (by decide +kernel)) ggX4_about_X4_asNumber
theorem dX4_about_0 : decode cX4_about 0 = .ok (.aload_n 0, 1) := by decide +kernel
theorem dX4_about_1 : decode cX4_about 1 = .ok (.getfield 18, 3) := by decide +kernel
theorem dX4_about_4 : decode cX4_about 4 = .ok (.iload_n 1, 1) := by decide +kernel
theorem dX4_about_5 : decode cX4_about 5 = .ok (.invokevirtual 140, 3) := by decide +kernel
theorem dX4_about_8 : decode cX4_about 8 = .ok (.ifCond .ne 6, 3) := by decide +kernel
theorem dX4_about_11 : decode cX4_about 11 = .ok (.ldc 99, 2) := by decide +kernel
theorem dX4_about_13 : decode cX4_about 13 = .ok (.ireturn, 1) := by decide +kernel
theorem dX4_about_14 : decode cX4_about 14 = .ok (.iload_n 2, 1) := by decide +kernel
theorem dX4_about_15 : decode cX4_about 15 = .ok (.tableswitch 78 0 4 #[33, 42, 51, 60, 69], 33) := by decide +kernel
theorem dX4_about_48 : decode cX4_about 48 = .ok (.aload_n 0, 1) := by decide +kernel
theorem dX4_about_49 : decode cX4_about 49 = .ok (.getfield 18, 3) := by decide +kernel
theorem dX4_about_52 : decode cX4_about 52 = .ok (.iload_n 1, 1) := by decide +kernel
theorem dX4_about_53 : decode cX4_about 53 = .ok (.invokevirtual 143, 3) := by decide +kernel
theorem dX4_about_56 : decode cX4_about 56 = .ok (.ireturn, 1) := by decide +kernel
theorem dX4_about_57 : decode cX4_about 57 = .ok (.aload_n 0, 1) := by decide +kernel
theorem dX4_about_58 : decode cX4_about 58 = .ok (.getfield 18, 3) := by decide +kernel
theorem dX4_about_61 : decode cX4_about 61 = .ok (.iload_n 1, 1) := by decide +kernel
theorem dX4_about_62 : decode cX4_about 62 = .ok (.invokevirtual 146, 3) := by decide +kernel
theorem dX4_about_65 : decode cX4_about 65 = .ok (.ireturn, 1) := by decide +kernel
theorem dX4_about_66 : decode cX4_about 66 = .ok (.aload_n 0, 1) := by decide +kernel
theorem dX4_about_67 : decode cX4_about 67 = .ok (.getfield 18, 3) := by decide +kernel
theorem dX4_about_70 : decode cX4_about 70 = .ok (.iload_n 1, 1) := by decide +kernel
theorem dX4_about_71 : decode cX4_about 71 = .ok (.invokevirtual 149, 3) := by decide +kernel
theorem dX4_about_74 : decode cX4_about 74 = .ok (.ireturn, 1) := by decide +kernel
theorem dX4_about_75 : decode cX4_about 75 = .ok (.aload_n 0, 1) := by decide +kernel
theorem dX4_about_76 : decode cX4_about 76 = .ok (.getfield 18, 3) := by decide +kernel
theorem dX4_about_79 : decode cX4_about 79 = .ok (.iload_n 1, 1) := by decide +kernel
theorem dX4_about_80 : decode cX4_about 80 = .ok (.invokevirtual 152, 3) := by decide +kernel
theorem dX4_about_83 : decode cX4_about 83 = .ok (.ireturn, 1) := by decide +kernel
theorem dX4_about_84 : decode cX4_about 84 = .ok (.aload_n 0, 1) := by decide +kernel
theorem dX4_about_85 : decode cX4_about 85 = .ok (.iload_n 1, 1) := by decide +kernel
theorem dX4_about_86 : decode cX4_about 86 = .ok (.invokevirtual 155, 3) := by decide +kernel
theorem dX4_about_89 : decode cX4_about 89 = .ok (.invokestatic 158, 3) := by decide +kernel
theorem dX4_about_92 : decode cX4_about 92 = .ok (.ireturn, 1) := by decide +kernel
theorem dX4_about_93 : decode cX4_about 93 = .ok (.ldc 99, 2) := by decide +kernel
theorem dX4_about_95 : decode cX4_about 95 = .ok (.ireturn, 1) := by decide +kernel
set_option maxRecDepth 20000 in
theorem ggX4_own_X3_isPing : GoodIn wsX4_own wsX3_isPing := goodIn_r _ [8, 9, 138, 139, 140, 141, 142] (by decide +kernel) (by decide +kernel)
set_option maxRecDepth 20000 in
theorem gX4_own_X3_isPing : GoodIn wsX4_own (wsV RX4 140 RX3 yX3_isPing wsX3_isPing) := goodIn_app (goodIn_of _ (by decide +kernel)) ggX4_own_X3_isPing
set_option maxRecDepth 20000 in
theorem ggX4_own_X4_isWithin : GoodIn wsX4_own wsX4_isWithin := goodIn_r _ [13] (by decide +kernel) (by decide +kernel)
set_option maxRecDepth 20000 in
theorem gX4_own_X4_isWithin : GoodIn wsX4_own (va_wsS RX4 120 yX4_isWithin wsX4_isWithin) := goodIn_app (goodIn_of _ (by decide +kernel)) ggX4_own_X4_isWithin
set_option maxRecDepth 20000 in
theorem ggX4_own_X4_asLong : GoodIn wsX4_own wsX4_asLong := goodIn_r _ [16, 17] (by decide +kernel) (by decide +kernel)
set_option maxRecDepth 20000 in
theorem gX4_own_X4_asLong : GoodIn wsX4_own (va_wsS RX4 162 yX4_asLong wsX4_asLong) := goodIn_app (goodIn_of _ (by decide +kernel)) ggX4_own_X4_asLong
set_option maxRecDepth 20000 in
theorem ggX4_own_X4_findOwn : GoodIn wsX4_own wsX4_findOwn := goodIn_r _ [21, 2, 22, 23, 1, 24, 25, 26, 27, 28, 29, 30, 31, 32, 33, 34, 35, 36, 12, 37, 38, 39, 40, 41, 42, 43, 44, 45, 46, 47, 48, 49, 50, 51, 52, 53, 54, 55, 56, 57, 58, 59, 60, 61, 62, 63, 64, 65, 66, 67, 68, 69, 70, 71, 7, 72, 73, 74, 5, 6, 8, 9, 75, 76, 77, 78, 79, 80, 81, 82, 83, 84, 85, 86, 87, 88, 89, 4, 90, 91, 92, 93, 94, 95, 96, 97, 98, 99, 100, 101, 102, 103, 104, 105, 106, 107, 108, 109, 110, 111, 124, 125, 126, 127, 128, 129, 130, 131, 132, 133, 134, 135, 136, 137, 143, 144, 145, 146, 147, 148, 149, 150, 151, 152, 153, 154, 138, 139, 140, 141, 142] (by decide +kernel) (by decide +kernel)
set_option maxRecDepth 20000 in
theorem gX4_own_X4_findOwn : GoodIn wsX4_own (wsV RX4 155 RX4 yX4_findOwn wsX4_findOwn) := goodIn_app (goodIn_of _ (by decide +kernel)) ggX4_own_X4_findOwn
set_option maxRecDepth 20000 in
theorem ggX4_own_X1_part : GoodIn wsX4_own wsX1_part := goodIn_r _ [115, 116, 117, 118, 28, 119, 30, 31, 32, 79, 12, 80, 81, 82, 83, 84, 85, 86, 87, 120, 121, 122, 123, 33, 88, 89, 148, 149, 150, 151] (by decide +kernel) (by decide +kernel)
set_option maxRecDepth 20000 in
theorem gX4_own_X1_part : GoodIn wsX4_own (wsV RX4 166 RX1 yX1_part wsX1_part) := goodIn_app (goodIn_of _ (by decide +kernel)) ggX4_own_X1_part
theorem dX4_own_0 : decode cX4_own 0 = .ok (.aload_n 0, 1) := by decide +kernel
theorem dX4_own_1 : decode cX4_own 1 = .ok (.getfield 18, 3) := by decide +kernel
theorem dX4_own_4 : decode cX4_own 4 = .ok (.iload_n 1, 1) := by decide +kernel
theorem dX4_own_5 : decode cX4_own 5 = .ok (.invokevirtual 140, 3) := by decide +kernel
theorem dX4_own_8 : decode cX4_own 8 = .ok (.ifCond .eq 12, 3) := by decide +kernel
theorem dX4_own_11 : decode cX4_own 11 = .ok (.iload_n 2, 1) := by decide +kernel
theorem dX4_own_12 : decode cX4_own 12 = .ok (.iconst 0, 1) := by decide +kernel
theorem dX4_own_13 : decode cX4_own 13 = .ok (.iconst 1, 1) := by decide +kernel
theorem dX4_own_14 : decode cX4_own 14 = .ok (.invokestatic 120, 3) := by decide +kernel
theorem dX4_own_17 : decode cX4_own 17 = .ok (.ifCond .ne 9, 3) := by decide +kernel
theorem dX4_own_20 : decode cX4_own 20 = .ok (.bipush (-2), 2) := by decide +kernel
theorem dX4_own_22 : decode cX4_own 22 = .ok (.invokestatic 162, 3) := by decide +kernel
theorem dX4_own_25 : decode cX4_own 25 = .ok (.lreturn, 1) := by decide +kernel
theorem dX4_own_26 : decode cX4_own 26 = .ok (.aload_n 0, 1) := by decide +kernel
theorem dX4_own_27 : decode cX4_own 27 = .ok (.iload_n 1, 1) := by decide +kernel
theorem dX4_own_28 : decode cX4_own 28 = .ok (.invokevirtual 155, 3) := by decide +kernel
theorem dX4_own_31 : decode cX4_own 31 = .ok (.ifCond .ne 9, 3) := by decide +kernel
theorem dX4_own_34 : decode cX4_own 34 = .ok (.bipush (-3), 2) := by decide +kernel
theorem dX4_own_36 : decode cX4_own 36 = .ok (.invokestatic 162, 3) := by decide +kernel
theorem dX4_own_39 : decode cX4_own 39 = .ok (.lreturn, 1) := by decide +kernel
theorem dX4_own_40 : decode cX4_own 40 = .ok (.aload_n 0, 1) := by decide +kernel
theorem dX4_own_41 : decode cX4_own 41 = .ok (.getfield 32, 3) := by decide +kernel
theorem dX4_own_44 : decode cX4_own 44 = .ok (.aload_n 0, 1) := by decide +kernel
theorem dX4_own_45 : decode cX4_own 45 = .ok (.getfield 52, 3) := by decide +kernel
theorem dX4_own_48 : decode cX4_own 48 = .ok (.iload_n 2, 1) := by decide +kernel
theorem dX4_own_49 : decode cX4_own 49 = .ok (.invokevirtual 166, 3) := by decide +kernel
theorem dX4_own_52 : decode cX4_own 52 = .ok (.lreturn, 1) := by decide +kernel
set_option maxRecDepth 20000 in
theorem ggX4_motion_X4_isWithin : GoodIn wsX4_motion wsX4_isWithin := goodIn_r _ [5] (by decide +kernel) (by decide +kernel)
set_option maxRecDepth 20000 in
theorem gX4_motion_X4_isWithin : GoodIn wsX4_motion (va_wsS RX4 120 yX4_isWithin wsX4_isWithin) := goodIn_app (goodIn_of _ (by decide +kernel)) ggX4_motion_X4_isWithin
theorem dX4_motion_0 : decode cX4_motion 0 = .ok (.iload_n 1, 1) := by decide +kernel
theorem dX4_motion_1 : decode cX4_motion 1 = .ok (.iconst 0, 1) := by decide +kernel
theorem dX4_motion_2 : decode cX4_motion 2 = .ok (.iconst 2, 1) := by decide +kernel
theorem dX4_motion_3 : decode cX4_motion 3 = .ok (.invokestatic 120, 3) := by decide +kernel
theorem dX4_motion_6 : decode cX4_motion 6 = .ok (.ifCond .ne 6, 3) := by decide +kernel
theorem dX4_motion_9 : decode cX4_motion 9 = .ok (.bipush (-2), 2) := by decide +kernel
theorem dX4_motion_11 : decode cX4_motion 11 = .ok (.ireturn, 1) := by decide +kernel
theorem dX4_motion_12 : decode cX4_motion 12 = .ok (.aload_n 0, 1) := by decide +kernel
theorem dX4_motion_13 : decode cX4_motion 13 = .ok (.getfield 49, 3) := by decide +kernel
theorem dX4_motion_16 : decode cX4_motion 16 = .ok (.istore_n 2, 1) := by decide +kernel
theorem dX4_motion_17 : decode cX4_motion 17 = .ok (.aload_n 0, 1) := by decide +kernel
theorem dX4_motion_18 : decode cX4_motion 18 = .ok (.iload_n 1, 1) := by decide +kernel
theorem dX4_motion_19 : decode cX4_motion 19 = .ok (.putfield 49, 3) := by decide +kernel
theorem dX4_motion_22 : decode cX4_motion 22 = .ok (.iload_n 2, 1) := by decide +kernel
theorem dX4_motion_23 : decode cX4_motion 23 = .ok (.ireturn, 1) := by decide +kernel
set_option maxRecDepth 20000 in
theorem ggX4_skew_X4_isTurn : GoodIn wsX4_skew wsX4_isTurn := goodIn_r _ [5, 6, 7, 4, 8] (by decide +kernel) (by decide +kernel)
set_option maxRecDepth 20000 in
theorem gX4_skew_X4_isTurn : GoodIn wsX4_skew (va_wsS RX4 127 yX4_isTurn wsX4_isTurn) := goodIn_app (goodIn_of _ (by decide +kernel)) ggX4_skew_X4_isTurn
theorem dX4_skew_0 : decode cX4_skew 0 = .ok (.iload_n 1, 1) := by decide +kernel
theorem dX4_skew_1 : decode cX4_skew 1 = .ok (.invokestatic 127, 3) := by decide +kernel
theorem dX4_skew_4 : decode cX4_skew 4 = .ok (.ifCond .ne 6, 3) := by decide +kernel
theorem dX4_skew_7 : decode cX4_skew 7 = .ok (.bipush (-2), 2) := by decide +kernel
theorem dX4_skew_9 : decode cX4_skew 9 = .ok (.ireturn, 1) := by decide +kernel
theorem dX4_skew_10 : decode cX4_skew 10 = .ok (.aload_n 0, 1) := by decide +kernel
theorem dX4_skew_11 : decode cX4_skew 11 = .ok (.getfield 52, 3) := by decide +kernel
theorem dX4_skew_14 : decode cX4_skew 14 = .ok (.istore_n 2, 1) := by decide +kernel
theorem dX4_skew_15 : decode cX4_skew 15 = .ok (.aload_n 0, 1) := by decide +kernel
theorem dX4_skew_16 : decode cX4_skew 16 = .ok (.iload_n 1, 1) := by decide +kernel
theorem dX4_skew_17 : decode cX4_skew 17 = .ok (.putfield 52, 3) := by decide +kernel
theorem dX4_skew_20 : decode cX4_skew 20 = .ok (.iload_n 2, 1) := by decide +kernel
theorem dX4_skew_21 : decode cX4_skew 21 = .ok (.ireturn, 1) := by decide +kernel
set_option maxRecDepth 20000 in
theorem ggX4_laws_X4_isWithin : GoodIn wsX4_laws wsX4_isWithin := goodIn_r _ [8] (by decide +kernel) (by decide +kernel)
set_option maxRecDepth 20000 in
theorem gX4_laws_X4_isWithin : GoodIn wsX4_laws (va_wsS RX4 120 yX4_isWithin wsX4_isWithin) := goodIn_app (goodIn_of _ (by decide +kernel)) ggX4_laws_X4_isWithin
theorem dX4_laws_0 : decode cX4_laws 0 = .ok (.iload_n 1, 1) := by decide +kernel
theorem dX4_laws_1 : decode cX4_laws 1 = .ok (.iconst 0, 1) := by decide +kernel
theorem dX4_laws_2 : decode cX4_laws 2 = .ok (.bipush 16, 2) := by decide +kernel
theorem dX4_laws_4 : decode cX4_laws 4 = .ok (.invokestatic 120, 3) := by decide +kernel
theorem dX4_laws_7 : decode cX4_laws 7 = .ok (.ifCond .eq 13, 3) := by decide +kernel
theorem dX4_laws_10 : decode cX4_laws 10 = .ok (.iload_n 3, 1) := by decide +kernel
theorem dX4_laws_11 : decode cX4_laws 11 = .ok (.iconst 0, 1) := by decide +kernel
theorem dX4_laws_12 : decode cX4_laws 12 = .ok (.ldc 170, 2) := by decide +kernel
theorem dX4_laws_14 : decode cX4_laws 14 = .ok (.invokestatic 120, 3) := by decide +kernel
theorem dX4_laws_17 : decode cX4_laws 17 = .ok (.ifCond .ne 6, 3) := by decide +kernel
theorem dX4_laws_20 : decode cX4_laws 20 = .ok (.bipush (-2), 2) := by decide +kernel
theorem dX4_laws_22 : decode cX4_laws 22 = .ok (.ireturn, 1) := by decide +kernel
theorem dX4_laws_23 : decode cX4_laws 23 = .ok (.aload_n 0, 1) := by decide +kernel
theorem dX4_laws_24 : decode cX4_laws 24 = .ok (.iload_n 1, 1) := by decide +kernel
theorem dX4_laws_25 : decode cX4_laws 25 = .ok (.putfield 55, 3) := by decide +kernel
theorem dX4_laws_28 : decode cX4_laws 28 = .ok (.aload_n 0, 1) := by decide +kernel
theorem dX4_laws_29 : decode cX4_laws 29 = .ok (.iload_n 2, 1) := by decide +kernel
theorem dX4_laws_30 : decode cX4_laws 30 = .ok (.putfield 58, 3) := by decide +kernel
theorem dX4_laws_33 : decode cX4_laws 33 = .ok (.aload_n 0, 1) := by decide +kernel
theorem dX4_laws_34 : decode cX4_laws 34 = .ok (.iload_n 3, 1) := by decide +kernel
theorem dX4_laws_35 : decode cX4_laws 35 = .ok (.putfield 62, 3) := by decide +kernel
theorem dX4_laws_38 : decode cX4_laws 38 = .ok (.iconst 1, 1) := by decide +kernel
theorem dX4_laws_39 : decode cX4_laws 39 = .ok (.ireturn, 1) := by decide +kernel
set_option maxRecDepth 20000 in
theorem ggX4_answer_X0_take : GoodIn wsX4_answer wsX0_take := goodIn_r _ [7, 8, 9, 10, 11, 12, 13, 14, 6, 15, 16, 17, 18, 34, 35, 36, 37, 38] (by decide +kernel) (by decide +kernel)
set_option maxRecDepth 20000 in
theorem gX4_answer_X0_take : GoodIn wsX4_answer (wsV RX4 171 RX0 yX0_take wsX0_take) := goodIn_app (goodIn_of _ (by decide +kernel)) ggX4_answer_X0_take
set_option maxRecDepth 20000 in
theorem ggX4_answer_X4_asNumber : GoodIn wsX4_answer wsX4_asNumber := goodIn_r _ [18] (by decide +kernel) (by decide +kernel)
set_option maxRecDepth 20000 in
theorem gX4_answer_X4_asNumber : GoodIn wsX4_answer (va_wsS RX4 158 yX4_asNumber wsX4_asNumber) := goodIn_app (goodIn_of _ (by decide +kernel)) ggX4_answer_X4_asNumber
theorem dX4_answer_0 : decode cX4_answer 0 = .ok (.aload_n 0, 1) := by decide +kernel
theorem dX4_answer_1 : decode cX4_answer 1 = .ok (.getfield 25, 3) := by decide +kernel
theorem dX4_answer_4 : decode cX4_answer 4 = .ok (.iload_n 1, 1) := by decide +kernel
theorem dX4_answer_5 : decode cX4_answer 5 = .ok (.iload_n 2, 1) := by decide +kernel
theorem dX4_answer_6 : decode cX4_answer 6 = .ok (.iload_n 3, 1) := by decide +kernel
theorem dX4_answer_7 : decode cX4_answer 7 = .ok (.iload 4, 2) := by decide +kernel
theorem dX4_answer_9 : decode cX4_answer 9 = .ok (.invokevirtual 171, 3) := by decide +kernel
theorem dX4_answer_12 : decode cX4_answer 12 = .ok (.aload_n 0, 1) := by decide +kernel
theorem dX4_answer_13 : decode cX4_answer 13 = .ok (.getfield 25, 3) := by decide +kernel
theorem dX4_answer_16 : decode cX4_answer 16 = .ok (.getfield 175, 3) := by decide +kernel
theorem dX4_answer_19 : decode cX4_answer 19 = .ok (.ifCond .ne 6, 3) := by decide +kernel
theorem dX4_answer_22 : decode cX4_answer 22 = .ok (.ldc 99, 2) := by decide +kernel
theorem dX4_answer_24 : decode cX4_answer 24 = .ok (.ireturn, 1) := by decide +kernel
theorem dX4_answer_25 : decode cX4_answer 25 = .ok (.iload 5, 2) := by decide +kernel
theorem dX4_answer_27 : decode cX4_answer 27 = .ok (.tableswitch 64 0 3 #[29, 37, 45, 53], 29) := by decide +kernel
theorem dX4_answer_56 : decode cX4_answer 56 = .ok (.aload_n 0, 1) := by decide +kernel
theorem dX4_answer_57 : decode cX4_answer 57 = .ok (.getfield 25, 3) := by decide +kernel
theorem dX4_answer_60 : decode cX4_answer 60 = .ok (.getfield 178, 3) := by decide +kernel
theorem dX4_answer_63 : decode cX4_answer 63 = .ok (.ireturn, 1) := by decide +kernel
theorem dX4_answer_64 : decode cX4_answer 64 = .ok (.aload_n 0, 1) := by decide +kernel
theorem dX4_answer_65 : decode cX4_answer 65 = .ok (.getfield 25, 3) := by decide +kernel
theorem dX4_answer_68 : decode cX4_answer 68 = .ok (.getfield 181, 3) := by decide +kernel
theorem dX4_answer_71 : decode cX4_answer 71 = .ok (.ireturn, 1) := by decide +kernel
theorem dX4_answer_72 : decode cX4_answer 72 = .ok (.aload_n 0, 1) := by decide +kernel
theorem dX4_answer_73 : decode cX4_answer 73 = .ok (.getfield 25, 3) := by decide +kernel
theorem dX4_answer_76 : decode cX4_answer 76 = .ok (.getfield 184, 3) := by decide +kernel
theorem dX4_answer_79 : decode cX4_answer 79 = .ok (.ireturn, 1) := by decide +kernel
theorem dX4_answer_80 : decode cX4_answer 80 = .ok (.aload_n 0, 1) := by decide +kernel
theorem dX4_answer_81 : decode cX4_answer 81 = .ok (.getfield 25, 3) := by decide +kernel
theorem dX4_answer_84 : decode cX4_answer 84 = .ok (.getfield 187, 3) := by decide +kernel
theorem dX4_answer_87 : decode cX4_answer 87 = .ok (.invokestatic 158, 3) := by decide +kernel
theorem dX4_answer_90 : decode cX4_answer 90 = .ok (.ireturn, 1) := by decide +kernel
theorem dX4_answer_91 : decode cX4_answer 91 = .ok (.ldc 99, 2) := by decide +kernel
theorem dX4_answer_93 : decode cX4_answer 93 = .ok (.ireturn, 1) := by decide +kernel
set_option maxRecDepth 20000 in
theorem ggX4_beam_X4_isPart : GoodIn wsX4_beam wsX4_isPart := goodIn_r _ [7, 8, 9, 6, 10] (by decide +kernel) (by decide +kernel)
set_option maxRecDepth 20000 in
theorem gX4_beam_X4_isPart : GoodIn wsX4_beam (va_wsS RX4 190 yX4_isPart wsX4_isPart) := goodIn_app (goodIn_of _ (by decide +kernel)) ggX4_beam_X4_isPart
set_option maxRecDepth 20000 in
theorem ggX4_beam_X4_isWithin : GoodIn wsX4_beam wsX4_isWithin := goodIn_r _ [10] (by decide +kernel) (by decide +kernel)
set_option maxRecDepth 20000 in
theorem gX4_beam_X4_isWithin : GoodIn wsX4_beam (va_wsS RX4 120 yX4_isWithin wsX4_isWithin) := goodIn_app (goodIn_of _ (by decide +kernel)) ggX4_beam_X4_isWithin
theorem dX4_beam_0 : decode cX4_beam 0 = .ok (.iload_n 1, 1) := by decide +kernel
theorem dX4_beam_1 : decode cX4_beam 1 = .ok (.invokestatic 190, 3) := by decide +kernel
theorem dX4_beam_4 : decode cX4_beam 4 = .ok (.ifCond .eq 29, 3) := by decide +kernel
theorem dX4_beam_7 : decode cX4_beam 7 = .ok (.iload_n 2, 1) := by decide +kernel
theorem dX4_beam_8 : decode cX4_beam 8 = .ok (.invokestatic 190, 3) := by decide +kernel
theorem dX4_beam_11 : decode cX4_beam 11 = .ok (.ifCond .eq 22, 3) := by decide +kernel
theorem dX4_beam_14 : decode cX4_beam 14 = .ok (.iload_n 3, 1) := by decide +kernel
theorem dX4_beam_15 : decode cX4_beam 15 = .ok (.invokestatic 190, 3) := by decide +kernel
theorem dX4_beam_18 : decode cX4_beam 18 = .ok (.ifCond .eq 15, 3) := by decide +kernel
theorem dX4_beam_21 : decode cX4_beam 21 = .ok (.iload 4, 2) := by decide +kernel
theorem dX4_beam_23 : decode cX4_beam 23 = .ok (.ldc 193, 2) := by decide +kernel
theorem dX4_beam_25 : decode cX4_beam 25 = .ok (.ldc 194, 2) := by decide +kernel
theorem dX4_beam_27 : decode cX4_beam 27 = .ok (.invokestatic 120, 3) := by decide +kernel
theorem dX4_beam_30 : decode cX4_beam 30 = .ok (.ifCond .ne 6, 3) := by decide +kernel
theorem dX4_beam_33 : decode cX4_beam 33 = .ok (.ldc 99, 2) := by decide +kernel
theorem dX4_beam_35 : decode cX4_beam 35 = .ok (.ireturn, 1) := by decide +kernel
theorem dX4_beam_36 : decode cX4_beam 36 = .ok (.iload 5, 2) := by decide +kernel
theorem dX4_beam_38 : decode cX4_beam 38 = .ok (.tableswitch 66 0 3 #[30, 39, 48, 57], 30) := by decide +kernel
theorem dX4_beam_68 : decode cX4_beam 68 = .ok (.iload 4, 2) := by decide +kernel
theorem dX4_beam_70 : decode cX4_beam 70 = .ok (.iload_n 3, 1) := by decide +kernel
theorem dX4_beam_71 : decode cX4_beam 71 = .ok (.iadd, 1) := by decide +kernel
theorem dX4_beam_72 : decode cX4_beam 72 = .ok (.iconst 2, 1) := by decide +kernel
theorem dX4_beam_73 : decode cX4_beam 73 = .ok (.iload_n 1, 1) := by decide +kernel
theorem dX4_beam_74 : decode cX4_beam 74 = .ok (.imul, 1) := by decide +kernel
theorem dX4_beam_75 : decode cX4_beam 75 = .ok (.iadd, 1) := by decide +kernel
theorem dX4_beam_76 : decode cX4_beam 76 = .ok (.ireturn, 1) := by decide +kernel
theorem dX4_beam_77 : decode cX4_beam 77 = .ok (.iload 4, 2) := by decide +kernel
theorem dX4_beam_79 : decode cX4_beam 79 = .ok (.iload_n 3, 1) := by decide +kernel
theorem dX4_beam_80 : decode cX4_beam 80 = .ok (.iadd, 1) := by decide +kernel
theorem dX4_beam_81 : decode cX4_beam 81 = .ok (.iconst 2, 1) := by decide +kernel
theorem dX4_beam_82 : decode cX4_beam 82 = .ok (.iload_n 1, 1) := by decide +kernel
theorem dX4_beam_83 : decode cX4_beam 83 = .ok (.imul, 1) := by decide +kernel
theorem dX4_beam_84 : decode cX4_beam 84 = .ok (.isub, 1) := by decide +kernel
theorem dX4_beam_85 : decode cX4_beam 85 = .ok (.ireturn, 1) := by decide +kernel
theorem dX4_beam_86 : decode cX4_beam 86 = .ok (.iload 4, 2) := by decide +kernel
theorem dX4_beam_88 : decode cX4_beam 88 = .ok (.iload_n 3, 1) := by decide +kernel
theorem dX4_beam_89 : decode cX4_beam 89 = .ok (.isub, 1) := by decide +kernel
theorem dX4_beam_90 : decode cX4_beam 90 = .ok (.iconst 2, 1) := by decide +kernel
theorem dX4_beam_91 : decode cX4_beam 91 = .ok (.iload_n 2, 1) := by decide +kernel
theorem dX4_beam_92 : decode cX4_beam 92 = .ok (.imul, 1) := by decide +kernel
theorem dX4_beam_93 : decode cX4_beam 93 = .ok (.iadd, 1) := by decide +kernel
theorem dX4_beam_94 : decode cX4_beam 94 = .ok (.ireturn, 1) := by decide +kernel
theorem dX4_beam_95 : decode cX4_beam 95 = .ok (.iload 4, 2) := by decide +kernel
theorem dX4_beam_97 : decode cX4_beam 97 = .ok (.iload_n 3, 1) := by decide +kernel
theorem dX4_beam_98 : decode cX4_beam 98 = .ok (.isub, 1) := by decide +kernel
theorem dX4_beam_99 : decode cX4_beam 99 = .ok (.iconst 2, 1) := by decide +kernel
theorem dX4_beam_100 : decode cX4_beam 100 = .ok (.iload_n 2, 1) := by decide +kernel
theorem dX4_beam_101 : decode cX4_beam 101 = .ok (.imul, 1) := by decide +kernel
theorem dX4_beam_102 : decode cX4_beam 102 = .ok (.isub, 1) := by decide +kernel
theorem dX4_beam_103 : decode cX4_beam 103 = .ok (.ireturn, 1) := by decide +kernel
theorem dX4_beam_104 : decode cX4_beam 104 = .ok (.ldc 99, 2) := by decide +kernel
theorem dX4_beam_106 : decode cX4_beam 106 = .ok (.ireturn, 1) := by decide +kernel
set_option maxRecDepth 20000 in
theorem ggX4_turned_X4_isPlace : GoodIn wsX4_turned wsX4_isPlace := goodIn_r _ [5, 6, 7, 8, 9, 4, 10] (by decide +kernel) (by decide +kernel)
set_option maxRecDepth 20000 in
theorem gX4_turned_X4_isPlace : GoodIn wsX4_turned (va_wsS RX4 130 yX4_isPlace wsX4_isPlace) := goodIn_app (goodIn_of _ (by decide +kernel)) ggX4_turned_X4_isPlace
set_option maxRecDepth 20000 in
theorem ggX4_turned_X4_isTurn : GoodIn wsX4_turned wsX4_isTurn := goodIn_r _ [13, 8, 9, 4, 10] (by decide +kernel) (by decide +kernel)
set_option maxRecDepth 20000 in
theorem gX4_turned_X4_isTurn : GoodIn wsX4_turned (va_wsS RX4 127 yX4_isTurn wsX4_isTurn) := goodIn_app (goodIn_of _ (by decide +kernel)) ggX4_turned_X4_isTurn
set_option maxRecDepth 20000 in
theorem ggX4_turned_X4_isWithin : GoodIn wsX4_turned wsX4_isWithin := goodIn_r _ [10] (by decide +kernel) (by decide +kernel)
set_option maxRecDepth 20000 in
theorem gX4_turned_X4_isWithin : GoodIn wsX4_turned (va_wsS RX4 120 yX4_isWithin wsX4_isWithin) := goodIn_app (goodIn_of _ (by decide +kernel)) ggX4_turned_X4_isWithin
set_option maxRecDepth 20000 in
theorem ggX4_turned_X4_xTurned : GoodIn wsX4_turned wsX4_xTurned := goodIn_r _ [16, 17, 18, 4, 19, 20, 21, 22, 23] (by decide +kernel) (by decide +kernel)
set_option maxRecDepth 20000 in
theorem gX4_turned_X4_xTurned : GoodIn wsX4_turned (va_wsS RX4 195 yX4_xTurned wsX4_xTurned) := goodIn_app (goodIn_of _ (by decide +kernel)) ggX4_turned_X4_xTurned
set_option maxRecDepth 20000 in
theorem ggX4_turned_X4_yTurned : GoodIn wsX4_turned wsX4_yTurned := goodIn_r _ [26, 21, 22, 4, 23, 20, 17, 18, 19] (by decide +kernel) (by decide +kernel)
set_option maxRecDepth 20000 in
theorem gX4_turned_X4_yTurned : GoodIn wsX4_turned (va_wsS RX4 199 yX4_yTurned wsX4_yTurned) := goodIn_app (goodIn_of _ (by decide +kernel)) ggX4_turned_X4_yTurned
theorem dX4_turned_0 : decode cX4_turned 0 = .ok (.iload_n 1, 1) := by decide +kernel
theorem dX4_turned_1 : decode cX4_turned 1 = .ok (.invokestatic 130, 3) := by decide +kernel
theorem dX4_turned_4 : decode cX4_turned 4 = .ok (.ifCond .eq 27, 3) := by decide +kernel
theorem dX4_turned_7 : decode cX4_turned 7 = .ok (.iload_n 2, 1) := by decide +kernel
theorem dX4_turned_8 : decode cX4_turned 8 = .ok (.invokestatic 130, 3) := by decide +kernel
theorem dX4_turned_11 : decode cX4_turned 11 = .ok (.ifCond .eq 20, 3) := by decide +kernel
theorem dX4_turned_14 : decode cX4_turned 14 = .ok (.iload_n 3, 1) := by decide +kernel
theorem dX4_turned_15 : decode cX4_turned 15 = .ok (.invokestatic 127, 3) := by decide +kernel
theorem dX4_turned_18 : decode cX4_turned 18 = .ok (.ifCond .eq 13, 3) := by decide +kernel
theorem dX4_turned_21 : decode cX4_turned 21 = .ok (.iload 4, 2) := by decide +kernel
theorem dX4_turned_23 : decode cX4_turned 23 = .ok (.iconst 0, 1) := by decide +kernel
theorem dX4_turned_24 : decode cX4_turned 24 = .ok (.iconst 1, 1) := by decide +kernel
theorem dX4_turned_25 : decode cX4_turned 25 = .ok (.invokestatic 120, 3) := by decide +kernel
theorem dX4_turned_28 : decode cX4_turned 28 = .ok (.ifCond .ne 6, 3) := by decide +kernel
theorem dX4_turned_31 : decode cX4_turned 31 = .ok (.ldc 99, 2) := by decide +kernel
theorem dX4_turned_33 : decode cX4_turned 33 = .ok (.ireturn, 1) := by decide +kernel
theorem dX4_turned_34 : decode cX4_turned 34 = .ok (.iload 4, 2) := by decide +kernel
theorem dX4_turned_36 : decode cX4_turned 36 = .ok (.ifCond .ne 14, 3) := by decide +kernel
theorem dX4_turned_39 : decode cX4_turned 39 = .ok (.iload_n 1, 1) := by decide +kernel
theorem dX4_turned_40 : decode cX4_turned 40 = .ok (.i2l, 1) := by decide +kernel
theorem dX4_turned_41 : decode cX4_turned 41 = .ok (.iload_n 2, 1) := by decide +kernel
theorem dX4_turned_42 : decode cX4_turned 42 = .ok (.i2l, 1) := by decide +kernel
theorem dX4_turned_43 : decode cX4_turned 43 = .ok (.iload_n 3, 1) := by decide +kernel
theorem dX4_turned_44 : decode cX4_turned 44 = .ok (.invokestatic 195, 3) := by decide +kernel
theorem dX4_turned_47 : decode cX4_turned 47 = .ok (.goto 11, 3) := by decide +kernel
theorem dX4_turned_50 : decode cX4_turned 50 = .ok (.iload_n 1, 1) := by decide +kernel
theorem dX4_turned_51 : decode cX4_turned 51 = .ok (.i2l, 1) := by decide +kernel
theorem dX4_turned_52 : decode cX4_turned 52 = .ok (.iload_n 2, 1) := by decide +kernel
theorem dX4_turned_53 : decode cX4_turned 53 = .ok (.i2l, 1) := by decide +kernel
theorem dX4_turned_54 : decode cX4_turned 54 = .ok (.iload_n 3, 1) := by decide +kernel
theorem dX4_turned_55 : decode cX4_turned 55 = .ok (.invokestatic 199, 3) := by decide +kernel
theorem dX4_turned_58 : decode cX4_turned 58 = .ok (.l2i, 1) := by decide +kernel
theorem dX4_turned_59 : decode cX4_turned 59 = .ok (.ireturn, 1) := by decide +kernel
set_option maxRecDepth 20000 in
theorem ggX4_fate_X3_isPing : GoodIn wsX4_fate wsX3_isPing := goodIn_r _ [6, 7, 145, 146, 147, 148, 149] (by decide +kernel) (by decide +kernel)
set_option maxRecDepth 20000 in
theorem gX4_fate_X3_isPing : GoodIn wsX4_fate (wsV RX4 140 RX3 yX3_isPing wsX3_isPing) := goodIn_app (goodIn_of _ (by decide +kernel)) ggX4_fate_X3_isPing
set_option maxRecDepth 20000 in
theorem ggX4_fate_X4_isCell : GoodIn wsX4_fate wsX4_isCell := goodIn_r _ [12, 13, 14, 15, 11, 16, 131, 132, 133, 134, 135, 136, 137, 138, 139, 140, 141, 142, 143, 144] (by decide +kernel) (by decide +kernel)
set_option maxRecDepth 20000 in
theorem gX4_fate_X4_isCell : GoodIn wsX4_fate (wsV RX4 202 RX4 yX4_isCell wsX4_isCell) := goodIn_app (goodIn_of _ (by decide +kernel)) ggX4_fate_X4_isCell
set_option maxRecDepth 20000 in
theorem ggX4_fate_X4_findOwn : GoodIn wsX4_fate wsX4_findOwn := goodIn_r _ [20, 21, 22, 23, 1, 24, 25, 26, 27, 28, 29, 30, 31, 32, 33, 34, 35, 36, 11, 37, 38, 39, 40, 41, 42, 43, 44, 45, 46, 47, 48, 49, 50, 51, 52, 53, 54, 55, 56, 57, 58, 59, 60, 61, 62, 63, 64, 65, 66, 67, 68, 69, 70, 71, 5, 72, 73, 74, 3, 4, 6, 7, 75, 76, 77, 78, 79, 80, 81, 82, 83, 84, 85, 86, 87, 88, 89, 2, 90, 91, 92, 93, 94, 95, 96, 97, 98, 99, 100, 101, 102, 103, 104, 105, 106, 107, 108, 109, 110, 111, 131, 132, 133, 134, 135, 136, 137, 138, 139, 140, 141, 142, 143, 144, 150, 151, 152, 153, 154, 155, 156, 157, 158, 159, 160, 161, 145, 146, 147, 148, 149] (by decide +kernel) (by decide +kernel)
set_option maxRecDepth 20000 in
theorem gX4_fate_X4_findOwn : GoodIn wsX4_fate (wsV RX4 155 RX4 yX4_findOwn wsX4_findOwn) := goodIn_app (goodIn_of _ (by decide +kernel)) ggX4_fate_X4_findOwn
set_option maxRecDepth 20000 in
theorem ggX4_fate_X4_judge : GoodIn wsX4_fate wsX4_judge := goodIn_r _ [115, 23, 116, 1, 117, 118, 119, 120, 121, 11, 122, 13, 34, 35, 36, 37, 38, 39, 40, 41, 42, 43, 44, 45, 46, 47, 48, 49, 50, 51, 52, 53, 54, 55, 56, 57, 58, 59, 60, 61, 62, 63, 64, 65, 66, 67, 68, 123, 124, 125, 5, 126, 127, 74, 3, 4, 6, 7, 14, 15, 16, 128, 129, 130, 131, 132, 133, 134, 135, 136, 137, 138, 139, 140, 141, 142, 143, 144, 150, 151, 152, 153, 154, 159, 160, 161, 145, 146, 147, 148, 149] (by decide +kernel) (by decide +kernel)
set_option maxRecDepth 20000 in
theorem gX4_fate_X4_judge : GoodIn wsX4_fate (wsV RX4 205 RX4 yX4_judge wsX4_judge) := goodIn_app (goodIn_of _ (by decide +kernel)) ggX4_fate_X4_judge
theorem dX4_fate_0 : decode cX4_fate 0 = .ok (.aload_n 0, 1) := by decide +kernel
theorem dX4_fate_1 : decode cX4_fate 1 = .ok (.getfield 18, 3) := by decide +kernel
theorem dX4_fate_4 : decode cX4_fate 4 = .ok (.iload_n 1, 1) := by decide +kernel
theorem dX4_fate_5 : decode cX4_fate 5 = .ok (.invokevirtual 140, 3) := by decide +kernel
theorem dX4_fate_8 : decode cX4_fate 8 = .ok (.ifCond .eq 11, 3) := by decide +kernel
theorem dX4_fate_11 : decode cX4_fate 11 = .ok (.aload_n 0, 1) := by decide +kernel
theorem dX4_fate_12 : decode cX4_fate 12 = .ok (.iload_n 2, 1) := by decide +kernel
theorem dX4_fate_13 : decode cX4_fate 13 = .ok (.invokevirtual 202, 3) := by decide +kernel
theorem dX4_fate_16 : decode cX4_fate 16 = .ok (.ifCond .ne 6, 3) := by decide +kernel
theorem dX4_fate_19 : decode cX4_fate 19 = .ok (.bipush (-2), 2) := by decide +kernel
theorem dX4_fate_21 : decode cX4_fate 21 = .ok (.ireturn, 1) := by decide +kernel
theorem dX4_fate_22 : decode cX4_fate 22 = .ok (.aload_n 0, 1) := by decide +kernel
theorem dX4_fate_23 : decode cX4_fate 23 = .ok (.iload_n 1, 1) := by decide +kernel
theorem dX4_fate_24 : decode cX4_fate 24 = .ok (.iload_n 2, 1) := by decide +kernel
theorem dX4_fate_25 : decode cX4_fate 25 = .ok (.aload_n 0, 1) := by decide +kernel
theorem dX4_fate_26 : decode cX4_fate 26 = .ok (.iload_n 1, 1) := by decide +kernel
theorem dX4_fate_27 : decode cX4_fate 27 = .ok (.invokevirtual 155, 3) := by decide +kernel
theorem dX4_fate_30 : decode cX4_fate 30 = .ok (.invokevirtual 205, 3) := by decide +kernel
theorem dX4_fate_33 : decode cX4_fate 33 = .ok (.ireturn, 1) := by decide +kernel
set_option maxRecDepth 20000 in
theorem ggX4_pace_X3_isPing : GoodIn wsX4_pace wsX3_isPing := goodIn_r _ [9, 10, 161, 162, 163, 164, 165] (by decide +kernel) (by decide +kernel)
set_option maxRecDepth 20000 in
theorem gX4_pace_X3_isPing : GoodIn wsX4_pace (wsV RX4 140 RX3 yX3_isPing wsX3_isPing) := goodIn_app (goodIn_of _ (by decide +kernel)) ggX4_pace_X3_isPing
set_option maxRecDepth 20000 in
theorem ggX4_pace_X4_isCell : GoodIn wsX4_pace wsX4_isCell := goodIn_r _ [15, 16, 17, 18, 14, 19, 142, 143, 144, 145, 146, 147, 148, 149, 150, 151, 152, 153, 154, 155] (by decide +kernel) (by decide +kernel)
set_option maxRecDepth 20000 in
theorem gX4_pace_X4_isCell : GoodIn wsX4_pace (wsV RX4 202 RX4 yX4_isCell wsX4_isCell) := goodIn_app (goodIn_of _ (by decide +kernel)) ggX4_pace_X4_isCell
set_option maxRecDepth 20000 in
theorem ggX4_pace_X4_isWithin : GoodIn wsX4_pace wsX4_isWithin := goodIn_r _ [19] (by decide +kernel) (by decide +kernel)
set_option maxRecDepth 20000 in
theorem gX4_pace_X4_isWithin : GoodIn wsX4_pace (va_wsS RX4 120 yX4_isWithin wsX4_isWithin) := goodIn_app (goodIn_of _ (by decide +kernel)) ggX4_pace_X4_isWithin
set_option maxRecDepth 20000 in
theorem ggX4_pace_X4_asLong : GoodIn wsX4_pace wsX4_asLong := goodIn_r _ [22, 23] (by decide +kernel) (by decide +kernel)
set_option maxRecDepth 20000 in
theorem gX4_pace_X4_asLong : GoodIn wsX4_pace (va_wsS RX4 162 yX4_asLong wsX4_asLong) := goodIn_app (goodIn_of _ (by decide +kernel)) ggX4_pace_X4_asLong
set_option maxRecDepth 20000 in
theorem ggX4_pace_X4_findOwn : GoodIn wsX4_pace wsX4_findOwn := goodIn_r _ [27, 28, 29, 2, 1, 30, 31, 32, 33, 34, 35, 36, 37, 38, 39, 40, 41, 42, 14, 43, 44, 45, 46, 47, 48, 49, 50, 51, 52, 53, 54, 55, 56, 57, 58, 59, 60, 61, 62, 63, 64, 65, 66, 67, 68, 69, 70, 71, 72, 73, 74, 75, 76, 77, 8, 78, 79, 80, 6, 7, 9, 10, 81, 82, 83, 84, 85, 86, 87, 88, 89, 90, 91, 92, 93, 94, 95, 5, 96, 97, 98, 99, 100, 101, 102, 103, 104, 105, 106, 107, 108, 109, 110, 111, 112, 113, 114, 115, 116, 117, 142, 143, 144, 145, 146, 147, 148, 149, 150, 151, 152, 153, 154, 155, 156, 157, 158, 159, 160, 166, 167, 168, 169, 170, 171, 172, 161, 162, 163, 164, 165] (by decide +kernel) (by decide +kernel)
set_option maxRecDepth 20000 in
theorem gX4_pace_X4_findOwn : GoodIn wsX4_pace (wsV RX4 155 RX4 yX4_findOwn wsX4_findOwn) := goodIn_app (goodIn_of _ (by decide +kernel)) ggX4_pace_X4_findOwn
set_option maxRecDepth 20000 in
theorem ggX4_pace_X4_itemOfCell : GoodIn wsX4_pace wsX4_itemOfCell := goodIn_r _ [121, 16, 142, 143, 144, 145, 146, 147, 148, 149, 150, 151, 152, 153, 154, 155] (by decide +kernel) (by decide +kernel)
set_option maxRecDepth 20000 in
theorem gX4_pace_X4_itemOfCell : GoodIn wsX4_pace (wsV RX4 209 RX4 yX4_itemOfCell wsX4_itemOfCell) := goodIn_app (goodIn_of _ (by decide +kernel)) ggX4_pace_X4_itemOfCell
set_option maxRecDepth 20000 in
theorem ggX4_pace_X4_readBeams : GoodIn wsX4_pace wsX4_readBeams := goodIn_r _ [43, 2, 44, 45, 46, 14, 47, 48, 49, 50, 51, 52, 53, 54, 55, 56, 57, 58, 59, 60, 61, 62, 63, 64, 65, 66, 67, 68, 69, 70, 71, 72, 73, 74, 142, 143, 144, 145, 146, 147, 148, 149, 150, 151, 152, 153, 154, 155, 170, 171, 172, 156, 157, 158, 159, 160] (by decide +kernel) (by decide +kernel)
set_option maxRecDepth 20000 in
theorem gX4_pace_X4_readBeams : GoodIn wsX4_pace (wsV RX4 212 RX4 yX4_readBeams wsX4_readBeams) := goodIn_app (goodIn_of _ (by decide +kernel)) ggX4_pace_X4_readBeams
set_option maxRecDepth 20000 in
theorem ggX4_pace_X4_findPace : GoodIn wsX4_pace wsX4_findPace := goodIn_r _ [125, 3, 2, 1, 28, 31, 32, 33, 34, 35, 36, 37, 38, 39, 75, 76, 77, 8, 78, 79, 80, 6, 7, 9, 10, 81, 82, 83, 84, 85, 14, 86, 87, 88, 89, 90, 91, 92, 93, 94, 95, 126, 127, 128, 129, 142, 143, 144, 145, 146, 147, 148, 149, 150, 151, 152, 153, 154, 155, 156, 157, 158, 159, 160, 166, 167, 168, 169, 161, 162, 163, 164, 165] (by decide +kernel) (by decide +kernel)
set_option maxRecDepth 20000 in
theorem gX4_pace_X4_findPace : GoodIn wsX4_pace (wsV RX4 215 RX4 yX4_findPace wsX4_findPace) := goodIn_app (goodIn_of _ (by decide +kernel)) ggX4_pace_X4_findPace
set_option maxRecDepth 20000 in
theorem ggX4_pace_X1_part : GoodIn wsX4_pace wsX1_part := goodIn_r _ [133, 134, 135, 136, 34, 137, 36, 37, 38, 85, 14, 86, 87, 88, 89, 90, 91, 92, 93, 138, 139, 140, 141, 39, 94, 95, 166, 167, 168, 169] (by decide +kernel) (by decide +kernel)
set_option maxRecDepth 20000 in
theorem gX4_pace_X1_part : GoodIn wsX4_pace (wsV RX4 166 RX1 yX1_part wsX1_part) := goodIn_app (goodIn_of _ (by decide +kernel)) ggX4_pace_X1_part
theorem dX4_pace_0 : decode cX4_pace 0 = .ok (.aload_n 0, 1) := by decide +kernel
theorem dX4_pace_1 : decode cX4_pace 1 = .ok (.getfield 18, 3) := by decide +kernel
theorem dX4_pace_4 : decode cX4_pace 4 = .ok (.iload_n 1, 1) := by decide +kernel
theorem dX4_pace_5 : decode cX4_pace 5 = .ok (.invokevirtual 140, 3) := by decide +kernel
theorem dX4_pace_8 : decode cX4_pace 8 = .ok (.ifCond .eq 20, 3) := by decide +kernel
theorem dX4_pace_11 : decode cX4_pace 11 = .ok (.aload_n 0, 1) := by decide +kernel
theorem dX4_pace_12 : decode cX4_pace 12 = .ok (.iload_n 2, 1) := by decide +kernel
theorem dX4_pace_13 : decode cX4_pace 13 = .ok (.invokevirtual 202, 3) := by decide +kernel
theorem dX4_pace_16 : decode cX4_pace 16 = .ok (.ifCond .eq 12, 3) := by decide +kernel
theorem dX4_pace_19 : decode cX4_pace 19 = .ok (.iload_n 3, 1) := by decide +kernel
theorem dX4_pace_20 : decode cX4_pace 20 = .ok (.iconst 0, 1) := by decide +kernel
theorem dX4_pace_21 : decode cX4_pace 21 = .ok (.iconst 1, 1) := by decide +kernel
theorem dX4_pace_22 : decode cX4_pace 22 = .ok (.invokestatic 120, 3) := by decide +kernel
theorem dX4_pace_25 : decode cX4_pace 25 = .ok (.ifCond .ne 9, 3) := by decide +kernel
theorem dX4_pace_28 : decode cX4_pace 28 = .ok (.bipush (-2), 2) := by decide +kernel
theorem dX4_pace_30 : decode cX4_pace 30 = .ok (.invokestatic 162, 3) := by decide +kernel
theorem dX4_pace_33 : decode cX4_pace 33 = .ok (.lreturn, 1) := by decide +kernel
theorem dX4_pace_34 : decode cX4_pace 34 = .ok (.aload_n 0, 1) := by decide +kernel
theorem dX4_pace_35 : decode cX4_pace 35 = .ok (.iload_n 1, 1) := by decide +kernel
theorem dX4_pace_36 : decode cX4_pace 36 = .ok (.invokevirtual 155, 3) := by decide +kernel
theorem dX4_pace_39 : decode cX4_pace 39 = .ok (.ifCond .ne 9, 3) := by decide +kernel
theorem dX4_pace_42 : decode cX4_pace 42 = .ok (.bipush (-3), 2) := by decide +kernel
theorem dX4_pace_44 : decode cX4_pace 44 = .ok (.invokestatic 162, 3) := by decide +kernel
theorem dX4_pace_47 : decode cX4_pace 47 = .ok (.lreturn, 1) := by decide +kernel
theorem dX4_pace_48 : decode cX4_pace 48 = .ok (.aload_n 0, 1) := by decide +kernel
theorem dX4_pace_49 : decode cX4_pace 49 = .ok (.iconst 0, 1) := by decide +kernel
theorem dX4_pace_50 : decode cX4_pace 50 = .ok (.aload_n 0, 1) := by decide +kernel
theorem dX4_pace_51 : decode cX4_pace 51 = .ok (.iload_n 1, 1) := by decide +kernel
theorem dX4_pace_52 : decode cX4_pace 52 = .ok (.iload_n 2, 1) := by decide +kernel
theorem dX4_pace_53 : decode cX4_pace 53 = .ok (.invokevirtual 209, 3) := by decide +kernel
theorem dX4_pace_56 : decode cX4_pace 56 = .ok (.invokevirtual 212, 3) := by decide +kernel
theorem dX4_pace_59 : decode cX4_pace 59 = .ok (.aload_n 0, 1) := by decide +kernel
theorem dX4_pace_60 : decode cX4_pace 60 = .ok (.getfield 25, 3) := by decide +kernel
theorem dX4_pace_63 : decode cX4_pace 63 = .ok (.getfield 175, 3) := by decide +kernel
theorem dX4_pace_66 : decode cX4_pace 66 = .ok (.ifCond .ne 9, 3) := by decide +kernel
theorem dX4_pace_69 : decode cX4_pace 69 = .ok (.bipush (-3), 2) := by decide +kernel
theorem dX4_pace_71 : decode cX4_pace 71 = .ok (.invokestatic 162, 3) := by decide +kernel
theorem dX4_pace_74 : decode cX4_pace 74 = .ok (.lreturn, 1) := by decide +kernel
theorem dX4_pace_75 : decode cX4_pace 75 = .ok (.aload_n 0, 1) := by decide +kernel
theorem dX4_pace_76 : decode cX4_pace 76 = .ok (.iload_n 1, 1) := by decide +kernel
theorem dX4_pace_77 : decode cX4_pace 77 = .ok (.invokevirtual 215, 3) := by decide +kernel
theorem dX4_pace_80 : decode cX4_pace 80 = .ok (.aload_n 0, 1) := by decide +kernel
theorem dX4_pace_81 : decode cX4_pace 81 = .ok (.getfield 36, 3) := by decide +kernel
theorem dX4_pace_84 : decode cX4_pace 84 = .ok (.aload_n 0, 1) := by decide +kernel
theorem dX4_pace_85 : decode cX4_pace 85 = .ok (.getfield 52, 3) := by decide +kernel
theorem dX4_pace_88 : decode cX4_pace 88 = .ok (.iload_n 3, 1) := by decide +kernel
theorem dX4_pace_89 : decode cX4_pace 89 = .ok (.invokevirtual 166, 3) := by decide +kernel
theorem dX4_pace_92 : decode cX4_pace 92 = .ok (.lreturn, 1) := by decide +kernel
set_option maxRecDepth 20000 in
theorem ggX4_fates_X4_isWithin : GoodIn wsX4_fates wsX4_isWithin := goodIn_r _ [5] (by decide +kernel) (by decide +kernel)
set_option maxRecDepth 20000 in
theorem gX4_fates_X4_isWithin : GoodIn wsX4_fates (va_wsS RX4 120 yX4_isWithin wsX4_isWithin) := goodIn_app (goodIn_of _ (by decide +kernel)) ggX4_fates_X4_isWithin
set_option maxRecDepth 20000 in
theorem ggX4_fates_X4_fatesOfPing : GoodIn wsX4_fates wsX4_fatesOfPing := goodIn_r _ [9, 10, 11, 12, 13, 4, 14, 15, 16, 17, 1, 18, 19, 20, 21, 22, 23, 24, 25, 26, 27, 28, 29, 30, 31, 32, 33, 34, 35, 36, 37, 38, 39, 40, 41, 42, 43, 44, 45, 46, 47, 48, 49, 50, 51, 52, 53, 54, 55, 56, 57, 58, 59, 60, 61, 62, 63, 64, 65, 66, 67, 68, 69, 70, 71, 72, 73, 74, 75, 76, 77, 78, 79, 80, 81, 82, 83, 84, 85, 86, 87, 88, 89, 90, 91, 92, 93, 94, 95, 96, 97, 98, 99, 100, 101, 102, 103, 104, 105, 106, 107, 108, 109, 110, 111, 112, 113, 114, 115, 116, 117, 118, 119, 120, 121, 122, 123, 124, 125, 126, 127, 2, 3, 5, 128, 129, 130, 131, 132, 133, 134, 135, 136, 137, 138, 139, 140, 141, 142, 143, 144, 145, 151, 152, 153, 154, 155, 156, 157, 158, 159, 160, 161, 162, 146, 147, 148, 149, 150] (by decide +kernel) (by decide +kernel)
set_option maxRecDepth 20000 in
theorem gX4_fates_X4_fatesOfPing : GoodIn wsX4_fates (wsV RX4 219 RX4 yX4_fatesOfPing wsX4_fatesOfPing) := goodIn_app (goodIn_of _ (by decide +kernel)) ggX4_fates_X4_fatesOfPing
theorem dX4_fates_0 : decode cX4_fates 0 = .ok (.iload_n 1, 1) := by decide +kernel
theorem dX4_fates_1 : decode cX4_fates 1 = .ok (.iconst 0, 1) := by decide +kernel
theorem dX4_fates_2 : decode cX4_fates 2 = .ok (.bipush 6, 2) := by decide +kernel
theorem dX4_fates_4 : decode cX4_fates 4 = .ok (.invokestatic 120, 3) := by decide +kernel
theorem dX4_fates_7 : decode cX4_fates 7 = .ok (.ifCond .ne 6, 3) := by decide +kernel
theorem dX4_fates_10 : decode cX4_fates 10 = .ok (.bipush (-2), 2) := by decide +kernel
theorem dX4_fates_12 : decode cX4_fates 12 = .ok (.ireturn, 1) := by decide +kernel
theorem dX4_fates_13 : decode cX4_fates 13 = .ok (.iconst 0, 1) := by decide +kernel
theorem dX4_fates_14 : decode cX4_fates 14 = .ok (.istore_n 2, 1) := by decide +kernel
theorem dX4_fates_15 : decode cX4_fates 15 = .ok (.iconst 0, 1) := by decide +kernel
theorem dX4_fates_16 : decode cX4_fates 16 = .ok (.istore_n 3, 1) := by decide +kernel
theorem dX4_fates_17 : decode cX4_fates 17 = .ok (.iload_n 3, 1) := by decide +kernel
theorem dX4_fates_18 : decode cX4_fates 18 = .ok (.aload_n 0, 1) := by decide +kernel
theorem dX4_fates_19 : decode cX4_fates 19 = .ok (.getfield 18, 3) := by decide +kernel
theorem dX4_fates_22 : decode cX4_fates 22 = .ok (.getfield 124, 3) := by decide +kernel
theorem dX4_fates_25 : decode cX4_fates 25 = .ok (.if_icmp .ge 18, 3) := by decide +kernel
theorem dX4_fates_28 : decode cX4_fates 28 = .ok (.iload_n 2, 1) := by decide +kernel
theorem dX4_fates_29 : decode cX4_fates 29 = .ok (.aload_n 0, 1) := by decide +kernel
theorem dX4_fates_30 : decode cX4_fates 30 = .ok (.iload_n 3, 1) := by decide +kernel
theorem dX4_fates_31 : decode cX4_fates 31 = .ok (.iload_n 1, 1) := by decide +kernel
theorem dX4_fates_32 : decode cX4_fates 32 = .ok (.invokevirtual 219, 3) := by decide +kernel
theorem dX4_fates_35 : decode cX4_fates 35 = .ok (.iadd, 1) := by decide +kernel
theorem dX4_fates_36 : decode cX4_fates 36 = .ok (.istore_n 2, 1) := by decide +kernel
theorem dX4_fates_37 : decode cX4_fates 37 = .ok (.iinc 3 1, 3) := by decide +kernel
theorem dX4_fates_40 : decode cX4_fates 40 = .ok (.goto (-23), 3) := by decide +kernel
theorem dX4_fates_43 : decode cX4_fates 43 = .ok (.iload_n 2, 1) := by decide +kernel
theorem dX4_fates_44 : decode cX4_fates 44 = .ok (.ireturn, 1) := by decide +kernel
set_option maxRecDepth 20000 in
theorem ggX4_box_X4_isBox : GoodIn wsX4_box wsX4_isBox := goodIn_r _ [7, 8, 9, 10, 11, 12, 13, 14, 15, 16, 17, 18, 19, 20, 21, 6, 22, 23, 24, 25, 26, 174, 175, 176, 177, 178, 179, 180, 181, 182, 183, 184, 185, 186, 187, 188, 189, 190, 191, 192] (by decide +kernel) (by decide +kernel)
set_option maxRecDepth 20000 in
theorem gX4_box_X4_isBox : GoodIn wsX4_box (wsV RX4 222 RX4 yX4_isBox wsX4_isBox) := goodIn_app (goodIn_of _ (by decide +kernel)) ggX4_box_X4_isBox
set_option maxRecDepth 20000 in
theorem ggX4_box_X4_isWithin : GoodIn wsX4_box wsX4_isWithin := goodIn_r _ [26] (by decide +kernel) (by decide +kernel)
set_option maxRecDepth 20000 in
theorem gX4_box_X4_isWithin : GoodIn wsX4_box (va_wsS RX4 120 yX4_isWithin wsX4_isWithin) := goodIn_app (goodIn_of _ (by decide +kernel)) ggX4_box_X4_isWithin
set_option maxRecDepth 20000 in
theorem ggX4_box_X4_asLong : GoodIn wsX4_box wsX4_asLong := goodIn_r _ [29, 30] (by decide +kernel) (by decide +kernel)
set_option maxRecDepth 20000 in
theorem gX4_box_X4_asLong : GoodIn wsX4_box (va_wsS RX4 162 yX4_asLong wsX4_asLong) := goodIn_app (goodIn_of _ (by decide +kernel)) ggX4_box_X4_asLong
set_option maxRecDepth 20000 in
theorem ggX4_box_X4_sumGood : GoodIn wsX4_box wsX4_sumGood := goodIn_r _ [34, 35, 36, 37, 38, 39, 40, 41, 42, 43, 44, 45, 46, 47, 6, 48, 49, 50, 51, 8, 52, 53, 54, 55, 56, 57, 58, 59, 60, 61, 62, 63, 64, 65, 66, 67, 68, 69, 70, 71, 72, 73, 74, 75, 76, 77, 78, 79, 80, 81, 82, 83, 84, 85, 86, 87, 88, 89, 90, 12, 91, 92, 14, 15, 16, 17, 18, 93, 94, 95, 96, 97, 98, 99, 100, 101, 102, 103, 104, 105, 106, 107, 108, 109, 110, 111, 112, 113, 114, 115, 116, 117, 118, 119, 120, 121, 122, 123, 124, 125, 126, 127, 128, 129, 130, 131, 132, 133, 134, 135, 136, 137, 138, 139, 140, 141, 23, 142, 143, 144, 145, 146, 24, 25, 26, 147, 148, 149, 150, 151, 152, 153, 154, 155, 156, 157, 158, 159, 160, 161, 174, 175, 176, 177, 178, 179, 180, 181, 182, 183, 184, 185, 186, 187, 193, 194, 195, 196, 197, 198, 199, 200, 201, 202, 203, 204, 188, 189, 190, 191, 192] (by decide +kernel) (by decide +kernel)
set_option maxRecDepth 20000 in
theorem gX4_box_X4_sumGood : GoodIn wsX4_box (wsV RX4 226 RX4 yX4_sumGood wsX4_sumGood) := goodIn_app (goodIn_of _ (by decide +kernel)) ggX4_box_X4_sumGood
set_option maxRecDepth 20000 in
theorem ggX4_box_X1_part : GoodIn wsX4_box wsX1_part := goodIn_r _ [165, 166, 167, 168, 39, 169, 41, 42, 43, 97, 6, 98, 99, 100, 101, 102, 103, 104, 105, 170, 171, 172, 173, 44, 106, 107, 193, 194, 195, 196] (by decide +kernel) (by decide +kernel)
set_option maxRecDepth 20000 in
theorem gX4_box_X1_part : GoodIn wsX4_box (wsV RX4 166 RX1 yX1_part wsX1_part) := goodIn_app (goodIn_of _ (by decide +kernel)) ggX4_box_X1_part
theorem dX4_box_0 : decode cX4_box 0 = .ok (.aload_n 0, 1) := by decide +kernel
theorem dX4_box_1 : decode cX4_box 1 = .ok (.iload_n 1, 1) := by decide +kernel
theorem dX4_box_2 : decode cX4_box 2 = .ok (.iload_n 2, 1) := by decide +kernel
theorem dX4_box_3 : decode cX4_box 3 = .ok (.iload_n 3, 1) := by decide +kernel
theorem dX4_box_4 : decode cX4_box 4 = .ok (.iload 4, 2) := by decide +kernel
theorem dX4_box_6 : decode cX4_box 6 = .ok (.invokevirtual 222, 3) := by decide +kernel
theorem dX4_box_9 : decode cX4_box 9 = .ok (.ifCond .eq 13, 3) := by decide +kernel
theorem dX4_box_12 : decode cX4_box 12 = .ok (.iload 5, 2) := by decide +kernel
theorem dX4_box_14 : decode cX4_box 14 = .ok (.iconst 0, 1) := by decide +kernel
theorem dX4_box_15 : decode cX4_box 15 = .ok (.iconst 2, 1) := by decide +kernel
theorem dX4_box_16 : decode cX4_box 16 = .ok (.invokestatic 120, 3) := by decide +kernel
theorem dX4_box_19 : decode cX4_box 19 = .ok (.ifCond .ne 9, 3) := by decide +kernel
theorem dX4_box_22 : decode cX4_box 22 = .ok (.bipush (-2), 2) := by decide +kernel
theorem dX4_box_24 : decode cX4_box 24 = .ok (.invokestatic 162, 3) := by decide +kernel
theorem dX4_box_27 : decode cX4_box 27 = .ok (.lreturn, 1) := by decide +kernel
theorem dX4_box_28 : decode cX4_box 28 = .ok (.aload_n 0, 1) := by decide +kernel
theorem dX4_box_29 : decode cX4_box 29 = .ok (.aload_n 0, 1) := by decide +kernel
theorem dX4_box_30 : decode cX4_box 30 = .ok (.getfield 39, 3) := by decide +kernel
theorem dX4_box_33 : decode cX4_box 33 = .ok (.iload_n 1, 1) := by decide +kernel
theorem dX4_box_34 : decode cX4_box 34 = .ok (.iload_n 2, 1) := by decide +kernel
theorem dX4_box_35 : decode cX4_box 35 = .ok (.iload_n 3, 1) := by decide +kernel
