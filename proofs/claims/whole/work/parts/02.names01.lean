theorem dX0_init_0 : decode cX0_init 0 = .ok (.aload_n 0, 1) := by decide +kernel
theorem dX0_init_1 : decode cX0_init 1 = .ok (.invokespecial 3, 3) := by decide +kernel
theorem dX0_init_4 : decode cX0_init 4 = .ok (.aload_n 0, 1) := by decide +kernel
theorem dX0_init_5 : decode cX0_init 5 = .ok (.iconst 0, 1) := by decide +kernel
theorem dX0_init_6 : decode cX0_init 6 = .ok (.putfield 9, 3) := by decide +kernel
theorem dX0_init_9 : decode cX0_init 9 = .ok (.aload_n 0, 1) := by decide +kernel
theorem dX0_init_10 : decode cX0_init 10 = .ok (.iconst 0, 1) := by decide +kernel
theorem dX0_init_11 : decode cX0_init 11 = .ok (.putfield 15, 3) := by decide +kernel
theorem dX0_init_14 : decode cX0_init 14 = .ok (.aload_n 0, 1) := by decide +kernel
theorem dX0_init_15 : decode cX0_init 15 = .ok (.iconst 0, 1) := by decide +kernel
theorem dX0_init_16 : decode cX0_init 16 = .ok (.putfield 18, 3) := by decide +kernel
theorem dX0_init_19 : decode cX0_init 19 = .ok (.aload_n 0, 1) := by decide +kernel
theorem dX0_init_20 : decode cX0_init 20 = .ok (.iconst 0, 1) := by decide +kernel
theorem dX0_init_21 : decode cX0_init 21 = .ok (.putfield 22, 3) := by decide +kernel
theorem dX0_init_24 : decode cX0_init 24 = .ok (.aload_n 0, 1) := by decide +kernel
theorem dX0_init_25 : decode cX0_init 25 = .ok (.iconst 0, 1) := by decide +kernel
theorem dX0_init_26 : decode cX0_init 26 = .ok (.putfield 25, 3) := by decide +kernel
theorem dX0_init_29 : decode cX0_init 29 = .ok (.return_, 1) := by decide +kernel
set_option maxRecDepth 20000 in
theorem ggX0_take_X0_isNone : GoodIn wsX0_take wsX0_isNone := goodIn_r _ [9] (by decide +kernel) (by decide +kernel)
set_option maxRecDepth 20000 in
theorem gX0_take_X0_isNone : GoodIn wsX0_take (va_wsS RX0 28 yX0_isNone wsX0_isNone) := goodIn_app (goodIn_of _ (by decide +kernel)) ggX0_take_X0_isNone
set_option maxRecDepth 20000 in
theorem ggX0_take_X4_asNumber : GoodIn wsX0_take wsX4_asNumber := goodIn_r _ [12] (by decide +kernel) (by decide +kernel)
set_option maxRecDepth 20000 in
theorem gX0_take_X4_asNumber_n32 : GoodIn wsX0_take (wsX4_asNumber) := ggX0_take_X4_asNumber
theorem dX0_take_0 : decode cX0_take 0 = .ok (.iload_n 1, 1) := by decide +kernel
theorem dX0_take_1 : decode cX0_take 1 = .ok (.invokestatic 28, 3) := by decide +kernel
theorem dX0_take_4 : decode cX0_take 4 = .ok (.invokestatic 32, 3) := by decide +kernel
theorem dX0_take_7 : decode cX0_take 7 = .ok (.iload_n 2, 1) := by decide +kernel
theorem dX0_take_8 : decode cX0_take 8 = .ok (.invokestatic 28, 3) := by decide +kernel
theorem dX0_take_11 : decode cX0_take 11 = .ok (.invokestatic 32, 3) := by decide +kernel
theorem dX0_take_14 : decode cX0_take 14 = .ok (.iadd, 1) := by decide +kernel
theorem dX0_take_15 : decode cX0_take 15 = .ok (.iload_n 3, 1) := by decide +kernel
theorem dX0_take_16 : decode cX0_take 16 = .ok (.invokestatic 28, 3) := by decide +kernel
theorem dX0_take_19 : decode cX0_take 19 = .ok (.invokestatic 32, 3) := by decide +kernel
theorem dX0_take_22 : decode cX0_take 22 = .ok (.iadd, 1) := by decide +kernel
theorem dX0_take_23 : decode cX0_take 23 = .ok (.iload 4, 2) := by decide +kernel
theorem dX0_take_25 : decode cX0_take 25 = .ok (.invokestatic 28, 3) := by decide +kernel
theorem dX0_take_28 : decode cX0_take 28 = .ok (.invokestatic 32, 3) := by decide +kernel
theorem dX0_take_31 : decode cX0_take 31 = .ok (.iadd, 1) := by decide +kernel
theorem dX0_take_32 : decode cX0_take 32 = .ok (.istore 5, 2) := by decide +kernel
theorem dX0_take_34 : decode cX0_take 34 = .ok (.aload_n 0, 1) := by decide +kernel
theorem dX0_take_35 : decode cX0_take 35 = .ok (.iload 5, 2) := by decide +kernel
theorem dX0_take_37 : decode cX0_take 37 = .ok (.iconst 1, 1) := by decide +kernel
theorem dX0_take_38 : decode cX0_take 38 = .ok (.if_icmp .gt 7, 3) := by decide +kernel
theorem dX0_take_41 : decode cX0_take 41 = .ok (.iconst 1, 1) := by decide +kernel
theorem dX0_take_42 : decode cX0_take 42 = .ok (.goto 4, 3) := by decide +kernel
theorem dX0_take_45 : decode cX0_take 45 = .ok (.iconst 0, 1) := by decide +kernel
theorem dX0_take_46 : decode cX0_take 46 = .ok (.putfield 9, 3) := by decide +kernel
theorem dX0_take_49 : decode cX0_take 49 = .ok (.aload_n 0, 1) := by decide +kernel
theorem dX0_take_50 : decode cX0_take 50 = .ok (.iload 5, 2) := by decide +kernel
theorem dX0_take_52 : decode cX0_take 52 = .ok (.iconst 1, 1) := by decide +kernel
theorem dX0_take_53 : decode cX0_take 53 = .ok (.if_icmp .ne 7, 3) := by decide +kernel
theorem dX0_take_56 : decode cX0_take 56 = .ok (.iconst 1, 1) := by decide +kernel
theorem dX0_take_57 : decode cX0_take 57 = .ok (.goto 4, 3) := by decide +kernel
theorem dX0_take_60 : decode cX0_take 60 = .ok (.iconst 0, 1) := by decide +kernel
theorem dX0_take_61 : decode cX0_take 61 = .ok (.putfield 15, 3) := by decide +kernel
theorem dX0_take_64 : decode cX0_take 64 = .ok (.aload_n 0, 1) := by decide +kernel
theorem dX0_take_65 : decode cX0_take 65 = .ok (.getfield 9, 3) := by decide +kernel
theorem dX0_take_68 : decode cX0_take 68 = .ok (.ifCond .ne 4, 3) := by decide +kernel
theorem dX0_take_71 : decode cX0_take 71 = .ok (.return_, 1) := by decide +kernel
theorem dX0_take_72 : decode cX0_take 72 = .ok (.iload_n 1, 1) := by decide +kernel
theorem dX0_take_73 : decode cX0_take 73 = .ok (.invokestatic 28, 3) := by decide +kernel
theorem dX0_take_76 : decode cX0_take 76 = .ok (.ifCond .eq 12, 3) := by decide +kernel
theorem dX0_take_79 : decode cX0_take 79 = .ok (.iload_n 3, 1) := by decide +kernel
theorem dX0_take_80 : decode cX0_take 80 = .ok (.iload 4, 2) := by decide +kernel
theorem dX0_take_82 : decode cX0_take 82 = .ok (.iadd, 1) := by decide +kernel
theorem dX0_take_83 : decode cX0_take 83 = .ok (.iload_n 2, 1) := by decide +kernel
theorem dX0_take_84 : decode cX0_take 84 = .ok (.isub, 1) := by decide +kernel
theorem dX0_take_85 : decode cX0_take 85 = .ok (.goto 4, 3) := by decide +kernel
theorem dX0_take_88 : decode cX0_take 88 = .ok (.iload_n 1, 1) := by decide +kernel
theorem dX0_take_89 : decode cX0_take 89 = .ok (.istore 6, 2) := by decide +kernel
theorem dX0_take_91 : decode cX0_take 91 = .ok (.iload_n 2, 1) := by decide +kernel
theorem dX0_take_92 : decode cX0_take 92 = .ok (.invokestatic 28, 3) := by decide +kernel
theorem dX0_take_95 : decode cX0_take 95 = .ok (.ifCond .eq 12, 3) := by decide +kernel
theorem dX0_take_98 : decode cX0_take 98 = .ok (.iload_n 3, 1) := by decide +kernel
theorem dX0_take_99 : decode cX0_take 99 = .ok (.iload 4, 2) := by decide +kernel
theorem dX0_take_101 : decode cX0_take 101 = .ok (.iadd, 1) := by decide +kernel
theorem dX0_take_102 : decode cX0_take 102 = .ok (.iload_n 1, 1) := by decide +kernel
theorem dX0_take_103 : decode cX0_take 103 = .ok (.isub, 1) := by decide +kernel
theorem dX0_take_104 : decode cX0_take 104 = .ok (.goto 4, 3) := by decide +kernel
theorem dX0_take_107 : decode cX0_take 107 = .ok (.iload_n 2, 1) := by decide +kernel
theorem dX0_take_108 : decode cX0_take 108 = .ok (.istore 7, 2) := by decide +kernel
theorem dX0_take_110 : decode cX0_take 110 = .ok (.iload_n 3, 1) := by decide +kernel
theorem dX0_take_111 : decode cX0_take 111 = .ok (.invokestatic 28, 3) := by decide +kernel
theorem dX0_take_114 : decode cX0_take 114 = .ok (.ifCond .eq 12, 3) := by decide +kernel
theorem dX0_take_117 : decode cX0_take 117 = .ok (.iload_n 1, 1) := by decide +kernel
theorem dX0_take_118 : decode cX0_take 118 = .ok (.iload_n 2, 1) := by decide +kernel
theorem dX0_take_119 : decode cX0_take 119 = .ok (.iadd, 1) := by decide +kernel
theorem dX0_take_120 : decode cX0_take 120 = .ok (.iload 4, 2) := by decide +kernel
theorem dX0_take_122 : decode cX0_take 122 = .ok (.isub, 1) := by decide +kernel
theorem dX0_take_123 : decode cX0_take 123 = .ok (.goto 4, 3) := by decide +kernel
theorem dX0_take_126 : decode cX0_take 126 = .ok (.iload_n 3, 1) := by decide +kernel
theorem dX0_take_127 : decode cX0_take 127 = .ok (.istore 8, 2) := by decide +kernel
theorem dX0_take_129 : decode cX0_take 129 = .ok (.iload 4, 2) := by decide +kernel
theorem dX0_take_131 : decode cX0_take 131 = .ok (.invokestatic 28, 3) := by decide +kernel
theorem dX0_take_134 : decode cX0_take 134 = .ok (.ifCond .eq 11, 3) := by decide +kernel
theorem dX0_take_137 : decode cX0_take 137 = .ok (.iload_n 1, 1) := by decide +kernel
theorem dX0_take_138 : decode cX0_take 138 = .ok (.iload_n 2, 1) := by decide +kernel
theorem dX0_take_139 : decode cX0_take 139 = .ok (.iadd, 1) := by decide +kernel
theorem dX0_take_140 : decode cX0_take 140 = .ok (.iload_n 3, 1) := by decide +kernel
theorem dX0_take_141 : decode cX0_take 141 = .ok (.isub, 1) := by decide +kernel
theorem dX0_take_142 : decode cX0_take 142 = .ok (.goto 5, 3) := by decide +kernel
theorem dX0_take_145 : decode cX0_take 145 = .ok (.iload 4, 2) := by decide +kernel
theorem dX0_take_147 : decode cX0_take 147 = .ok (.istore 9, 2) := by decide +kernel
theorem dX0_take_149 : decode cX0_take 149 = .ok (.aload_n 0, 1) := by decide +kernel
theorem dX0_take_150 : decode cX0_take 150 = .ok (.iload 6, 2) := by decide +kernel
theorem dX0_take_152 : decode cX0_take 152 = .ok (.iload 7, 2) := by decide +kernel
theorem dX0_take_154 : decode cX0_take 154 = .ok (.isub, 1) := by decide +kernel
theorem dX0_take_155 : decode cX0_take 155 = .ok (.putfield 18, 3) := by decide +kernel
theorem dX0_take_158 : decode cX0_take 158 = .ok (.aload_n 0, 1) := by decide +kernel
theorem dX0_take_159 : decode cX0_take 159 = .ok (.iload 8, 2) := by decide +kernel
theorem dX0_take_161 : decode cX0_take 161 = .ok (.iload 9, 2) := by decide +kernel
theorem dX0_take_163 : decode cX0_take 163 = .ok (.isub, 1) := by decide +kernel
theorem dX0_take_164 : decode cX0_take 164 = .ok (.putfield 22, 3) := by decide +kernel
theorem dX0_take_167 : decode cX0_take 167 = .ok (.aload_n 0, 1) := by decide +kernel
theorem dX0_take_168 : decode cX0_take 168 = .ok (.iload 6, 2) := by decide +kernel
theorem dX0_take_170 : decode cX0_take 170 = .ok (.iload 7, 2) := by decide +kernel
theorem dX0_take_172 : decode cX0_take 172 = .ok (.iadd, 1) := by decide +kernel
theorem dX0_take_173 : decode cX0_take 173 = .ok (.iload 8, 2) := by decide +kernel
theorem dX0_take_175 : decode cX0_take 175 = .ok (.isub, 1) := by decide +kernel
theorem dX0_take_176 : decode cX0_take 176 = .ok (.iload 9, 2) := by decide +kernel
theorem dX0_take_178 : decode cX0_take 178 = .ok (.isub, 1) := by decide +kernel
theorem dX0_take_179 : decode cX0_take 179 = .ok (.putfield 25, 3) := by decide +kernel
theorem dX0_take_182 : decode cX0_take 182 = .ok (.return_, 1) := by decide +kernel
theorem dX0_isNone_0 : decode cX0_isNone 0 = .ok (.iload_n 0, 1) := by decide +kernel
theorem dX0_isNone_1 : decode cX0_isNone 1 = .ok (.bipush (-128), 2) := by decide +kernel
theorem dX0_isNone_3 : decode cX0_isNone 3 = .ok (.if_icmp .le 10, 3) := by decide +kernel
theorem dX0_isNone_6 : decode cX0_isNone 6 = .ok (.iload_n 0, 1) := by decide +kernel
theorem dX0_isNone_7 : decode cX0_isNone 7 = .ok (.sipush 20000, 3) := by decide +kernel
theorem dX0_isNone_10 : decode cX0_isNone 10 = .ok (.if_icmp .le 7, 3) := by decide +kernel
theorem dX0_isNone_13 : decode cX0_isNone 13 = .ok (.iconst 1, 1) := by decide +kernel
theorem dX0_isNone_14 : decode cX0_isNone 14 = .ok (.goto 4, 3) := by decide +kernel
theorem dX0_isNone_17 : decode cX0_isNone 17 = .ok (.iconst 0, 1) := by decide +kernel
theorem dX0_isNone_18 : decode cX0_isNone 18 = .ok (.ireturn, 1) := by decide +kernel
theorem dX1_init_0 : decode cX1_init 0 = .ok (.aload_n 0, 1) := by decide +kernel
theorem dX1_init_1 : decode cX1_init 1 = .ok (.invokespecial 1, 3) := by decide +kernel
theorem dX1_init_4 : decode cX1_init 4 = .ok (.aload_n 0, 1) := by decide +kernel
theorem dX1_init_5 : decode cX1_init 5 = .ok (.lconst 0, 1) := by decide +kernel
theorem dX1_init_6 : decode cX1_init 6 = .ok (.putfield 7, 3) := by decide +kernel
theorem dX1_init_9 : decode cX1_init 9 = .ok (.aload_n 0, 1) := by decide +kernel
theorem dX1_init_10 : decode cX1_init 10 = .ok (.lconst 0, 1) := by decide +kernel
theorem dX1_init_11 : decode cX1_init 11 = .ok (.putfield 13, 3) := by decide +kernel
theorem dX1_init_14 : decode cX1_init 14 = .ok (.aload_n 0, 1) := by decide +kernel
theorem dX1_init_15 : decode cX1_init 15 = .ok (.lconst 0, 1) := by decide +kernel
theorem dX1_init_16 : decode cX1_init 16 = .ok (.putfield 16, 3) := by decide +kernel
theorem dX1_init_19 : decode cX1_init 19 = .ok (.aload_n 0, 1) := by decide +kernel
theorem dX1_init_20 : decode cX1_init 20 = .ok (.lconst 0, 1) := by decide +kernel
theorem dX1_init_21 : decode cX1_init 21 = .ok (.putfield 19, 3) := by decide +kernel
theorem dX1_init_24 : decode cX1_init 24 = .ok (.return_, 1) := by decide +kernel
theorem dX1_rest_0 : decode cX1_rest 0 = .ok (.aload_n 0, 1) := by decide +kernel
theorem dX1_rest_1 : decode cX1_rest 1 = .ok (.lconst 0, 1) := by decide +kernel
theorem dX1_rest_2 : decode cX1_rest 2 = .ok (.putfield 7, 3) := by decide +kernel
theorem dX1_rest_5 : decode cX1_rest 5 = .ok (.aload_n 0, 1) := by decide +kernel
theorem dX1_rest_6 : decode cX1_rest 6 = .ok (.lconst 0, 1) := by decide +kernel
theorem dX1_rest_7 : decode cX1_rest 7 = .ok (.putfield 13, 3) := by decide +kernel
theorem dX1_rest_10 : decode cX1_rest 10 = .ok (.aload_n 0, 1) := by decide +kernel
theorem dX1_rest_11 : decode cX1_rest 11 = .ok (.lconst 0, 1) := by decide +kernel
theorem dX1_rest_12 : decode cX1_rest 12 = .ok (.putfield 16, 3) := by decide +kernel
theorem dX1_rest_15 : decode cX1_rest 15 = .ok (.aload_n 0, 1) := by decide +kernel
theorem dX1_rest_16 : decode cX1_rest 16 = .ok (.lconst 0, 1) := by decide +kernel
theorem dX1_rest_17 : decode cX1_rest 17 = .ok (.putfield 19, 3) := by decide +kernel
theorem dX1_rest_20 : decode cX1_rest 20 = .ok (.return_, 1) := by decide +kernel
set_option maxRecDepth 20000 in
theorem ggX1_swing_X4_xTurned : GoodIn wsX1_swing wsX4_xTurned := goodIn_r _ [5, 6, 7, 4, 8, 9, 10, 11, 12] (by decide +kernel) (by decide +kernel)
set_option maxRecDepth 20000 in
theorem gX1_swing_X4_xTurned_n22 : GoodIn wsX1_swing (wsX4_xTurned) := ggX1_swing_X4_xTurned
set_option maxRecDepth 20000 in
theorem ggX1_swing_X4_yTurned : GoodIn wsX1_swing wsX4_yTurned := goodIn_r _ [14, 10, 11, 4, 12, 9, 6, 7, 8] (by decide +kernel) (by decide +kernel)
set_option maxRecDepth 20000 in
theorem gX1_swing_X4_yTurned_n28 : GoodIn wsX1_swing (wsX4_yTurned) := ggX1_swing_X4_yTurned
theorem dX1_swing_0 : decode cX1_swing 0 = .ok (.aload_n 0, 1) := by decide +kernel
theorem dX1_swing_1 : decode cX1_swing 1 = .ok (.iload_n 1, 1) := by decide +kernel
theorem dX1_swing_2 : decode cX1_swing 2 = .ok (.i2l, 1) := by decide +kernel
theorem dX1_swing_3 : decode cX1_swing 3 = .ok (.iload_n 2, 1) := by decide +kernel
theorem dX1_swing_4 : decode cX1_swing 4 = .ok (.i2l, 1) := by decide +kernel
theorem dX1_swing_5 : decode cX1_swing 5 = .ok (.iload_n 3, 1) := by decide +kernel
theorem dX1_swing_6 : decode cX1_swing 6 = .ok (.invokestatic 22, 3) := by decide +kernel
theorem dX1_swing_9 : decode cX1_swing 9 = .ok (.putfield 7, 3) := by decide +kernel
theorem dX1_swing_12 : decode cX1_swing 12 = .ok (.aload_n 0, 1) := by decide +kernel
theorem dX1_swing_13 : decode cX1_swing 13 = .ok (.iload_n 1, 1) := by decide +kernel
theorem dX1_swing_14 : decode cX1_swing 14 = .ok (.i2l, 1) := by decide +kernel
theorem dX1_swing_15 : decode cX1_swing 15 = .ok (.iload_n 2, 1) := by decide +kernel
theorem dX1_swing_16 : decode cX1_swing 16 = .ok (.i2l, 1) := by decide +kernel
theorem dX1_swing_17 : decode cX1_swing 17 = .ok (.iload_n 3, 1) := by decide +kernel
theorem dX1_swing_18 : decode cX1_swing 18 = .ok (.invokestatic 28, 3) := by decide +kernel
theorem dX1_swing_21 : decode cX1_swing 21 = .ok (.putfield 13, 3) := by decide +kernel
theorem dX1_swing_24 : decode cX1_swing 24 = .ok (.return_, 1) := by decide +kernel
theorem dX1_hold_0 : decode cX1_hold 0 = .ok (.aload_n 0, 1) := by decide +kernel
theorem dX1_hold_1 : decode cX1_hold 1 = .ok (.lload_n 1, 1) := by decide +kernel
theorem dX1_hold_2 : decode cX1_hold 2 = .ok (.putfield 16, 3) := by decide +kernel
theorem dX1_hold_5 : decode cX1_hold 5 = .ok (.aload_n 0, 1) := by decide +kernel
theorem dX1_hold_6 : decode cX1_hold 6 = .ok (.lload_n 3, 1) := by decide +kernel
theorem dX1_hold_7 : decode cX1_hold 7 = .ok (.putfield 19, 3) := by decide +kernel
theorem dX1_hold_10 : decode cX1_hold 10 = .ok (.return_, 1) := by decide +kernel
theorem dX1_add_0 : decode cX1_add 0 = .ok (.aload_n 0, 1) := by decide +kernel
theorem dX1_add_1 : decode cX1_add 1 = .ok (.dup, 1) := by decide +kernel
theorem dX1_add_2 : decode cX1_add 2 = .ok (.getfield 7, 3) := by decide +kernel
theorem dX1_add_5 : decode cX1_add 5 = .ok (.aload_n 1, 1) := by decide +kernel
theorem dX1_add_6 : decode cX1_add 6 = .ok (.getfield 7, 3) := by decide +kernel
theorem dX1_add_9 : decode cX1_add 9 = .ok (.ladd, 1) := by decide +kernel
theorem dX1_add_10 : decode cX1_add 10 = .ok (.putfield 7, 3) := by decide +kernel
theorem dX1_add_13 : decode cX1_add 13 = .ok (.aload_n 0, 1) := by decide +kernel
theorem dX1_add_14 : decode cX1_add 14 = .ok (.dup, 1) := by decide +kernel
theorem dX1_add_15 : decode cX1_add 15 = .ok (.getfield 13, 3) := by decide +kernel
theorem dX1_add_18 : decode cX1_add 18 = .ok (.aload_n 1, 1) := by decide +kernel
theorem dX1_add_19 : decode cX1_add 19 = .ok (.getfield 13, 3) := by decide +kernel
theorem dX1_add_22 : decode cX1_add 22 = .ok (.ladd, 1) := by decide +kernel
theorem dX1_add_23 : decode cX1_add 23 = .ok (.putfield 13, 3) := by decide +kernel
theorem dX1_add_26 : decode cX1_add 26 = .ok (.aload_n 0, 1) := by decide +kernel
theorem dX1_add_27 : decode cX1_add 27 = .ok (.dup, 1) := by decide +kernel
theorem dX1_add_28 : decode cX1_add 28 = .ok (.getfield 16, 3) := by decide +kernel
theorem dX1_add_31 : decode cX1_add 31 = .ok (.aload_n 1, 1) := by decide +kernel
theorem dX1_add_32 : decode cX1_add 32 = .ok (.getfield 16, 3) := by decide +kernel
theorem dX1_add_35 : decode cX1_add 35 = .ok (.ladd, 1) := by decide +kernel
theorem dX1_add_36 : decode cX1_add 36 = .ok (.putfield 16, 3) := by decide +kernel
theorem dX1_add_39 : decode cX1_add 39 = .ok (.aload_n 0, 1) := by decide +kernel
theorem dX1_add_40 : decode cX1_add 40 = .ok (.dup, 1) := by decide +kernel
theorem dX1_add_41 : decode cX1_add 41 = .ok (.getfield 19, 3) := by decide +kernel
theorem dX1_add_44 : decode cX1_add 44 = .ok (.aload_n 1, 1) := by decide +kernel
theorem dX1_add_45 : decode cX1_add 45 = .ok (.getfield 19, 3) := by decide +kernel
theorem dX1_add_48 : decode cX1_add 48 = .ok (.ladd, 1) := by decide +kernel
theorem dX1_add_49 : decode cX1_add 49 = .ok (.putfield 19, 3) := by decide +kernel
theorem dX1_add_52 : decode cX1_add 52 = .ok (.return_, 1) := by decide +kernel
theorem dX1_subtract_0 : decode cX1_subtract 0 = .ok (.aload_n 0, 1) := by decide +kernel
theorem dX1_subtract_1 : decode cX1_subtract 1 = .ok (.dup, 1) := by decide +kernel
theorem dX1_subtract_2 : decode cX1_subtract 2 = .ok (.getfield 7, 3) := by decide +kernel
theorem dX1_subtract_5 : decode cX1_subtract 5 = .ok (.aload_n 1, 1) := by decide +kernel
theorem dX1_subtract_6 : decode cX1_subtract 6 = .ok (.getfield 7, 3) := by decide +kernel
theorem dX1_subtract_9 : decode cX1_subtract 9 = .ok (.lsub, 1) := by decide +kernel
theorem dX1_subtract_10 : decode cX1_subtract 10 = .ok (.putfield 7, 3) := by decide +kernel
theorem dX1_subtract_13 : decode cX1_subtract 13 = .ok (.aload_n 0, 1) := by decide +kernel
theorem dX1_subtract_14 : decode cX1_subtract 14 = .ok (.dup, 1) := by decide +kernel
theorem dX1_subtract_15 : decode cX1_subtract 15 = .ok (.getfield 13, 3) := by decide +kernel
theorem dX1_subtract_18 : decode cX1_subtract 18 = .ok (.aload_n 1, 1) := by decide +kernel
theorem dX1_subtract_19 : decode cX1_subtract 19 = .ok (.getfield 13, 3) := by decide +kernel
theorem dX1_subtract_22 : decode cX1_subtract 22 = .ok (.lsub, 1) := by decide +kernel
theorem dX1_subtract_23 : decode cX1_subtract 23 = .ok (.putfield 13, 3) := by decide +kernel
theorem dX1_subtract_26 : decode cX1_subtract 26 = .ok (.aload_n 0, 1) := by decide +kernel
theorem dX1_subtract_27 : decode cX1_subtract 27 = .ok (.dup, 1) := by decide +kernel
theorem dX1_subtract_28 : decode cX1_subtract 28 = .ok (.getfield 16, 3) := by decide +kernel
theorem dX1_subtract_31 : decode cX1_subtract 31 = .ok (.aload_n 1, 1) := by decide +kernel
theorem dX1_subtract_32 : decode cX1_subtract 32 = .ok (.getfield 16, 3) := by decide +kernel
theorem dX1_subtract_35 : decode cX1_subtract 35 = .ok (.lsub, 1) := by decide +kernel
theorem dX1_subtract_36 : decode cX1_subtract 36 = .ok (.putfield 16, 3) := by decide +kernel
theorem dX1_subtract_39 : decode cX1_subtract 39 = .ok (.aload_n 0, 1) := by decide +kernel
theorem dX1_subtract_40 : decode cX1_subtract 40 = .ok (.dup, 1) := by decide +kernel
theorem dX1_subtract_41 : decode cX1_subtract 41 = .ok (.getfield 19, 3) := by decide +kernel
theorem dX1_subtract_44 : decode cX1_subtract 44 = .ok (.aload_n 1, 1) := by decide +kernel
theorem dX1_subtract_45 : decode cX1_subtract 45 = .ok (.getfield 19, 3) := by decide +kernel
theorem dX1_subtract_48 : decode cX1_subtract 48 = .ok (.lsub, 1) := by decide +kernel
theorem dX1_subtract_49 : decode cX1_subtract 49 = .ok (.putfield 19, 3) := by decide +kernel
theorem dX1_subtract_52 : decode cX1_subtract 52 = .ok (.return_, 1) := by decide +kernel
theorem dX1_multiply_0 : decode cX1_multiply 0 = .ok (.aload_n 0, 1) := by decide +kernel
theorem dX1_multiply_1 : decode cX1_multiply 1 = .ok (.dup, 1) := by decide +kernel
theorem dX1_multiply_2 : decode cX1_multiply 2 = .ok (.getfield 7, 3) := by decide +kernel
theorem dX1_multiply_5 : decode cX1_multiply 5 = .ok (.lload_n 1, 1) := by decide +kernel
theorem dX1_multiply_6 : decode cX1_multiply 6 = .ok (.lmul, 1) := by decide +kernel
theorem dX1_multiply_7 : decode cX1_multiply 7 = .ok (.putfield 7, 3) := by decide +kernel
theorem dX1_multiply_10 : decode cX1_multiply 10 = .ok (.aload_n 0, 1) := by decide +kernel
theorem dX1_multiply_11 : decode cX1_multiply 11 = .ok (.dup, 1) := by decide +kernel
theorem dX1_multiply_12 : decode cX1_multiply 12 = .ok (.getfield 13, 3) := by decide +kernel
theorem dX1_multiply_15 : decode cX1_multiply 15 = .ok (.lload_n 1, 1) := by decide +kernel
theorem dX1_multiply_16 : decode cX1_multiply 16 = .ok (.lmul, 1) := by decide +kernel
theorem dX1_multiply_17 : decode cX1_multiply 17 = .ok (.putfield 13, 3) := by decide +kernel
theorem dX1_multiply_20 : decode cX1_multiply 20 = .ok (.aload_n 0, 1) := by decide +kernel
theorem dX1_multiply_21 : decode cX1_multiply 21 = .ok (.dup, 1) := by decide +kernel
theorem dX1_multiply_22 : decode cX1_multiply 22 = .ok (.getfield 16, 3) := by decide +kernel
theorem dX1_multiply_25 : decode cX1_multiply 25 = .ok (.lload_n 1, 1) := by decide +kernel
theorem dX1_multiply_26 : decode cX1_multiply 26 = .ok (.lmul, 1) := by decide +kernel
theorem dX1_multiply_27 : decode cX1_multiply 27 = .ok (.putfield 16, 3) := by decide +kernel
theorem dX1_multiply_30 : decode cX1_multiply 30 = .ok (.aload_n 0, 1) := by decide +kernel
theorem dX1_multiply_31 : decode cX1_multiply 31 = .ok (.dup, 1) := by decide +kernel
theorem dX1_multiply_32 : decode cX1_multiply 32 = .ok (.getfield 19, 3) := by decide +kernel
theorem dX1_multiply_35 : decode cX1_multiply 35 = .ok (.lload_n 1, 1) := by decide +kernel
theorem dX1_multiply_36 : decode cX1_multiply 36 = .ok (.lmul, 1) := by decide +kernel
theorem dX1_multiply_37 : decode cX1_multiply 37 = .ok (.putfield 19, 3) := by decide +kernel
theorem dX1_multiply_40 : decode cX1_multiply 40 = .ok (.return_, 1) := by decide +kernel
set_option maxRecDepth 20000 in
theorem ggX1_east_X4_xTurned : GoodIn wsX1_east wsX4_xTurned := goodIn_r _ [6, 7, 8, 5, 9, 10, 11, 12, 13] (by decide +kernel) (by decide +kernel)
set_option maxRecDepth 20000 in
theorem gX1_east_X4_xTurned_n22 : GoodIn wsX1_east (wsX4_xTurned) := ggX1_east_X4_xTurned
theorem dX1_east_0 : decode cX1_east 0 = .ok (.aload_n 0, 1) := by decide +kernel
theorem dX1_east_1 : decode cX1_east 1 = .ok (.getfield 7, 3) := by decide +kernel
theorem dX1_east_4 : decode cX1_east 4 = .ok (.aload_n 0, 1) := by decide +kernel
theorem dX1_east_5 : decode cX1_east 5 = .ok (.getfield 13, 3) := by decide +kernel
theorem dX1_east_8 : decode cX1_east 8 = .ok (.iload_n 1, 1) := by decide +kernel
theorem dX1_east_9 : decode cX1_east 9 = .ok (.invokestatic 22, 3) := by decide +kernel
theorem dX1_east_12 : decode cX1_east 12 = .ok (.aload_n 0, 1) := by decide +kernel
theorem dX1_east_13 : decode cX1_east 13 = .ok (.getfield 16, 3) := by decide +kernel
theorem dX1_east_16 : decode cX1_east 16 = .ok (.ladd, 1) := by decide +kernel
theorem dX1_east_17 : decode cX1_east 17 = .ok (.lreturn, 1) := by decide +kernel
set_option maxRecDepth 20000 in
theorem ggX1_north_X4_yTurned : GoodIn wsX1_north wsX4_yTurned := goodIn_r _ [6, 7, 8, 5, 9, 10, 11, 12, 13] (by decide +kernel) (by decide +kernel)
set_option maxRecDepth 20000 in
theorem gX1_north_X4_yTurned_n28 : GoodIn wsX1_north (wsX4_yTurned) := ggX1_north_X4_yTurned
theorem dX1_north_0 : decode cX1_north 0 = .ok (.aload_n 0, 1) := by decide +kernel
theorem dX1_north_1 : decode cX1_north 1 = .ok (.getfield 7, 3) := by decide +kernel
theorem dX1_north_4 : decode cX1_north 4 = .ok (.aload_n 0, 1) := by decide +kernel
theorem dX1_north_5 : decode cX1_north 5 = .ok (.getfield 13, 3) := by decide +kernel
theorem dX1_north_8 : decode cX1_north 8 = .ok (.iload_n 1, 1) := by decide +kernel
theorem dX1_north_9 : decode cX1_north 9 = .ok (.invokestatic 28, 3) := by decide +kernel
theorem dX1_north_12 : decode cX1_north 12 = .ok (.aload_n 0, 1) := by decide +kernel
theorem dX1_north_13 : decode cX1_north 13 = .ok (.getfield 19, 3) := by decide +kernel
theorem dX1_north_16 : decode cX1_north 16 = .ok (.ladd, 1) := by decide +kernel
theorem dX1_north_17 : decode cX1_north 17 = .ok (.lreturn, 1) := by decide +kernel
set_option maxRecDepth 20000 in
theorem ggX1_part_X1_east : GoodIn wsX1_part wsX1_east := goodIn_r _ [5, 6, 7, 8, 9, 10, 11, 12, 13, 14, 15, 16, 17, 18, 26, 27, 28, 29] (by decide +kernel) (by decide +kernel)
set_option maxRecDepth 20000 in
theorem gX1_part_X1_east : GoodIn wsX1_part (wsV RX1 31 RX1 yX1_east wsX1_east) := goodIn_app (goodIn_of _ (by decide +kernel)) ggX1_part_X1_east
set_option maxRecDepth 20000 in
theorem ggX1_part_X1_north : GoodIn wsX1_part wsX1_north := goodIn_r _ [22, 6, 7, 23, 24, 10, 25, 16, 17, 18, 15, 12, 13, 14, 26, 27, 28, 29] (by decide +kernel) (by decide +kernel)
set_option maxRecDepth 20000 in
theorem gX1_part_X1_north : GoodIn wsX1_part (wsV RX1 35 RX1 yX1_north wsX1_north) := goodIn_app (goodIn_of _ (by decide +kernel)) ggX1_part_X1_north
theorem dX1_part_0 : decode cX1_part 0 = .ok (.iload_n 2, 1) := by decide +kernel
theorem dX1_part_1 : decode cX1_part 1 = .ok (.ifCond .ne 11, 3) := by decide +kernel
theorem dX1_part_4 : decode cX1_part 4 = .ok (.aload_n 0, 1) := by decide +kernel
theorem dX1_part_5 : decode cX1_part 5 = .ok (.iload_n 1, 1) := by decide +kernel
theorem dX1_part_6 : decode cX1_part 6 = .ok (.invokevirtual 31, 3) := by decide +kernel
theorem dX1_part_9 : decode cX1_part 9 = .ok (.goto 8, 3) := by decide +kernel
theorem dX1_part_12 : decode cX1_part 12 = .ok (.aload_n 0, 1) := by decide +kernel
theorem dX1_part_13 : decode cX1_part 13 = .ok (.iload_n 1, 1) := by decide +kernel
theorem dX1_part_14 : decode cX1_part 14 = .ok (.invokevirtual 35, 3) := by decide +kernel
theorem dX1_part_17 : decode cX1_part 17 = .ok (.lreturn, 1) := by decide +kernel
theorem dX2_init_0 : decode cX2_init 0 = .ok (.aload_n 0, 1) := by decide +kernel
theorem dX2_init_1 : decode cX2_init 1 = .ok (.invokespecial 3, 3) := by decide +kernel
theorem dX2_init_4 : decode cX2_init 4 = .ok (.aload_n 0, 1) := by decide +kernel
theorem dX2_init_5 : decode cX2_init 5 = .ok (.sipush 200, 3) := by decide +kernel
theorem dX2_init_8 : decode cX2_init 8 = .ok (.newarray .int, 2) := by decide +kernel
theorem dX2_init_10 : decode cX2_init 10 = .ok (.putfield 9, 3) := by decide +kernel
theorem dX2_init_13 : decode cX2_init 13 = .ok (.aload_n 0, 1) := by decide +kernel
theorem dX2_init_14 : decode cX2_init 14 = .ok (.iconst (-1), 1) := by decide +kernel
theorem dX2_init_15 : decode cX2_init 15 = .ok (.putfield 15, 3) := by decide +kernel
theorem dX2_init_18 : decode cX2_init 18 = .ok (.aload_n 0, 1) := by decide +kernel
theorem dX2_init_19 : decode cX2_init 19 = .ok (.iconst 0, 1) := by decide +kernel
theorem dX2_init_20 : decode cX2_init 20 = .ok (.putfield 19, 3) := by decide +kernel
theorem dX2_init_23 : decode cX2_init 23 = .ok (.return_, 1) := by decide +kernel
theorem dX2_isLost_0 : decode cX2_isLost 0 = .ok (.aload_n 0, 1) := by decide +kernel
theorem dX2_isLost_1 : decode cX2_isLost 1 = .ok (.getfield 15, 3) := by decide +kernel
theorem dX2_isLost_4 : decode cX2_isLost 4 = .ok (.iconst (-1), 1) := by decide +kernel
theorem dX2_isLost_5 : decode cX2_isLost 5 = .ok (.if_icmp .ne 7, 3) := by decide +kernel
theorem dX2_isLost_8 : decode cX2_isLost 8 = .ok (.iconst 1, 1) := by decide +kernel
theorem dX2_isLost_9 : decode cX2_isLost 9 = .ok (.goto 4, 3) := by decide +kernel
theorem dX2_isLost_12 : decode cX2_isLost 12 = .ok (.iconst 0, 1) := by decide +kernel
theorem dX2_isLost_13 : decode cX2_isLost 13 = .ok (.ireturn, 1) := by decide +kernel
theorem dX2_renew_0 : decode cX2_renew 0 = .ok (.aload_n 0, 1) := by decide +kernel
theorem dX2_renew_1 : decode cX2_renew 1 = .ok (.iload_n 1, 1) := by decide +kernel
theorem dX2_renew_2 : decode cX2_renew 2 = .ok (.putfield 15, 3) := by decide +kernel
theorem dX2_renew_5 : decode cX2_renew 5 = .ok (.aload_n 0, 1) := by decide +kernel
theorem dX2_renew_6 : decode cX2_renew 6 = .ok (.iload_n 2, 1) := by decide +kernel
theorem dX2_renew_7 : decode cX2_renew 7 = .ok (.aload_n 0, 1) := by decide +kernel
theorem dX2_renew_8 : decode cX2_renew 8 = .ok (.getfield 9, 3) := by decide +kernel
theorem dX2_renew_11 : decode cX2_renew 11 = .ok (.arraylength, 1) := by decide +kernel
theorem dX2_renew_12 : decode cX2_renew 12 = .ok (.invokestatic 22, 3) := by decide +kernel
theorem dX2_renew_15 : decode cX2_renew 15 = .ok (.putfield 19, 3) := by decide +kernel
theorem dX2_renew_18 : decode cX2_renew 18 = .ok (.iconst 0, 1) := by decide +kernel
theorem dX2_renew_19 : decode cX2_renew 19 = .ok (.istore_n 3, 1) := by decide +kernel
theorem dX2_renew_20 : decode cX2_renew 20 = .ok (.iload_n 3, 1) := by decide +kernel
theorem dX2_renew_21 : decode cX2_renew 21 = .ok (.aload_n 0, 1) := by decide +kernel
theorem dX2_renew_22 : decode cX2_renew 22 = .ok (.getfield 19, 3) := by decide +kernel
theorem dX2_renew_25 : decode cX2_renew 25 = .ok (.if_icmp .ge 16, 3) := by decide +kernel
theorem dX2_renew_28 : decode cX2_renew 28 = .ok (.aload_n 0, 1) := by decide +kernel
theorem dX2_renew_29 : decode cX2_renew 29 = .ok (.getfield 9, 3) := by decide +kernel
theorem dX2_renew_32 : decode cX2_renew 32 = .ok (.iload_n 3, 1) := by decide +kernel
theorem dX2_renew_33 : decode cX2_renew 33 = .ok (.iconst 0, 1) := by decide +kernel
theorem dX2_renew_34 : decode cX2_renew 34 = .ok (.iastore, 1) := by decide +kernel
theorem dX2_renew_35 : decode cX2_renew 35 = .ok (.iinc 3 1, 3) := by decide +kernel
theorem dX2_renew_38 : decode cX2_renew 38 = .ok (.goto (-18), 3) := by decide +kernel
theorem dX2_renew_41 : decode cX2_renew 41 = .ok (.return_, 1) := by decide +kernel
theorem dX2_drop_0 : decode cX2_drop 0 = .ok (.aload_n 0, 1) := by decide +kernel
theorem dX2_drop_1 : decode cX2_drop 1 = .ok (.getfield 19, 3) := by decide +kernel
theorem dX2_drop_4 : decode cX2_drop 4 = .ok (.istore_n 1, 1) := by decide +kernel
theorem dX2_drop_5 : decode cX2_drop 5 = .ok (.aload_n 0, 1) := by decide +kernel
theorem dX2_drop_6 : decode cX2_drop 6 = .ok (.iconst (-1), 1) := by decide +kernel
theorem dX2_drop_7 : decode cX2_drop 7 = .ok (.putfield 15, 3) := by decide +kernel
theorem dX2_drop_10 : decode cX2_drop 10 = .ok (.aload_n 0, 1) := by decide +kernel
theorem dX2_drop_11 : decode cX2_drop 11 = .ok (.iconst 0, 1) := by decide +kernel
theorem dX2_drop_12 : decode cX2_drop 12 = .ok (.putfield 19, 3) := by decide +kernel
theorem dX2_drop_15 : decode cX2_drop 15 = .ok (.iload_n 1, 1) := by decide +kernel
theorem dX2_drop_16 : decode cX2_drop 16 = .ok (.ireturn, 1) := by decide +kernel
theorem dX2_holds_0 : decode cX2_holds 0 = .ok (.iload_n 1, 1) := by decide +kernel
theorem dX2_holds_1 : decode cX2_holds 1 = .ok (.ifCond .lt 15, 3) := by decide +kernel
theorem dX2_holds_4 : decode cX2_holds 4 = .ok (.iload_n 1, 1) := by decide +kernel
theorem dX2_holds_5 : decode cX2_holds 5 = .ok (.aload_n 0, 1) := by decide +kernel
theorem dX2_holds_6 : decode cX2_holds 6 = .ok (.getfield 19, 3) := by decide +kernel
theorem dX2_holds_9 : decode cX2_holds 9 = .ok (.if_icmp .ge 7, 3) := by decide +kernel
theorem dX2_holds_12 : decode cX2_holds 12 = .ok (.iconst 1, 1) := by decide +kernel
theorem dX2_holds_13 : decode cX2_holds 13 = .ok (.goto 4, 3) := by decide +kernel
theorem dX2_holds_16 : decode cX2_holds 16 = .ok (.iconst 0, 1) := by decide +kernel
theorem dX2_holds_17 : decode cX2_holds 17 = .ok (.ireturn, 1) := by decide +kernel
theorem dX2_holdsRun_0 : decode cX2_holdsRun 0 = .ok (.iload_n 1, 1) := by decide +kernel
theorem dX2_holdsRun_1 : decode cX2_holdsRun 1 = .ok (.ifCond .lt 21, 3) := by decide +kernel
theorem dX2_holdsRun_4 : decode cX2_holdsRun 4 = .ok (.iload_n 2, 1) := by decide +kernel
theorem dX2_holdsRun_5 : decode cX2_holdsRun 5 = .ok (.ifCond .lt 17, 3) := by decide +kernel
theorem dX2_holdsRun_8 : decode cX2_holdsRun 8 = .ok (.iload_n 1, 1) := by decide +kernel
theorem dX2_holdsRun_9 : decode cX2_holdsRun 9 = .ok (.aload_n 0, 1) := by decide +kernel
theorem dX2_holdsRun_10 : decode cX2_holdsRun 10 = .ok (.getfield 19, 3) := by decide +kernel
theorem dX2_holdsRun_13 : decode cX2_holdsRun 13 = .ok (.iload_n 2, 1) := by decide +kernel
theorem dX2_holdsRun_14 : decode cX2_holdsRun 14 = .ok (.isub, 1) := by decide +kernel
theorem dX2_holdsRun_15 : decode cX2_holdsRun 15 = .ok (.if_icmp .gt 7, 3) := by decide +kernel
theorem dX2_holdsRun_18 : decode cX2_holdsRun 18 = .ok (.iconst 1, 1) := by decide +kernel
theorem dX2_holdsRun_19 : decode cX2_holdsRun 19 = .ok (.goto 4, 3) := by decide +kernel
theorem dX2_holdsRun_22 : decode cX2_holdsRun 22 = .ok (.iconst 0, 1) := by decide +kernel
theorem dX2_holdsRun_23 : decode cX2_holdsRun 23 = .ok (.ireturn, 1) := by decide +kernel
set_option maxRecDepth 20000 in
theorem ggX2_findingAt_X2_isLost : GoodIn wsX2_findingAt wsX2_isLost := goodIn_r _ [6, 1, 12, 13, 14] (by decide +kernel) (by decide +kernel)
set_option maxRecDepth 20000 in
theorem gX2_findingAt_X2_isLost : GoodIn wsX2_findingAt (wsV RX2 28 RX2 yX2_isLost wsX2_isLost) := goodIn_app (goodIn_of _ (by decide +kernel)) ggX2_findingAt_X2_isLost
set_option maxRecDepth 20000 in
theorem ggX2_findingAt_X2_holds : GoodIn wsX2_findingAt wsX2_holds := goodIn_r _ [10, 11, 12, 13, 14] (by decide +kernel) (by decide +kernel)
set_option maxRecDepth 20000 in
theorem gX2_findingAt_X2_holds : GoodIn wsX2_findingAt (wsV RX2 32 RX2 yX2_holds wsX2_holds) := goodIn_app (goodIn_of _ (by decide +kernel)) ggX2_findingAt_X2_holds
theorem dX2_findingAt_0 : decode cX2_findingAt 0 = .ok (.aload_n 0, 1) := by decide +kernel
theorem dX2_findingAt_1 : decode cX2_findingAt 1 = .ok (.invokevirtual 28, 3) := by decide +kernel
theorem dX2_findingAt_4 : decode cX2_findingAt 4 = .ok (.ifCond .eq 5, 3) := by decide +kernel
theorem dX2_findingAt_7 : decode cX2_findingAt 7 = .ok (.iconst 1, 1) := by decide +kernel
theorem dX2_findingAt_8 : decode cX2_findingAt 8 = .ok (.ireturn, 1) := by decide +kernel
theorem dX2_findingAt_9 : decode cX2_findingAt 9 = .ok (.aload_n 0, 1) := by decide +kernel
theorem dX2_findingAt_10 : decode cX2_findingAt 10 = .ok (.getfield 15, 3) := by decide +kernel
theorem dX2_findingAt_13 : decode cX2_findingAt 13 = .ok (.iload_n 1, 1) := by decide +kernel
theorem dX2_findingAt_14 : decode cX2_findingAt 14 = .ok (.if_icmp .eq 5, 3) := by decide +kernel
theorem dX2_findingAt_17 : decode cX2_findingAt 17 = .ok (.iconst 3, 1) := by decide +kernel
theorem dX2_findingAt_18 : decode cX2_findingAt 18 = .ok (.ireturn, 1) := by decide +kernel
theorem dX2_findingAt_19 : decode cX2_findingAt 19 = .ok (.aload_n 0, 1) := by decide +kernel
theorem dX2_findingAt_20 : decode cX2_findingAt 20 = .ok (.iload_n 2, 1) := by decide +kernel
theorem dX2_findingAt_21 : decode cX2_findingAt 21 = .ok (.invokevirtual 32, 3) := by decide +kernel
theorem dX2_findingAt_24 : decode cX2_findingAt 24 = .ok (.ifCond .eq 7, 3) := by decide +kernel
theorem dX2_findingAt_27 : decode cX2_findingAt 27 = .ok (.iconst 0, 1) := by decide +kernel
theorem dX2_findingAt_28 : decode cX2_findingAt 28 = .ok (.goto 4, 3) := by decide +kernel
theorem dX2_findingAt_31 : decode cX2_findingAt 31 = .ok (.iconst 2, 1) := by decide +kernel
theorem dX2_findingAt_32 : decode cX2_findingAt 32 = .ok (.ireturn, 1) := by decide +kernel
set_option maxRecDepth 20000 in
theorem ggX2_store_X2_holds : GoodIn wsX2_store wsX2_holds := goodIn_r _ [6, 7, 13, 14, 15] (by decide +kernel) (by decide +kernel)
set_option maxRecDepth 20000 in
theorem gX2_store_X2_holds : GoodIn wsX2_store (wsV RX2 32 RX2 yX2_holds wsX2_holds) := goodIn_app (goodIn_of _ (by decide +kernel)) ggX2_store_X2_holds
set_option maxRecDepth 20000 in
theorem ggX2_store_X2_narrowed : GoodIn wsX2_store wsX2_narrowed := goodIn_r _ [11, 12, 13, 14, 15] (by decide +kernel) (by decide +kernel)
set_option maxRecDepth 20000 in
theorem gX2_store_X2_narrowed : GoodIn wsX2_store (wsV RX2 36 RX2 yX2_narrowed wsX2_narrowed) := goodIn_app (goodIn_of _ (by decide +kernel)) ggX2_store_X2_narrowed
theorem dX2_store_0 : decode cX2_store 0 = .ok (.aload_n 0, 1) := by decide +kernel
theorem dX2_store_1 : decode cX2_store 1 = .ok (.iload_n 1, 1) := by decide +kernel
theorem dX2_store_2 : decode cX2_store 2 = .ok (.invokevirtual 32, 3) := by decide +kernel
theorem dX2_store_5 : decode cX2_store 5 = .ok (.ifCond .eq 14, 3) := by decide +kernel
theorem dX2_store_8 : decode cX2_store 8 = .ok (.aload_n 0, 1) := by decide +kernel
theorem dX2_store_9 : decode cX2_store 9 = .ok (.getfield 9, 3) := by decide +kernel
theorem dX2_store_12 : decode cX2_store 12 = .ok (.iload_n 1, 1) := by decide +kernel
theorem dX2_store_13 : decode cX2_store 13 = .ok (.aload_n 0, 1) := by decide +kernel
theorem dX2_store_14 : decode cX2_store 14 = .ok (.iload_n 2, 1) := by decide +kernel
theorem dX2_store_15 : decode cX2_store 15 = .ok (.invokevirtual 36, 3) := by decide +kernel
theorem dX2_store_18 : decode cX2_store 18 = .ok (.iastore, 1) := by decide +kernel
theorem dX2_store_19 : decode cX2_store 19 = .ok (.return_, 1) := by decide +kernel
set_option maxRecDepth 20000 in
theorem ggX2_item_X2_holds : GoodIn wsX2_item wsX2_holds := goodIn_r _ [6, 7, 8, 9, 10] (by decide +kernel) (by decide +kernel)
set_option maxRecDepth 20000 in
theorem gX2_item_X2_holds : GoodIn wsX2_item (wsV RX2 32 RX2 yX2_holds wsX2_holds) := goodIn_app (goodIn_of _ (by decide +kernel)) ggX2_item_X2_holds
theorem dX2_item_0 : decode cX2_item 0 = .ok (.aload_n 0, 1) := by decide +kernel
theorem dX2_item_1 : decode cX2_item 1 = .ok (.iload_n 1, 1) := by decide +kernel
theorem dX2_item_2 : decode cX2_item 2 = .ok (.invokevirtual 32, 3) := by decide +kernel
theorem dX2_item_5 : decode cX2_item 5 = .ok (.ifCond .eq 12, 3) := by decide +kernel
theorem dX2_item_8 : decode cX2_item 8 = .ok (.aload_n 0, 1) := by decide +kernel
theorem dX2_item_9 : decode cX2_item 9 = .ok (.getfield 9, 3) := by decide +kernel
theorem dX2_item_12 : decode cX2_item 12 = .ok (.iload_n 1, 1) := by decide +kernel
theorem dX2_item_13 : decode cX2_item 13 = .ok (.iaload, 1) := by decide +kernel
theorem dX2_item_14 : decode cX2_item 14 = .ok (.goto 4, 3) := by decide +kernel
theorem dX2_item_17 : decode cX2_item 17 = .ok (.iconst 0, 1) := by decide +kernel
theorem dX2_item_18 : decode cX2_item 18 = .ok (.ireturn, 1) := by decide +kernel
theorem dX2_reading_0 : decode cX2_reading 0 = .ok (.iload_n 1, 1) := by decide +kernel
theorem dX2_reading_1 : decode cX2_reading 1 = .ok (.ifCond .lt 20, 3) := by decide +kernel
theorem dX2_reading_4 : decode cX2_reading 4 = .ok (.iload_n 1, 1) := by decide +kernel
theorem dX2_reading_5 : decode cX2_reading 5 = .ok (.aload_n 0, 1) := by decide +kernel
theorem dX2_reading_6 : decode cX2_reading 6 = .ok (.getfield 19, 3) := by decide +kernel
theorem dX2_reading_9 : decode cX2_reading 9 = .ok (.if_icmp .ge 12, 3) := by decide +kernel
theorem dX2_reading_12 : decode cX2_reading 12 = .ok (.aload_n 0, 1) := by decide +kernel
theorem dX2_reading_13 : decode cX2_reading 13 = .ok (.getfield 9, 3) := by decide +kernel
theorem dX2_reading_16 : decode cX2_reading 16 = .ok (.iload_n 1, 1) := by decide +kernel
theorem dX2_reading_17 : decode cX2_reading 17 = .ok (.iaload, 1) := by decide +kernel
theorem dX2_reading_18 : decode cX2_reading 18 = .ok (.goto 5, 3) := by decide +kernel
theorem dX2_reading_21 : decode cX2_reading 21 = .ok (.bipush (-128), 2) := by decide +kernel
theorem dX2_reading_23 : decode cX2_reading 23 = .ok (.ireturn, 1) := by decide +kernel
theorem dX2_narrowed_0 : decode cX2_narrowed 0 = .ok (.aload_n 0, 1) := by decide +kernel
theorem dX2_narrowed_1 : decode cX2_narrowed 1 = .ok (.getfield 15, 3) := by decide +kernel
theorem dX2_narrowed_4 : decode cX2_narrowed 4 = .ok (.ifCond .ne 6, 3) := by decide +kernel
theorem dX2_narrowed_7 : decode cX2_narrowed 7 = .ok (.iload_n 1, 1) := by decide +kernel
theorem dX2_narrowed_8 : decode cX2_narrowed 8 = .ok (.i2b, 1) := by decide +kernel
theorem dX2_narrowed_9 : decode cX2_narrowed 9 = .ok (.ireturn, 1) := by decide +kernel
theorem dX2_narrowed_10 : decode cX2_narrowed 10 = .ok (.aload_n 0, 1) := by decide +kernel
theorem dX2_narrowed_11 : decode cX2_narrowed 11 = .ok (.getfield 15, 3) := by decide +kernel
theorem dX2_narrowed_14 : decode cX2_narrowed 14 = .ok (.iconst 1, 1) := by decide +kernel
theorem dX2_narrowed_15 : decode cX2_narrowed 15 = .ok (.if_icmp .ne 8, 3) := by decide +kernel
theorem dX2_narrowed_18 : decode cX2_narrowed 18 = .ok (.iload_n 1, 1) := by decide +kernel
theorem dX2_narrowed_19 : decode cX2_narrowed 19 = .ok (.i2s, 1) := by decide +kernel
theorem dX2_narrowed_20 : decode cX2_narrowed 20 = .ok (.goto 4, 3) := by decide +kernel
theorem dX2_narrowed_23 : decode cX2_narrowed 23 = .ok (.iload_n 1, 1) := by decide +kernel
theorem dX2_narrowed_24 : decode cX2_narrowed 24 = .ok (.ireturn, 1) := by decide +kernel
theorem dX3_init_0 : decode cX3_init 0 = .ok (.aload_n 0, 1) := by decide +kernel
theorem dX3_init_1 : decode cX3_init 1 = .ok (.invokespecial 3, 3) := by decide +kernel
theorem dX3_init_4 : decode cX3_init 4 = .ok (.aload_n 0, 1) := by decide +kernel
theorem dX3_init_5 : decode cX3_init 5 = .ok (.bipush 40, 2) := by decide +kernel
theorem dX3_init_7 : decode cX3_init 7 = .ok (.newarray .int, 2) := by decide +kernel
theorem dX3_init_9 : decode cX3_init 9 = .ok (.putfield 9, 3) := by decide +kernel
theorem dX3_init_12 : decode cX3_init 12 = .ok (.aload_n 0, 1) := by decide +kernel
theorem dX3_init_13 : decode cX3_init 13 = .ok (.bipush 40, 2) := by decide +kernel
theorem dX3_init_15 : decode cX3_init 15 = .ok (.newarray .int, 2) := by decide +kernel
theorem dX3_init_17 : decode cX3_init 17 = .ok (.putfield 15, 3) := by decide +kernel
theorem dX3_init_20 : decode cX3_init 20 = .ok (.aload_n 0, 1) := by decide +kernel
theorem dX3_init_21 : decode cX3_init 21 = .ok (.bipush 40, 2) := by decide +kernel
theorem dX3_init_23 : decode cX3_init 23 = .ok (.newarray .int, 2) := by decide +kernel
theorem dX3_init_25 : decode cX3_init 25 = .ok (.putfield 18, 3) := by decide +kernel
theorem dX3_init_28 : decode cX3_init 28 = .ok (.aload_n 0, 1) := by decide +kernel
theorem dX3_init_29 : decode cX3_init 29 = .ok (.bipush 40, 2) := by decide +kernel
theorem dX3_init_31 : decode cX3_init 31 = .ok (.newarray .int, 2) := by decide +kernel
theorem dX3_init_33 : decode cX3_init 33 = .ok (.putfield 21, 3) := by decide +kernel
theorem dX3_init_36 : decode cX3_init 36 = .ok (.aload_n 0, 1) := by decide +kernel
theorem dX3_init_37 : decode cX3_init 37 = .ok (.iconst 0, 1) := by decide +kernel
theorem dX3_init_38 : decode cX3_init 38 = .ok (.putfield 24, 3) := by decide +kernel
theorem dX3_init_41 : decode cX3_init 41 = .ok (.return_, 1) := by decide +kernel
theorem dX3_isPing_0 : decode cX3_isPing 0 = .ok (.iload_n 1, 1) := by decide +kernel
theorem dX3_isPing_1 : decode cX3_isPing 1 = .ok (.ifCond .lt 15, 3) := by decide +kernel
theorem dX3_isPing_4 : decode cX3_isPing 4 = .ok (.iload_n 1, 1) := by decide +kernel
theorem dX3_isPing_5 : decode cX3_isPing 5 = .ok (.aload_n 0, 1) := by decide +kernel
theorem dX3_isPing_6 : decode cX3_isPing 6 = .ok (.getfield 24, 3) := by decide +kernel
theorem dX3_isPing_9 : decode cX3_isPing 9 = .ok (.if_icmp .ge 7, 3) := by decide +kernel
theorem dX3_isPing_12 : decode cX3_isPing 12 = .ok (.iconst 1, 1) := by decide +kernel
theorem dX3_isPing_13 : decode cX3_isPing 13 = .ok (.goto 4, 3) := by decide +kernel
theorem dX3_isPing_16 : decode cX3_isPing 16 = .ok (.iconst 0, 1) := by decide +kernel
theorem dX3_isPing_17 : decode cX3_isPing 17 = .ok (.ireturn, 1) := by decide +kernel
set_option maxRecDepth 20000 in
theorem ggX3_isSpan_X3_isPing : GoodIn wsX3_isSpan wsX3_isPing := goodIn_r _ [5, 6, 7, 8, 9, 10, 11] (by decide +kernel) (by decide +kernel)
set_option maxRecDepth 20000 in
theorem gX3_isSpan_X3_isPing : GoodIn wsX3_isSpan (wsV RX3 28 RX3 yX3_isPing wsX3_isPing) := goodIn_app (goodIn_of _ (by decide +kernel)) ggX3_isSpan_X3_isPing
theorem dX3_isSpan_0 : decode cX3_isSpan 0 = .ok (.aload_n 0, 1) := by decide +kernel
theorem dX3_isSpan_1 : decode cX3_isSpan 1 = .ok (.iload_n 1, 1) := by decide +kernel
theorem dX3_isSpan_2 : decode cX3_isSpan 2 = .ok (.invokevirtual 28, 3) := by decide +kernel
theorem dX3_isSpan_5 : decode cX3_isSpan 5 = .ok (.ifCond .eq 20, 3) := by decide +kernel
theorem dX3_isSpan_8 : decode cX3_isSpan 8 = .ok (.aload_n 0, 1) := by decide +kernel
theorem dX3_isSpan_9 : decode cX3_isSpan 9 = .ok (.iload_n 2, 1) := by decide +kernel
theorem dX3_isSpan_10 : decode cX3_isSpan 10 = .ok (.invokevirtual 28, 3) := by decide +kernel
theorem dX3_isSpan_13 : decode cX3_isSpan 13 = .ok (.ifCond .eq 12, 3) := by decide +kernel
theorem dX3_isSpan_16 : decode cX3_isSpan 16 = .ok (.iload_n 1, 1) := by decide +kernel
theorem dX3_isSpan_17 : decode cX3_isSpan 17 = .ok (.iload_n 2, 1) := by decide +kernel
theorem dX3_isSpan_18 : decode cX3_isSpan 18 = .ok (.if_icmp .gt 7, 3) := by decide +kernel
theorem dX3_isSpan_21 : decode cX3_isSpan 21 = .ok (.iconst 1, 1) := by decide +kernel
theorem dX3_isSpan_22 : decode cX3_isSpan 22 = .ok (.goto 4, 3) := by decide +kernel
theorem dX3_isSpan_25 : decode cX3_isSpan 25 = .ok (.iconst 0, 1) := by decide +kernel
theorem dX3_isSpan_26 : decode cX3_isSpan 26 = .ok (.ireturn, 1) := by decide +kernel
theorem dX3_append_0 : decode cX3_append 0 = .ok (.aload_n 0, 1) := by decide +kernel
theorem dX3_append_1 : decode cX3_append 1 = .ok (.getfield 24, 3) := by decide +kernel
theorem dX3_append_4 : decode cX3_append 4 = .ok (.istore 5, 2) := by decide +kernel
theorem dX3_append_6 : decode cX3_append 6 = .ok (.iload 5, 2) := by decide +kernel
theorem dX3_append_8 : decode cX3_append 8 = .ok (.ifCond .lt 10, 3) := by decide +kernel
theorem dX3_append_11 : decode cX3_append 11 = .ok (.iload 5, 2) := by decide +kernel
theorem dX3_append_13 : decode cX3_append 13 = .ok (.bipush 40, 2) := by decide +kernel
theorem dX3_append_15 : decode cX3_append 15 = .ok (.if_icmp .lt 6, 3) := by decide +kernel
theorem dX3_append_18 : decode cX3_append 18 = .ok (.bipush (-4), 2) := by decide +kernel
theorem dX3_append_20 : decode cX3_append 20 = .ok (.ireturn, 1) := by decide +kernel
theorem dX3_append_21 : decode cX3_append 21 = .ok (.aload_n 0, 1) := by decide +kernel
theorem dX3_append_22 : decode cX3_append 22 = .ok (.getfield 9, 3) := by decide +kernel
theorem dX3_append_25 : decode cX3_append 25 = .ok (.iload 5, 2) := by decide +kernel
theorem dX3_append_27 : decode cX3_append 27 = .ok (.iload_n 1, 1) := by decide +kernel
theorem dX3_append_28 : decode cX3_append 28 = .ok (.iastore, 1) := by decide +kernel
theorem dX3_append_29 : decode cX3_append 29 = .ok (.aload_n 0, 1) := by decide +kernel
theorem dX3_append_30 : decode cX3_append 30 = .ok (.getfield 15, 3) := by decide +kernel
theorem dX3_append_33 : decode cX3_append 33 = .ok (.iload 5, 2) := by decide +kernel
theorem dX3_append_35 : decode cX3_append 35 = .ok (.iload_n 2, 1) := by decide +kernel
theorem dX3_append_36 : decode cX3_append 36 = .ok (.iastore, 1) := by decide +kernel
theorem dX3_append_37 : decode cX3_append 37 = .ok (.aload_n 0, 1) := by decide +kernel
theorem dX3_append_38 : decode cX3_append 38 = .ok (.getfield 18, 3) := by decide +kernel
theorem dX3_append_41 : decode cX3_append 41 = .ok (.iload 5, 2) := by decide +kernel
theorem dX3_append_43 : decode cX3_append 43 = .ok (.iload_n 3, 1) := by decide +kernel
theorem dX3_append_44 : decode cX3_append 44 = .ok (.iastore, 1) := by decide +kernel
theorem dX3_append_45 : decode cX3_append 45 = .ok (.aload_n 0, 1) := by decide +kernel
theorem dX3_append_46 : decode cX3_append 46 = .ok (.getfield 21, 3) := by decide +kernel
theorem dX3_append_49 : decode cX3_append 49 = .ok (.iload 5, 2) := by decide +kernel
theorem dX3_append_51 : decode cX3_append 51 = .ok (.iload 4, 2) := by decide +kernel
theorem dX3_append_53 : decode cX3_append 53 = .ok (.iastore, 1) := by decide +kernel
theorem dX3_append_54 : decode cX3_append 54 = .ok (.aload_n 0, 1) := by decide +kernel
theorem dX3_append_55 : decode cX3_append 55 = .ok (.dup, 1) := by decide +kernel
theorem dX3_append_56 : decode cX3_append 56 = .ok (.getfield 24, 3) := by decide +kernel
theorem dX3_append_59 : decode cX3_append 59 = .ok (.iconst 1, 1) := by decide +kernel
theorem dX3_append_60 : decode cX3_append 60 = .ok (.iadd, 1) := by decide +kernel
theorem dX3_append_61 : decode cX3_append 61 = .ok (.putfield 24, 3) := by decide +kernel
theorem dX3_append_64 : decode cX3_append 64 = .ok (.iload 5, 2) := by decide +kernel
theorem dX3_append_66 : decode cX3_append 66 = .ok (.ireturn, 1) := by decide +kernel
set_option maxRecDepth 20000 in
theorem ggX3_changeHeading_X3_isPing : GoodIn wsX3_changeHeading wsX3_isPing := goodIn_r _ [6, 7, 8, 9, 10, 11, 12] (by decide +kernel) (by decide +kernel)
set_option maxRecDepth 20000 in
theorem gX3_changeHeading_X3_isPing : GoodIn wsX3_changeHeading (wsV RX3 28 RX3 yX3_isPing wsX3_isPing) := goodIn_app (goodIn_of _ (by decide +kernel)) ggX3_changeHeading_X3_isPing
theorem dX3_changeHeading_0 : decode cX3_changeHeading 0 = .ok (.aload_n 0, 1) := by decide +kernel
theorem dX3_changeHeading_1 : decode cX3_changeHeading 1 = .ok (.iload_n 1, 1) := by decide +kernel
theorem dX3_changeHeading_2 : decode cX3_changeHeading 2 = .ok (.invokevirtual 28, 3) := by decide +kernel
theorem dX3_changeHeading_5 : decode cX3_changeHeading 5 = .ok (.ifCond .ne 6, 3) := by decide +kernel
theorem dX3_changeHeading_8 : decode cX3_changeHeading 8 = .ok (.bipush (-2), 2) := by decide +kernel
theorem dX3_changeHeading_10 : decode cX3_changeHeading 10 = .ok (.ireturn, 1) := by decide +kernel
theorem dX3_changeHeading_11 : decode cX3_changeHeading 11 = .ok (.aload_n 0, 1) := by decide +kernel
theorem dX3_changeHeading_12 : decode cX3_changeHeading 12 = .ok (.getfield 9, 3) := by decide +kernel
theorem dX3_changeHeading_15 : decode cX3_changeHeading 15 = .ok (.iload_n 1, 1) := by decide +kernel
theorem dX3_changeHeading_16 : decode cX3_changeHeading 16 = .ok (.iaload, 1) := by decide +kernel
theorem dX3_changeHeading_17 : decode cX3_changeHeading 17 = .ok (.istore_n 3, 1) := by decide +kernel
theorem dX3_changeHeading_18 : decode cX3_changeHeading 18 = .ok (.aload_n 0, 1) := by decide +kernel
theorem dX3_changeHeading_19 : decode cX3_changeHeading 19 = .ok (.getfield 9, 3) := by decide +kernel
theorem dX3_changeHeading_22 : decode cX3_changeHeading 22 = .ok (.iload_n 1, 1) := by decide +kernel
theorem dX3_changeHeading_23 : decode cX3_changeHeading 23 = .ok (.iload_n 2, 1) := by decide +kernel
theorem dX3_changeHeading_24 : decode cX3_changeHeading 24 = .ok (.iastore, 1) := by decide +kernel
theorem dX3_changeHeading_25 : decode cX3_changeHeading 25 = .ok (.iload_n 3, 1) := by decide +kernel
theorem dX3_changeHeading_26 : decode cX3_changeHeading 26 = .ok (.ireturn, 1) := by decide +kernel
set_option maxRecDepth 20000 in
theorem ggX3_headingOf_X3_isPing : GoodIn wsX3_headingOf wsX3_isPing := goodIn_r _ [6, 7, 8, 9, 10, 11, 12] (by decide +kernel) (by decide +kernel)
set_option maxRecDepth 20000 in
theorem gX3_headingOf_X3_isPing : GoodIn wsX3_headingOf (wsV RX3 28 RX3 yX3_isPing wsX3_isPing) := goodIn_app (goodIn_of _ (by decide +kernel)) ggX3_headingOf_X3_isPing
theorem dX3_headingOf_0 : decode cX3_headingOf 0 = .ok (.aload_n 0, 1) := by decide +kernel
theorem dX3_headingOf_1 : decode cX3_headingOf 1 = .ok (.iload_n 1, 1) := by decide +kernel
theorem dX3_headingOf_2 : decode cX3_headingOf 2 = .ok (.invokevirtual 28, 3) := by decide +kernel
theorem dX3_headingOf_5 : decode cX3_headingOf 5 = .ok (.ifCond .eq 12, 3) := by decide +kernel
theorem dX3_headingOf_8 : decode cX3_headingOf 8 = .ok (.aload_n 0, 1) := by decide +kernel
theorem dX3_headingOf_9 : decode cX3_headingOf 9 = .ok (.getfield 9, 3) := by decide +kernel
theorem dX3_headingOf_12 : decode cX3_headingOf 12 = .ok (.iload_n 1, 1) := by decide +kernel
theorem dX3_headingOf_13 : decode cX3_headingOf 13 = .ok (.iaload, 1) := by decide +kernel
theorem dX3_headingOf_14 : decode cX3_headingOf 14 = .ok (.goto 4, 3) := by decide +kernel
theorem dX3_headingOf_17 : decode cX3_headingOf 17 = .ok (.iconst 0, 1) := by decide +kernel
theorem dX3_headingOf_18 : decode cX3_headingOf 18 = .ok (.ireturn, 1) := by decide +kernel
set_option maxRecDepth 20000 in
theorem ggX3_xOf_X3_isPing : GoodIn wsX3_xOf wsX3_isPing := goodIn_r _ [6, 7, 8, 9, 10, 11, 12] (by decide +kernel) (by decide +kernel)
set_option maxRecDepth 20000 in
theorem gX3_xOf_X3_isPing : GoodIn wsX3_xOf (wsV RX3 28 RX3 yX3_isPing wsX3_isPing) := goodIn_app (goodIn_of _ (by decide +kernel)) ggX3_xOf_X3_isPing
theorem dX3_xOf_0 : decode cX3_xOf 0 = .ok (.aload_n 0, 1) := by decide +kernel
theorem dX3_xOf_1 : decode cX3_xOf 1 = .ok (.iload_n 1, 1) := by decide +kernel
theorem dX3_xOf_2 : decode cX3_xOf 2 = .ok (.invokevirtual 28, 3) := by decide +kernel
theorem dX3_xOf_5 : decode cX3_xOf 5 = .ok (.ifCond .eq 12, 3) := by decide +kernel
theorem dX3_xOf_8 : decode cX3_xOf 8 = .ok (.aload_n 0, 1) := by decide +kernel
theorem dX3_xOf_9 : decode cX3_xOf 9 = .ok (.getfield 15, 3) := by decide +kernel
theorem dX3_xOf_12 : decode cX3_xOf 12 = .ok (.iload_n 1, 1) := by decide +kernel
theorem dX3_xOf_13 : decode cX3_xOf 13 = .ok (.iaload, 1) := by decide +kernel
theorem dX3_xOf_14 : decode cX3_xOf 14 = .ok (.goto 4, 3) := by decide +kernel
theorem dX3_xOf_17 : decode cX3_xOf 17 = .ok (.iconst 0, 1) := by decide +kernel
theorem dX3_xOf_18 : decode cX3_xOf 18 = .ok (.ireturn, 1) := by decide +kernel
set_option maxRecDepth 20000 in
theorem ggX3_yOf_X3_isPing : GoodIn wsX3_yOf wsX3_isPing := goodIn_r _ [6, 7, 8, 9, 10, 11, 12] (by decide +kernel) (by decide +kernel)
set_option maxRecDepth 20000 in
theorem gX3_yOf_X3_isPing : GoodIn wsX3_yOf (wsV RX3 28 RX3 yX3_isPing wsX3_isPing) := goodIn_app (goodIn_of _ (by decide +kernel)) ggX3_yOf_X3_isPing
theorem dX3_yOf_0 : decode cX3_yOf 0 = .ok (.aload_n 0, 1) := by decide +kernel
theorem dX3_yOf_1 : decode cX3_yOf 1 = .ok (.iload_n 1, 1) := by decide +kernel
theorem dX3_yOf_2 : decode cX3_yOf 2 = .ok (.invokevirtual 28, 3) := by decide +kernel
theorem dX3_yOf_5 : decode cX3_yOf 5 = .ok (.ifCond .eq 12, 3) := by decide +kernel
theorem dX3_yOf_8 : decode cX3_yOf 8 = .ok (.aload_n 0, 1) := by decide +kernel
theorem dX3_yOf_9 : decode cX3_yOf 9 = .ok (.getfield 18, 3) := by decide +kernel
theorem dX3_yOf_12 : decode cX3_yOf 12 = .ok (.iload_n 1, 1) := by decide +kernel
theorem dX3_yOf_13 : decode cX3_yOf 13 = .ok (.iaload, 1) := by decide +kernel
theorem dX3_yOf_14 : decode cX3_yOf 14 = .ok (.goto 4, 3) := by decide +kernel
theorem dX3_yOf_17 : decode cX3_yOf 17 = .ok (.iconst 0, 1) := by decide +kernel
theorem dX3_yOf_18 : decode cX3_yOf 18 = .ok (.ireturn, 1) := by decide +kernel
set_option maxRecDepth 20000 in
theorem ggX3_depthOf_X3_isPing : GoodIn wsX3_depthOf wsX3_isPing := goodIn_r _ [6, 7, 8, 9, 10, 11, 12] (by decide +kernel) (by decide +kernel)
set_option maxRecDepth 20000 in
theorem gX3_depthOf_X3_isPing : GoodIn wsX3_depthOf (wsV RX3 28 RX3 yX3_isPing wsX3_isPing) := goodIn_app (goodIn_of _ (by decide +kernel)) ggX3_depthOf_X3_isPing
theorem dX3_depthOf_0 : decode cX3_depthOf 0 = .ok (.aload_n 0, 1) := by decide +kernel
theorem dX3_depthOf_1 : decode cX3_depthOf 1 = .ok (.iload_n 1, 1) := by decide +kernel
theorem dX3_depthOf_2 : decode cX3_depthOf 2 = .ok (.invokevirtual 28, 3) := by decide +kernel
theorem dX3_depthOf_5 : decode cX3_depthOf 5 = .ok (.ifCond .eq 12, 3) := by decide +kernel
theorem dX3_depthOf_8 : decode cX3_depthOf 8 = .ok (.aload_n 0, 1) := by decide +kernel
theorem dX3_depthOf_9 : decode cX3_depthOf 9 = .ok (.getfield 21, 3) := by decide +kernel
theorem dX3_depthOf_12 : decode cX3_depthOf 12 = .ok (.iload_n 1, 1) := by decide +kernel
theorem dX3_depthOf_13 : decode cX3_depthOf 13 = .ok (.iaload, 1) := by decide +kernel
theorem dX3_depthOf_14 : decode cX3_depthOf 14 = .ok (.goto 4, 3) := by decide +kernel
theorem dX3_depthOf_17 : decode cX3_depthOf 17 = .ok (.iconst 0, 1) := by decide +kernel
theorem dX3_depthOf_18 : decode cX3_depthOf 18 = .ok (.ireturn, 1) := by decide +kernel
set_option maxRecDepth 20000 in
theorem ggX3_stepX_X3_xOf : GoodIn wsX3_stepX wsX3_xOf := goodIn_r _ [5, 6, 7, 8, 9, 4, 10, 11, 12, 13, 14, 15, 16] (by decide +kernel) (by decide +kernel)
set_option maxRecDepth 20000 in
theorem gX3_stepX_X3_xOf : GoodIn wsX3_stepX (wsV RX3 32 RX3 yX3_xOf wsX3_xOf) := goodIn_app (goodIn_of _ (by decide +kernel)) ggX3_stepX_X3_xOf
theorem dX3_stepX_0 : decode cX3_stepX 0 = .ok (.aload_n 0, 1) := by decide +kernel
theorem dX3_stepX_1 : decode cX3_stepX 1 = .ok (.iload_n 1, 1) := by decide +kernel
theorem dX3_stepX_2 : decode cX3_stepX 2 = .ok (.iconst 1, 1) := by decide +kernel
theorem dX3_stepX_3 : decode cX3_stepX 3 = .ok (.iadd, 1) := by decide +kernel
theorem dX3_stepX_4 : decode cX3_stepX 4 = .ok (.invokevirtual 32, 3) := by decide +kernel
theorem dX3_stepX_7 : decode cX3_stepX 7 = .ok (.aload_n 0, 1) := by decide +kernel
theorem dX3_stepX_8 : decode cX3_stepX 8 = .ok (.iload_n 1, 1) := by decide +kernel
theorem dX3_stepX_9 : decode cX3_stepX 9 = .ok (.invokevirtual 32, 3) := by decide +kernel
theorem dX3_stepX_12 : decode cX3_stepX 12 = .ok (.isub, 1) := by decide +kernel
theorem dX3_stepX_13 : decode cX3_stepX 13 = .ok (.i2l, 1) := by decide +kernel
theorem dX3_stepX_14 : decode cX3_stepX 14 = .ok (.lreturn, 1) := by decide +kernel
set_option maxRecDepth 20000 in
theorem ggX3_stepY_X3_yOf : GoodIn wsX3_stepY wsX3_yOf := goodIn_r _ [5, 6, 7, 8, 9, 4, 10, 11, 12, 13, 14, 15, 16] (by decide +kernel) (by decide +kernel)
set_option maxRecDepth 20000 in
theorem gX3_stepY_X3_yOf : GoodIn wsX3_stepY (wsV RX3 36 RX3 yX3_yOf wsX3_yOf) := goodIn_app (goodIn_of _ (by decide +kernel)) ggX3_stepY_X3_yOf
theorem dX3_stepY_0 : decode cX3_stepY 0 = .ok (.aload_n 0, 1) := by decide +kernel
theorem dX3_stepY_1 : decode cX3_stepY 1 = .ok (.iload_n 1, 1) := by decide +kernel
theorem dX3_stepY_2 : decode cX3_stepY 2 = .ok (.iconst 1, 1) := by decide +kernel
theorem dX3_stepY_3 : decode cX3_stepY 3 = .ok (.iadd, 1) := by decide +kernel
theorem dX3_stepY_4 : decode cX3_stepY 4 = .ok (.invokevirtual 36, 3) := by decide +kernel
theorem dX3_stepY_7 : decode cX3_stepY 7 = .ok (.aload_n 0, 1) := by decide +kernel
theorem dX3_stepY_8 : decode cX3_stepY 8 = .ok (.iload_n 1, 1) := by decide +kernel
theorem dX3_stepY_9 : decode cX3_stepY 9 = .ok (.invokevirtual 36, 3) := by decide +kernel
theorem dX3_stepY_12 : decode cX3_stepY 12 = .ok (.isub, 1) := by decide +kernel
theorem dX3_stepY_13 : decode cX3_stepY 13 = .ok (.i2l, 1) := by decide +kernel
theorem dX3_stepY_14 : decode cX3_stepY 14 = .ok (.lreturn, 1) := by decide +kernel
set_option maxRecDepth 20000 in
theorem ggX3_areNear_X3_xOf : GoodIn wsX3_areNear wsX3_xOf := goodIn_r _ [9, 10, 11, 12, 13, 8, 14, 15, 21, 22, 23, 24, 25] (by decide +kernel) (by decide +kernel)
set_option maxRecDepth 20000 in
theorem gX3_areNear_X3_xOf : GoodIn wsX3_areNear (wsV RX3 32 RX3 yX3_xOf wsX3_xOf) := goodIn_app (goodIn_of _ (by decide +kernel)) ggX3_areNear_X3_xOf
set_option maxRecDepth 20000 in
theorem ggX3_areNear_X3_yOf : GoodIn wsX3_areNear wsX3_yOf := goodIn_r _ [19, 20, 11, 12, 13, 8, 14, 15, 21, 22, 23, 24, 25] (by decide +kernel) (by decide +kernel)
set_option maxRecDepth 20000 in
theorem gX3_areNear_X3_yOf : GoodIn wsX3_areNear (wsV RX3 36 RX3 yX3_yOf wsX3_yOf) := goodIn_app (goodIn_of _ (by decide +kernel)) ggX3_areNear_X3_yOf
theorem dX3_areNear_0 : decode cX3_areNear 0 = .ok (.aload_n 0, 1) := by decide +kernel
theorem dX3_areNear_1 : decode cX3_areNear 1 = .ok (.iload_n 2, 1) := by decide +kernel
theorem dX3_areNear_2 : decode cX3_areNear 2 = .ok (.invokevirtual 32, 3) := by decide +kernel
theorem dX3_areNear_5 : decode cX3_areNear 5 = .ok (.aload_n 0, 1) := by decide +kernel
theorem dX3_areNear_6 : decode cX3_areNear 6 = .ok (.iload_n 1, 1) := by decide +kernel
theorem dX3_areNear_7 : decode cX3_areNear 7 = .ok (.invokevirtual 32, 3) := by decide +kernel
theorem dX3_areNear_10 : decode cX3_areNear 10 = .ok (.isub, 1) := by decide +kernel
theorem dX3_areNear_11 : decode cX3_areNear 11 = .ok (.invokestatic 39, 3) := by decide +kernel
theorem dX3_areNear_14 : decode cX3_areNear 14 = .ok (.iload_n 3, 1) := by decide +kernel
theorem dX3_areNear_15 : decode cX3_areNear 15 = .ok (.if_icmp .gt 25, 3) := by decide +kernel
theorem dX3_areNear_18 : decode cX3_areNear 18 = .ok (.aload_n 0, 1) := by decide +kernel
theorem dX3_areNear_19 : decode cX3_areNear 19 = .ok (.iload_n 2, 1) := by decide +kernel
theorem dX3_areNear_20 : decode cX3_areNear 20 = .ok (.invokevirtual 36, 3) := by decide +kernel
theorem dX3_areNear_23 : decode cX3_areNear 23 = .ok (.aload_n 0, 1) := by decide +kernel
theorem dX3_areNear_24 : decode cX3_areNear 24 = .ok (.iload_n 1, 1) := by decide +kernel
theorem dX3_areNear_25 : decode cX3_areNear 25 = .ok (.invokevirtual 36, 3) := by decide +kernel
theorem dX3_areNear_28 : decode cX3_areNear 28 = .ok (.isub, 1) := by decide +kernel
theorem dX3_areNear_29 : decode cX3_areNear 29 = .ok (.invokestatic 39, 3) := by decide +kernel
theorem dX3_areNear_32 : decode cX3_areNear 32 = .ok (.iload_n 3, 1) := by decide +kernel
theorem dX3_areNear_33 : decode cX3_areNear 33 = .ok (.if_icmp .gt 7, 3) := by decide +kernel
theorem dX3_areNear_36 : decode cX3_areNear 36 = .ok (.iconst 1, 1) := by decide +kernel
theorem dX3_areNear_37 : decode cX3_areNear 37 = .ok (.goto 4, 3) := by decide +kernel
theorem dX3_areNear_40 : decode cX3_areNear 40 = .ok (.iconst 0, 1) := by decide +kernel
theorem dX3_areNear_41 : decode cX3_areNear 41 = .ok (.ireturn, 1) := by decide +kernel
set_option maxRecDepth 20000 in
theorem ggX4_init_X3_init : GoodIn wsX4_init wsX3_init := goodIn_r _ [31, 32, 2, 3, 33, 34, 35, 36, 37, 38, 74, 75, 76, 77, 78] (by decide +kernel) (by decide +kernel)
set_option maxRecDepth 20000 in
theorem gX4_init_X3_init_n17 : GoodIn wsX4_init (wsX3_init) := ggX4_init_X3_init
set_option maxRecDepth 20000 in
theorem ggX4_init_X0_init : GoodIn wsX4_init wsX0_init := goodIn_r _ [40, 41, 2, 3, 42, 43, 44, 45, 46, 79, 80, 81, 82, 83] (by decide +kernel) (by decide +kernel)
set_option maxRecDepth 20000 in
theorem gX4_init_X0_init_n24 : GoodIn wsX4_init (wsX0_init) := ggX4_init_X0_init
set_option maxRecDepth 20000 in
theorem ggX4_init_X1_init : GoodIn wsX4_init wsX1_init := goodIn_r _ [48, 49, 2, 3, 50, 51, 52, 53, 84, 85, 86, 87] (by decide +kernel) (by decide +kernel)
set_option maxRecDepth 20000 in
theorem gX4_init_X1_init_n31 : GoodIn wsX4_init (wsX1_init) := ggX4_init_X1_init
set_option maxRecDepth 20000 in
theorem ggX4_init_X2_init : GoodIn wsX4_init wsX2_init := goodIn_r _ [55, 56, 2, 3, 33, 57, 58, 59, 88, 89, 90] (by decide +kernel) (by decide +kernel)
set_option maxRecDepth 20000 in
theorem gX4_init_X2_init_n68 : GoodIn wsX4_init (wsX2_init) := ggX4_init_X2_init
theorem dX4_init_0 : decode cX4_init 0 = .ok (.aload_n 0, 1) := by decide +kernel
theorem dX4_init_1 : decode cX4_init 1 = .ok (.invokespecial 1, 3) := by decide +kernel
theorem dX4_init_4 : decode cX4_init 4 = .ok (.aload_n 0, 1) := by decide +kernel
theorem dX4_init_5 : decode cX4_init 5 = .ok (.bipush 8, 2) := by decide +kernel
theorem dX4_init_7 : decode cX4_init 7 = .ok (.anewarray 9, 3) := by decide +kernel
theorem dX4_init_10 : decode cX4_init 10 = .ok (.putfield 11, 3) := by decide +kernel
theorem dX4_init_13 : decode cX4_init 13 = .ok (.aload_n 0, 1) := by decide +kernel
theorem dX4_init_14 : decode cX4_init 14 = .ok (.new 15, 3) := by decide +kernel
theorem dX4_init_17 : decode cX4_init 17 = .ok (.dup, 1) := by decide +kernel
theorem dX4_init_18 : decode cX4_init 18 = .ok (.invokespecial 17, 3) := by decide +kernel
theorem dX4_init_21 : decode cX4_init 21 = .ok (.putfield 18, 3) := by decide +kernel
theorem dX4_init_24 : decode cX4_init 24 = .ok (.aload_n 0, 1) := by decide +kernel
theorem dX4_init_25 : decode cX4_init 25 = .ok (.new 22, 3) := by decide +kernel
theorem dX4_init_28 : decode cX4_init 28 = .ok (.dup, 1) := by decide +kernel
theorem dX4_init_29 : decode cX4_init 29 = .ok (.invokespecial 24, 3) := by decide +kernel
theorem dX4_init_32 : decode cX4_init 32 = .ok (.putfield 25, 3) := by decide +kernel
theorem dX4_init_35 : decode cX4_init 35 = .ok (.aload_n 0, 1) := by decide +kernel
theorem dX4_init_36 : decode cX4_init 36 = .ok (.new 29, 3) := by decide +kernel
theorem dX4_init_39 : decode cX4_init 39 = .ok (.dup, 1) := by decide +kernel
theorem dX4_init_40 : decode cX4_init 40 = .ok (.invokespecial 31, 3) := by decide +kernel
theorem dX4_init_43 : decode cX4_init 43 = .ok (.putfield 32, 3) := by decide +kernel
theorem dX4_init_46 : decode cX4_init 46 = .ok (.aload_n 0, 1) := by decide +kernel
theorem dX4_init_47 : decode cX4_init 47 = .ok (.new 29, 3) := by decide +kernel
theorem dX4_init_50 : decode cX4_init 50 = .ok (.dup, 1) := by decide +kernel
theorem dX4_init_51 : decode cX4_init 51 = .ok (.invokespecial 31, 3) := by decide +kernel
theorem dX4_init_54 : decode cX4_init 54 = .ok (.putfield 36, 3) := by decide +kernel
theorem dX4_init_57 : decode cX4_init 57 = .ok (.aload_n 0, 1) := by decide +kernel
theorem dX4_init_58 : decode cX4_init 58 = .ok (.new 29, 3) := by decide +kernel
theorem dX4_init_61 : decode cX4_init 61 = .ok (.dup, 1) := by decide +kernel
theorem dX4_init_62 : decode cX4_init 62 = .ok (.invokespecial 31, 3) := by decide +kernel
theorem dX4_init_65 : decode cX4_init 65 = .ok (.putfield 39, 3) := by decide +kernel
theorem dX4_init_68 : decode cX4_init 68 = .ok (.aload_n 0, 1) := by decide +kernel
theorem dX4_init_69 : decode cX4_init 69 = .ok (.new 29, 3) := by decide +kernel
theorem dX4_init_72 : decode cX4_init 72 = .ok (.dup, 1) := by decide +kernel
theorem dX4_init_73 : decode cX4_init 73 = .ok (.invokespecial 31, 3) := by decide +kernel
theorem dX4_init_76 : decode cX4_init 76 = .ok (.putfield 42, 3) := by decide +kernel
theorem dX4_init_79 : decode cX4_init 79 = .ok (.aload_n 0, 1) := by decide +kernel
theorem dX4_init_80 : decode cX4_init 80 = .ok (.iconst 4, 1) := by decide +kernel
theorem dX4_init_81 : decode cX4_init 81 = .ok (.putfield 45, 3) := by decide +kernel
theorem dX4_init_84 : decode cX4_init 84 = .ok (.aload_n 0, 1) := by decide +kernel
theorem dX4_init_85 : decode cX4_init 85 = .ok (.iconst 0, 1) := by decide +kernel
theorem dX4_init_86 : decode cX4_init 86 = .ok (.putfield 49, 3) := by decide +kernel
theorem dX4_init_89 : decode cX4_init 89 = .ok (.aload_n 0, 1) := by decide +kernel
theorem dX4_init_90 : decode cX4_init 90 = .ok (.iconst 0, 1) := by decide +kernel
theorem dX4_init_91 : decode cX4_init 91 = .ok (.putfield 52, 3) := by decide +kernel
theorem dX4_init_94 : decode cX4_init 94 = .ok (.aload_n 0, 1) := by decide +kernel
theorem dX4_init_95 : decode cX4_init 95 = .ok (.iconst 0, 1) := by decide +kernel
theorem dX4_init_96 : decode cX4_init 96 = .ok (.putfield 55, 3) := by decide +kernel
theorem dX4_init_99 : decode cX4_init 99 = .ok (.aload_n 0, 1) := by decide +kernel
theorem dX4_init_100 : decode cX4_init 100 = .ok (.iconst 1, 1) := by decide +kernel
theorem dX4_init_101 : decode cX4_init 101 = .ok (.putfield 58, 3) := by decide +kernel
theorem dX4_init_104 : decode cX4_init 104 = .ok (.aload_n 0, 1) := by decide +kernel
theorem dX4_init_105 : decode cX4_init 105 = .ok (.sipush 1000, 3) := by decide +kernel
theorem dX4_init_108 : decode cX4_init 108 = .ok (.putfield 62, 3) := by decide +kernel
theorem dX4_init_111 : decode cX4_init 111 = .ok (.aload_n 0, 1) := by decide +kernel
theorem dX4_init_112 : decode cX4_init 112 = .ok (.iconst 0, 1) := by decide +kernel
theorem dX4_init_113 : decode cX4_init 113 = .ok (.putfield 65, 3) := by decide +kernel
theorem dX4_init_116 : decode cX4_init 116 = .ok (.iconst 0, 1) := by decide +kernel
theorem dX4_init_117 : decode cX4_init 117 = .ok (.istore_n 1, 1) := by decide +kernel
theorem dX4_init_118 : decode cX4_init 118 = .ok (.iload_n 1, 1) := by decide +kernel
