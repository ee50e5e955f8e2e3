theorem dX5_copy_76 : decode cX5_copy 76 = .ok (.iload_n 2, 1) := by decide +kernel
theorem dX5_copy_77 : decode cX5_copy 77 = .ok (.i2l, 1) := by decide +kernel
theorem dX5_copy_78 : decode cX5_copy 78 = .ok (.iload 5, 2) := by decide +kernel
theorem dX5_copy_80 : decode cX5_copy 80 = .ok (.i2l, 1) := by decide +kernel
theorem dX5_copy_81 : decode cX5_copy 81 = .ok (.ladd, 1) := by decide +kernel
theorem dX5_copy_82 : decode cX5_copy 82 = .ok (.aload_n 0, 1) := by decide +kernel
theorem dX5_copy_83 : decode cX5_copy 83 = .ok (.getfield 19, 3) := by decide +kernel
theorem dX5_copy_86 : decode cX5_copy 86 = .ok (.iload_n 1, 1) := by decide +kernel
theorem dX5_copy_87 : decode cX5_copy 87 = .ok (.iaload, 1) := by decide +kernel
theorem dX5_copy_88 : decode cX5_copy 88 = .ok (.i2l, 1) := by decide +kernel
theorem dX5_copy_89 : decode cX5_copy 89 = .ok (.lcmp, 1) := by decide +kernel
theorem dX5_copy_90 : decode cX5_copy 90 = .ok (.ifCond .gt 21, 3) := by decide +kernel
theorem dX5_copy_93 : decode cX5_copy 93 = .ok (.iload 4, 2) := by decide +kernel
theorem dX5_copy_95 : decode cX5_copy 95 = .ok (.i2l, 1) := by decide +kernel
theorem dX5_copy_96 : decode cX5_copy 96 = .ok (.iload 5, 2) := by decide +kernel
theorem dX5_copy_98 : decode cX5_copy 98 = .ok (.i2l, 1) := by decide +kernel
theorem dX5_copy_99 : decode cX5_copy 99 = .ok (.ladd, 1) := by decide +kernel
theorem dX5_copy_100 : decode cX5_copy 100 = .ok (.aload_n 0, 1) := by decide +kernel
theorem dX5_copy_101 : decode cX5_copy 101 = .ok (.getfield 19, 3) := by decide +kernel
theorem dX5_copy_104 : decode cX5_copy 104 = .ok (.iload_n 3, 1) := by decide +kernel
theorem dX5_copy_105 : decode cX5_copy 105 = .ok (.iaload, 1) := by decide +kernel
theorem dX5_copy_106 : decode cX5_copy 106 = .ok (.i2l, 1) := by decide +kernel
theorem dX5_copy_107 : decode cX5_copy 107 = .ok (.lcmp, 1) := by decide +kernel
theorem dX5_copy_108 : decode cX5_copy 108 = .ok (.ifCond .le 9, 3) := by decide +kernel
theorem dX5_copy_111 : decode cX5_copy 111 = .ok (.aload_n 0, 1) := by decide +kernel
theorem dX5_copy_112 : decode cX5_copy 112 = .ok (.iconst 2, 1) := by decide +kernel
theorem dX5_copy_113 : decode cX5_copy 113 = .ok (.invokevirtual 68, 3) := by decide +kernel
theorem dX5_copy_116 : decode cX5_copy 116 = .ok (.ireturn, 1) := by decide +kernel
theorem dX5_copy_117 : decode cX5_copy 117 = .ok (.iconst 0, 1) := by decide +kernel
theorem dX5_copy_118 : decode cX5_copy 118 = .ok (.istore 6, 2) := by decide +kernel
theorem dX5_copy_120 : decode cX5_copy 120 = .ok (.iload 6, 2) := by decide +kernel
theorem dX5_copy_122 : decode cX5_copy 122 = .ok (.iload 5, 2) := by decide +kernel
theorem dX5_copy_124 : decode cX5_copy 124 = .ok (.if_icmp .ge 31, 3) := by decide +kernel
theorem dX5_copy_127 : decode cX5_copy 127 = .ok (.aload_n 0, 1) := by decide +kernel
theorem dX5_copy_128 : decode cX5_copy 128 = .ok (.getfield 25, 3) := by decide +kernel
theorem dX5_copy_131 : decode cX5_copy 131 = .ok (.iload 6, 2) := by decide +kernel
theorem dX5_copy_133 : decode cX5_copy 133 = .ok (.aload_n 0, 1) := by decide +kernel
theorem dX5_copy_134 : decode cX5_copy 134 = .ok (.getfield 22, 3) := by decide +kernel
theorem dX5_copy_137 : decode cX5_copy 137 = .ok (.sipush 200, 3) := by decide +kernel
theorem dX5_copy_140 : decode cX5_copy 140 = .ok (.iload_n 1, 1) := by decide +kernel
theorem dX5_copy_141 : decode cX5_copy 141 = .ok (.imul, 1) := by decide +kernel
theorem dX5_copy_142 : decode cX5_copy 142 = .ok (.iload_n 2, 1) := by decide +kernel
theorem dX5_copy_143 : decode cX5_copy 143 = .ok (.iadd, 1) := by decide +kernel
theorem dX5_copy_144 : decode cX5_copy 144 = .ok (.iload 6, 2) := by decide +kernel
theorem dX5_copy_146 : decode cX5_copy 146 = .ok (.iadd, 1) := by decide +kernel
theorem dX5_copy_147 : decode cX5_copy 147 = .ok (.iaload, 1) := by decide +kernel
theorem dX5_copy_148 : decode cX5_copy 148 = .ok (.iastore, 1) := by decide +kernel
theorem dX5_copy_149 : decode cX5_copy 149 = .ok (.iinc 6 1, 3) := by decide +kernel
theorem dX5_copy_152 : decode cX5_copy 152 = .ok (.goto (-32), 3) := by decide +kernel
theorem dX5_copy_155 : decode cX5_copy 155 = .ok (.iconst 0, 1) := by decide +kernel
theorem dX5_copy_156 : decode cX5_copy 156 = .ok (.istore 6, 2) := by decide +kernel
theorem dX5_copy_158 : decode cX5_copy 158 = .ok (.iload 6, 2) := by decide +kernel
theorem dX5_copy_160 : decode cX5_copy 160 = .ok (.iload 5, 2) := by decide +kernel
theorem dX5_copy_162 : decode cX5_copy 162 = .ok (.if_icmp .ge 32, 3) := by decide +kernel
theorem dX5_copy_165 : decode cX5_copy 165 = .ok (.aload_n 0, 1) := by decide +kernel
theorem dX5_copy_166 : decode cX5_copy 166 = .ok (.getfield 22, 3) := by decide +kernel
theorem dX5_copy_169 : decode cX5_copy 169 = .ok (.sipush 200, 3) := by decide +kernel
theorem dX5_copy_172 : decode cX5_copy 172 = .ok (.iload_n 3, 1) := by decide +kernel
theorem dX5_copy_173 : decode cX5_copy 173 = .ok (.imul, 1) := by decide +kernel
theorem dX5_copy_174 : decode cX5_copy 174 = .ok (.iload 4, 2) := by decide +kernel
theorem dX5_copy_176 : decode cX5_copy 176 = .ok (.iadd, 1) := by decide +kernel
theorem dX5_copy_177 : decode cX5_copy 177 = .ok (.iload 6, 2) := by decide +kernel
theorem dX5_copy_179 : decode cX5_copy 179 = .ok (.iadd, 1) := by decide +kernel
theorem dX5_copy_180 : decode cX5_copy 180 = .ok (.aload_n 0, 1) := by decide +kernel
theorem dX5_copy_181 : decode cX5_copy 181 = .ok (.getfield 25, 3) := by decide +kernel
theorem dX5_copy_184 : decode cX5_copy 184 = .ok (.iload 6, 2) := by decide +kernel
theorem dX5_copy_186 : decode cX5_copy 186 = .ok (.iaload, 1) := by decide +kernel
theorem dX5_copy_187 : decode cX5_copy 187 = .ok (.iastore, 1) := by decide +kernel
theorem dX5_copy_188 : decode cX5_copy 188 = .ok (.iinc 6 1, 3) := by decide +kernel
theorem dX5_copy_191 : decode cX5_copy 191 = .ok (.goto (-33), 3) := by decide +kernel
theorem dX5_copy_194 : decode cX5_copy 194 = .ok (.iconst 1, 1) := by decide +kernel
theorem dX5_copy_195 : decode cX5_copy 195 = .ok (.ireturn, 1) := by decide +kernel
theorem dX5_told_0 : decode cX5_told 0 = .ok (.iload_n 0, 1) := by decide +kernel
theorem dX5_told_1 : decode cX5_told 1 = .ok (.bipush (-128), 2) := by decide +kernel
theorem dX5_told_3 : decode cX5_told 3 = .ok (.if_icmp .le 10, 3) := by decide +kernel
theorem dX5_told_6 : decode cX5_told 6 = .ok (.iload_n 0, 1) := by decide +kernel
theorem dX5_told_7 : decode cX5_told 7 = .ok (.sipush 20000, 3) := by decide +kernel
theorem dX5_told_10 : decode cX5_told 10 = .ok (.if_icmp .le 8, 3) := by decide +kernel
theorem dX5_told_13 : decode cX5_told 13 = .ok (.bipush (-128), 2) := by decide +kernel
theorem dX5_told_15 : decode cX5_told 15 = .ok (.goto 4, 3) := by decide +kernel
theorem dX5_told_18 : decode cX5_told 18 = .ok (.iload_n 0, 1) := by decide +kernel
theorem dX5_told_19 : decode cX5_told 19 = .ok (.ireturn, 1) := by decide +kernel
set_option maxRecDepth 20000 in
theorem ggX5_reading_X5_told : GoodIn wsX5_reading wsX5_told := goodIn_r _ [7] (by decide +kernel) (by decide +kernel)
set_option maxRecDepth 20000 in
theorem gX5_reading_X5_told : GoodIn wsX5_reading (va_wsS RX5 77 yX5_told wsX5_told) := goodIn_app (goodIn_of _ (by decide +kernel)) ggX5_reading_X5_told
theorem dX5_reading_0 : decode cX5_reading 0 = .ok (.aload_n 0, 1) := by decide +kernel
theorem dX5_reading_1 : decode cX5_reading 1 = .ok (.getfield 16, 3) := by decide +kernel
theorem dX5_reading_4 : decode cX5_reading 4 = .ok (.iload_n 1, 1) := by decide +kernel
theorem dX5_reading_5 : decode cX5_reading 5 = .ok (.iaload, 1) := by decide +kernel
theorem dX5_reading_6 : decode cX5_reading 6 = .ok (.ifCond .lt 13, 3) := by decide +kernel
theorem dX5_reading_9 : decode cX5_reading 9 = .ok (.iload_n 2, 1) := by decide +kernel
theorem dX5_reading_10 : decode cX5_reading 10 = .ok (.aload_n 0, 1) := by decide +kernel
theorem dX5_reading_11 : decode cX5_reading 11 = .ok (.getfield 19, 3) := by decide +kernel
theorem dX5_reading_14 : decode cX5_reading 14 = .ok (.iload_n 1, 1) := by decide +kernel
theorem dX5_reading_15 : decode cX5_reading 15 = .ok (.iaload, 1) := by decide +kernel
theorem dX5_reading_16 : decode cX5_reading 16 = .ok (.if_icmp .lt 8, 3) := by decide +kernel
theorem dX5_reading_19 : decode cX5_reading 19 = .ok (.bipush (-128), 2) := by decide +kernel
theorem dX5_reading_21 : decode cX5_reading 21 = .ok (.goto 18, 3) := by decide +kernel
theorem dX5_reading_24 : decode cX5_reading 24 = .ok (.aload_n 0, 1) := by decide +kernel
theorem dX5_reading_25 : decode cX5_reading 25 = .ok (.getfield 22, 3) := by decide +kernel
theorem dX5_reading_28 : decode cX5_reading 28 = .ok (.sipush 200, 3) := by decide +kernel
theorem dX5_reading_31 : decode cX5_reading 31 = .ok (.iload_n 1, 1) := by decide +kernel
theorem dX5_reading_32 : decode cX5_reading 32 = .ok (.imul, 1) := by decide +kernel
theorem dX5_reading_33 : decode cX5_reading 33 = .ok (.iload_n 2, 1) := by decide +kernel
theorem dX5_reading_34 : decode cX5_reading 34 = .ok (.iadd, 1) := by decide +kernel
theorem dX5_reading_35 : decode cX5_reading 35 = .ok (.iaload, 1) := by decide +kernel
theorem dX5_reading_36 : decode cX5_reading 36 = .ok (.invokestatic 77, 3) := by decide +kernel
theorem dX5_reading_39 : decode cX5_reading 39 = .ok (.ireturn, 1) := by decide +kernel
set_option maxRecDepth 20000 in
theorem ggX5_cells_X5_in : GoodIn wsX5_cells wsX5_in := goodIn_r _ [7] (by decide +kernel) (by decide +kernel)
set_option maxRecDepth 20000 in
theorem gX5_cells_X5_in : GoodIn wsX5_cells (va_wsS RX5 58 yX5_in wsX5_in) := goodIn_app (goodIn_of _ (by decide +kernel)) ggX5_cells_X5_in
theorem dX5_cells_0 : decode cX5_cells 0 = .ok (.iload_n 1, 1) := by decide +kernel
theorem dX5_cells_1 : decode cX5_cells 1 = .ok (.i2l, 1) := by decide +kernel
theorem dX5_cells_2 : decode cX5_cells 2 = .ok (.lconst 1, 1) := by decide +kernel
theorem dX5_cells_3 : decode cX5_cells 3 = .ok (.ldc2_w 80, 3) := by decide +kernel
theorem dX5_cells_6 : decode cX5_cells 6 = .ok (.invokestatic 58, 3) := by decide +kernel
theorem dX5_cells_9 : decode cX5_cells 9 = .ok (.ifCond .ne 6, 3) := by decide +kernel
theorem dX5_cells_12 : decode cX5_cells 12 = .ok (.bipush (-2), 2) := by decide +kernel
theorem dX5_cells_14 : decode cX5_cells 14 = .ok (.ireturn, 1) := by decide +kernel
theorem dX5_cells_15 : decode cX5_cells 15 = .ok (.aload_n 0, 1) := by decide +kernel
theorem dX5_cells_16 : decode cX5_cells 16 = .ok (.getfield 82, 3) := by decide +kernel
theorem dX5_cells_19 : decode cX5_cells 19 = .ok (.ifCond .le 6, 3) := by decide +kernel
theorem dX5_cells_22 : decode cX5_cells 22 = .ok (.bipush (-3), 2) := by decide +kernel
theorem dX5_cells_24 : decode cX5_cells 24 = .ok (.ireturn, 1) := by decide +kernel
theorem dX5_cells_25 : decode cX5_cells 25 = .ok (.aload_n 0, 1) := by decide +kernel
theorem dX5_cells_26 : decode cX5_cells 26 = .ok (.getfield 28, 3) := by decide +kernel
theorem dX5_cells_29 : decode cX5_cells 29 = .ok (.istore_n 2, 1) := by decide +kernel
theorem dX5_cells_30 : decode cX5_cells 30 = .ok (.aload_n 0, 1) := by decide +kernel
theorem dX5_cells_31 : decode cX5_cells 31 = .ok (.iload_n 1, 1) := by decide +kernel
theorem dX5_cells_32 : decode cX5_cells 32 = .ok (.putfield 28, 3) := by decide +kernel
theorem dX5_cells_35 : decode cX5_cells 35 = .ok (.iload_n 2, 1) := by decide +kernel
theorem dX5_cells_36 : decode cX5_cells 36 = .ok (.ireturn, 1) := by decide +kernel
set_option maxRecDepth 20000 in
theorem ggX5_ping_X5_in : GoodIn wsX5_ping wsX5_in := goodIn_r _ [13] (by decide +kernel) (by decide +kernel)
set_option maxRecDepth 20000 in
theorem gX5_ping_X5_in : GoodIn wsX5_ping (va_wsS RX5 58 yX5_in wsX5_in) := goodIn_app (goodIn_of _ (by decide +kernel)) ggX5_ping_X5_in
theorem dX5_ping_0 : decode cX5_ping 0 = .ok (.iload_n 1, 1) := by decide +kernel
theorem dX5_ping_1 : decode cX5_ping 1 = .ok (.i2l, 1) := by decide +kernel
theorem dX5_ping_2 : decode cX5_ping 2 = .ok (.lconst 0, 1) := by decide +kernel
theorem dX5_ping_3 : decode cX5_ping 3 = .ok (.ldc2_w 85, 3) := by decide +kernel
theorem dX5_ping_6 : decode cX5_ping 6 = .ok (.invokestatic 58, 3) := by decide +kernel
theorem dX5_ping_9 : decode cX5_ping 9 = .ok (.ifCond .eq 44, 3) := by decide +kernel
theorem dX5_ping_12 : decode cX5_ping 12 = .ok (.iload_n 2, 1) := by decide +kernel
theorem dX5_ping_13 : decode cX5_ping 13 = .ok (.i2l, 1) := by decide +kernel
theorem dX5_ping_14 : decode cX5_ping 14 = .ok (.ldc2_w 87, 3) := by decide +kernel
theorem dX5_ping_17 : decode cX5_ping 17 = .ok (.ldc2_w 89, 3) := by decide +kernel
theorem dX5_ping_20 : decode cX5_ping 20 = .ok (.invokestatic 58, 3) := by decide +kernel
theorem dX5_ping_23 : decode cX5_ping 23 = .ok (.ifCond .eq 30, 3) := by decide +kernel
theorem dX5_ping_26 : decode cX5_ping 26 = .ok (.iload_n 3, 1) := by decide +kernel
theorem dX5_ping_27 : decode cX5_ping 27 = .ok (.i2l, 1) := by decide +kernel
theorem dX5_ping_28 : decode cX5_ping 28 = .ok (.ldc2_w 87, 3) := by decide +kernel
theorem dX5_ping_31 : decode cX5_ping 31 = .ok (.ldc2_w 89, 3) := by decide +kernel
theorem dX5_ping_34 : decode cX5_ping 34 = .ok (.invokestatic 58, 3) := by decide +kernel
theorem dX5_ping_37 : decode cX5_ping 37 = .ok (.ifCond .eq 16, 3) := by decide +kernel
theorem dX5_ping_40 : decode cX5_ping 40 = .ok (.iload 4, 2) := by decide +kernel
theorem dX5_ping_42 : decode cX5_ping 42 = .ok (.i2l, 1) := by decide +kernel
theorem dX5_ping_43 : decode cX5_ping 43 = .ok (.lconst 0, 1) := by decide +kernel
theorem dX5_ping_44 : decode cX5_ping 44 = .ok (.ldc2_w 80, 3) := by decide +kernel
theorem dX5_ping_47 : decode cX5_ping 47 = .ok (.invokestatic 58, 3) := by decide +kernel
theorem dX5_ping_50 : decode cX5_ping 50 = .ok (.ifCond .ne 6, 3) := by decide +kernel
theorem dX5_ping_53 : decode cX5_ping 53 = .ok (.bipush (-2), 2) := by decide +kernel
theorem dX5_ping_55 : decode cX5_ping 55 = .ok (.ireturn, 1) := by decide +kernel
theorem dX5_ping_56 : decode cX5_ping 56 = .ok (.aload_n 0, 1) := by decide +kernel
theorem dX5_ping_57 : decode cX5_ping 57 = .ok (.getfield 82, 3) := by decide +kernel
theorem dX5_ping_60 : decode cX5_ping 60 = .ok (.bipush 40, 2) := by decide +kernel
theorem dX5_ping_62 : decode cX5_ping 62 = .ok (.if_icmp .ne 6, 3) := by decide +kernel
theorem dX5_ping_65 : decode cX5_ping 65 = .ok (.bipush (-4), 2) := by decide +kernel
theorem dX5_ping_67 : decode cX5_ping 67 = .ok (.ireturn, 1) := by decide +kernel
theorem dX5_ping_68 : decode cX5_ping 68 = .ok (.aload_n 0, 1) := by decide +kernel
theorem dX5_ping_69 : decode cX5_ping 69 = .ok (.getfield 32, 3) := by decide +kernel
theorem dX5_ping_72 : decode cX5_ping 72 = .ok (.aload_n 0, 1) := by decide +kernel
theorem dX5_ping_73 : decode cX5_ping 73 = .ok (.getfield 82, 3) := by decide +kernel
theorem dX5_ping_76 : decode cX5_ping 76 = .ok (.iload_n 1, 1) := by decide +kernel
theorem dX5_ping_77 : decode cX5_ping 77 = .ok (.iastore, 1) := by decide +kernel
theorem dX5_ping_78 : decode cX5_ping 78 = .ok (.aload_n 0, 1) := by decide +kernel
theorem dX5_ping_79 : decode cX5_ping 79 = .ok (.getfield 35, 3) := by decide +kernel
theorem dX5_ping_82 : decode cX5_ping 82 = .ok (.aload_n 0, 1) := by decide +kernel
theorem dX5_ping_83 : decode cX5_ping 83 = .ok (.getfield 82, 3) := by decide +kernel
theorem dX5_ping_86 : decode cX5_ping 86 = .ok (.iload_n 2, 1) := by decide +kernel
theorem dX5_ping_87 : decode cX5_ping 87 = .ok (.iastore, 1) := by decide +kernel
theorem dX5_ping_88 : decode cX5_ping 88 = .ok (.aload_n 0, 1) := by decide +kernel
theorem dX5_ping_89 : decode cX5_ping 89 = .ok (.getfield 38, 3) := by decide +kernel
theorem dX5_ping_92 : decode cX5_ping 92 = .ok (.aload_n 0, 1) := by decide +kernel
theorem dX5_ping_93 : decode cX5_ping 93 = .ok (.getfield 82, 3) := by decide +kernel
theorem dX5_ping_96 : decode cX5_ping 96 = .ok (.iload_n 3, 1) := by decide +kernel
theorem dX5_ping_97 : decode cX5_ping 97 = .ok (.iastore, 1) := by decide +kernel
theorem dX5_ping_98 : decode cX5_ping 98 = .ok (.aload_n 0, 1) := by decide +kernel
theorem dX5_ping_99 : decode cX5_ping 99 = .ok (.getfield 41, 3) := by decide +kernel
theorem dX5_ping_102 : decode cX5_ping 102 = .ok (.aload_n 0, 1) := by decide +kernel
theorem dX5_ping_103 : decode cX5_ping 103 = .ok (.getfield 82, 3) := by decide +kernel
theorem dX5_ping_106 : decode cX5_ping 106 = .ok (.iload 4, 2) := by decide +kernel
theorem dX5_ping_108 : decode cX5_ping 108 = .ok (.iastore, 1) := by decide +kernel
theorem dX5_ping_109 : decode cX5_ping 109 = .ok (.aload_n 0, 1) := by decide +kernel
theorem dX5_ping_110 : decode cX5_ping 110 = .ok (.dup, 1) := by decide +kernel
theorem dX5_ping_111 : decode cX5_ping 111 = .ok (.getfield 82, 3) := by decide +kernel
theorem dX5_ping_114 : decode cX5_ping 114 = .ok (.iconst 1, 1) := by decide +kernel
theorem dX5_ping_115 : decode cX5_ping 115 = .ok (.iadd, 1) := by decide +kernel
theorem dX5_ping_116 : decode cX5_ping 116 = .ok (.putfield 82, 3) := by decide +kernel
theorem dX5_ping_119 : decode cX5_ping 119 = .ok (.aload_n 0, 1) := by decide +kernel
theorem dX5_ping_120 : decode cX5_ping 120 = .ok (.getfield 82, 3) := by decide +kernel
theorem dX5_ping_123 : decode cX5_ping 123 = .ok (.iconst 1, 1) := by decide +kernel
theorem dX5_ping_124 : decode cX5_ping 124 = .ok (.isub, 1) := by decide +kernel
theorem dX5_ping_125 : decode cX5_ping 125 = .ok (.ireturn, 1) := by decide +kernel
set_option maxRecDepth 20000 in
theorem ggX5_isPing_X5_in : GoodIn wsX5_isPing wsX5_in := goodIn_r _ [5] (by decide +kernel) (by decide +kernel)
set_option maxRecDepth 20000 in
theorem gX5_isPing_X5_in : GoodIn wsX5_isPing (va_wsS RX5 58 yX5_in wsX5_in) := goodIn_app (goodIn_of _ (by decide +kernel)) ggX5_isPing_X5_in
theorem dX5_isPing_0 : decode cX5_isPing 0 = .ok (.iload_n 1, 1) := by decide +kernel
theorem dX5_isPing_1 : decode cX5_isPing 1 = .ok (.i2l, 1) := by decide +kernel
theorem dX5_isPing_2 : decode cX5_isPing 2 = .ok (.lconst 0, 1) := by decide +kernel
theorem dX5_isPing_3 : decode cX5_isPing 3 = .ok (.aload_n 0, 1) := by decide +kernel
theorem dX5_isPing_4 : decode cX5_isPing 4 = .ok (.getfield 82, 3) := by decide +kernel
theorem dX5_isPing_7 : decode cX5_isPing 7 = .ok (.iconst 1, 1) := by decide +kernel
theorem dX5_isPing_8 : decode cX5_isPing 8 = .ok (.isub, 1) := by decide +kernel
theorem dX5_isPing_9 : decode cX5_isPing 9 = .ok (.i2l, 1) := by decide +kernel
theorem dX5_isPing_10 : decode cX5_isPing 10 = .ok (.invokestatic 58, 3) := by decide +kernel
theorem dX5_isPing_13 : decode cX5_isPing 13 = .ok (.ireturn, 1) := by decide +kernel
set_option maxRecDepth 20000 in
theorem ggX5_mend_X5_isPing : GoodIn wsX5_mend wsX5_isPing := goodIn_r _ [7, 8, 9, 10, 6, 11, 12, 13, 14, 15, 16, 17, 18, 19, 20, 21, 22, 23, 24, 25, 26, 27, 28, 29, 30, 31, 32, 33, 34, 35, 36, 37, 38, 39, 40, 41, 42] (by decide +kernel) (by decide +kernel)
set_option maxRecDepth 20000 in
theorem gX5_mend_X5_isPing : GoodIn wsX5_mend (wsV RX5 91 RX5 yX5_isPing wsX5_isPing) := goodIn_app (goodIn_of _ (by decide +kernel)) ggX5_mend_X5_isPing
set_option maxRecDepth 20000 in
theorem ggX5_mend_X5_in : GoodIn wsX5_mend wsX5_in := goodIn_r _ [11] (by decide +kernel) (by decide +kernel)
set_option maxRecDepth 20000 in
theorem gX5_mend_X5_in : GoodIn wsX5_mend (va_wsS RX5 58 yX5_in wsX5_in) := goodIn_app (goodIn_of _ (by decide +kernel)) ggX5_mend_X5_in
theorem dX5_mend_0 : decode cX5_mend 0 = .ok (.aload_n 0, 1) := by decide +kernel
theorem dX5_mend_1 : decode cX5_mend 1 = .ok (.iload_n 1, 1) := by decide +kernel
theorem dX5_mend_2 : decode cX5_mend 2 = .ok (.invokevirtual 91, 3) := by decide +kernel
theorem dX5_mend_5 : decode cX5_mend 5 = .ok (.ifCond .eq 15, 3) := by decide +kernel
theorem dX5_mend_8 : decode cX5_mend 8 = .ok (.iload_n 2, 1) := by decide +kernel
theorem dX5_mend_9 : decode cX5_mend 9 = .ok (.i2l, 1) := by decide +kernel
theorem dX5_mend_10 : decode cX5_mend 10 = .ok (.lconst 0, 1) := by decide +kernel
theorem dX5_mend_11 : decode cX5_mend 11 = .ok (.ldc2_w 85, 3) := by decide +kernel
theorem dX5_mend_14 : decode cX5_mend 14 = .ok (.invokestatic 58, 3) := by decide +kernel
theorem dX5_mend_17 : decode cX5_mend 17 = .ok (.ifCond .ne 6, 3) := by decide +kernel
theorem dX5_mend_20 : decode cX5_mend 20 = .ok (.bipush (-2), 2) := by decide +kernel
theorem dX5_mend_22 : decode cX5_mend 22 = .ok (.ireturn, 1) := by decide +kernel
theorem dX5_mend_23 : decode cX5_mend 23 = .ok (.aload_n 0, 1) := by decide +kernel
theorem dX5_mend_24 : decode cX5_mend 24 = .ok (.getfield 32, 3) := by decide +kernel
theorem dX5_mend_27 : decode cX5_mend 27 = .ok (.iload_n 1, 1) := by decide +kernel
theorem dX5_mend_28 : decode cX5_mend 28 = .ok (.iaload, 1) := by decide +kernel
theorem dX5_mend_29 : decode cX5_mend 29 = .ok (.istore_n 3, 1) := by decide +kernel
theorem dX5_mend_30 : decode cX5_mend 30 = .ok (.aload_n 0, 1) := by decide +kernel
theorem dX5_mend_31 : decode cX5_mend 31 = .ok (.getfield 32, 3) := by decide +kernel
theorem dX5_mend_34 : decode cX5_mend 34 = .ok (.iload_n 1, 1) := by decide +kernel
theorem dX5_mend_35 : decode cX5_mend 35 = .ok (.iload_n 2, 1) := by decide +kernel
theorem dX5_mend_36 : decode cX5_mend 36 = .ok (.iastore, 1) := by decide +kernel
theorem dX5_mend_37 : decode cX5_mend 37 = .ok (.iload_n 3, 1) := by decide +kernel
theorem dX5_mend_38 : decode cX5_mend 38 = .ok (.ireturn, 1) := by decide +kernel
theorem dX5_clear_0 : decode cX5_clear 0 = .ok (.aload_n 0, 1) := by decide +kernel
theorem dX5_clear_1 : decode cX5_clear 1 = .ok (.getfield 82, 3) := by decide +kernel
theorem dX5_clear_4 : decode cX5_clear 4 = .ok (.istore_n 1, 1) := by decide +kernel
theorem dX5_clear_5 : decode cX5_clear 5 = .ok (.aload_n 0, 1) := by decide +kernel
theorem dX5_clear_6 : decode cX5_clear 6 = .ok (.iconst 0, 1) := by decide +kernel
theorem dX5_clear_7 : decode cX5_clear 7 = .ok (.putfield 82, 3) := by decide +kernel
theorem dX5_clear_10 : decode cX5_clear 10 = .ok (.iload_n 1, 1) := by decide +kernel
theorem dX5_clear_11 : decode cX5_clear 11 = .ok (.ireturn, 1) := by decide +kernel
set_option maxRecDepth 20000 in
theorem ggX5_about_X5_isPing : GoodIn wsX5_about wsX5_isPing := goodIn_r _ [10, 11, 12, 13, 9, 14, 54, 55, 56, 57, 58, 59, 60, 61, 62, 63, 64, 65, 66, 67, 68, 69, 70, 71, 72, 73, 74, 75, 76, 77, 78, 79, 80, 81, 82, 83, 84] (by decide +kernel) (by decide +kernel)
set_option maxRecDepth 20000 in
theorem gX5_about_X5_isPing : GoodIn wsX5_about (wsV RX5 91 RX5 yX5_isPing wsX5_isPing) := goodIn_app (goodIn_of _ (by decide +kernel)) ggX5_about_X5_isPing
set_option maxRecDepth 20000 in
theorem ggX5_about_X5_findOwn : GoodIn wsX5_about wsX5_findOwn := goodIn_r _ [18, 19, 20, 21, 22, 23, 11, 24, 3, 4, 25, 26, 27, 9, 28, 29, 30, 31, 32, 33, 34, 35, 36, 37, 38, 39, 40, 41, 42, 43, 44, 45, 46, 47, 2, 48, 49, 50, 51, 52, 53, 54, 55, 56, 57, 58, 59, 60, 61, 62, 63, 64, 65, 66, 67, 68, 69, 70, 71, 72, 73, 74, 75, 76, 77, 78, 79, 80, 81, 82, 83, 84] (by decide +kernel) (by decide +kernel)
set_option maxRecDepth 20000 in
theorem gX5_about_X5_findOwn : GoodIn wsX5_about (wsV RX5 94 RX5 yX5_findOwn wsX5_findOwn) := goodIn_app (goodIn_of _ (by decide +kernel)) ggX5_about_X5_findOwn
theorem dX5_about_0 : decode cX5_about 0 = .ok (.aload_n 0, 1) := by decide +kernel
theorem dX5_about_1 : decode cX5_about 1 = .ok (.iload_n 1, 1) := by decide +kernel
theorem dX5_about_2 : decode cX5_about 2 = .ok (.invokevirtual 91, 3) := by decide +kernel
theorem dX5_about_5 : decode cX5_about 5 = .ok (.ifCond .ne 6, 3) := by decide +kernel
theorem dX5_about_8 : decode cX5_about 8 = .ok (.ldc 76, 2) := by decide +kernel
theorem dX5_about_10 : decode cX5_about 10 = .ok (.ireturn, 1) := by decide +kernel
theorem dX5_about_11 : decode cX5_about 11 = .ok (.iload_n 2, 1) := by decide +kernel
theorem dX5_about_12 : decode cX5_about 12 = .ok (.tableswitch 78 0 4 #[36, 43, 50, 57, 64], 36) := by decide +kernel
theorem dX5_about_48 : decode cX5_about 48 = .ok (.aload_n 0, 1) := by decide +kernel
theorem dX5_about_49 : decode cX5_about 49 = .ok (.getfield 32, 3) := by decide +kernel
theorem dX5_about_52 : decode cX5_about 52 = .ok (.iload_n 1, 1) := by decide +kernel
theorem dX5_about_53 : decode cX5_about 53 = .ok (.iaload, 1) := by decide +kernel
theorem dX5_about_54 : decode cX5_about 54 = .ok (.ireturn, 1) := by decide +kernel
theorem dX5_about_55 : decode cX5_about 55 = .ok (.aload_n 0, 1) := by decide +kernel
theorem dX5_about_56 : decode cX5_about 56 = .ok (.getfield 35, 3) := by decide +kernel
theorem dX5_about_59 : decode cX5_about 59 = .ok (.iload_n 1, 1) := by decide +kernel
theorem dX5_about_60 : decode cX5_about 60 = .ok (.iaload, 1) := by decide +kernel
theorem dX5_about_61 : decode cX5_about 61 = .ok (.ireturn, 1) := by decide +kernel
theorem dX5_about_62 : decode cX5_about 62 = .ok (.aload_n 0, 1) := by decide +kernel
theorem dX5_about_63 : decode cX5_about 63 = .ok (.getfield 38, 3) := by decide +kernel
theorem dX5_about_66 : decode cX5_about 66 = .ok (.iload_n 1, 1) := by decide +kernel
theorem dX5_about_67 : decode cX5_about 67 = .ok (.iaload, 1) := by decide +kernel
theorem dX5_about_68 : decode cX5_about 68 = .ok (.ireturn, 1) := by decide +kernel
theorem dX5_about_69 : decode cX5_about 69 = .ok (.aload_n 0, 1) := by decide +kernel
theorem dX5_about_70 : decode cX5_about 70 = .ok (.getfield 41, 3) := by decide +kernel
theorem dX5_about_73 : decode cX5_about 73 = .ok (.iload_n 1, 1) := by decide +kernel
theorem dX5_about_74 : decode cX5_about 74 = .ok (.iaload, 1) := by decide +kernel
theorem dX5_about_75 : decode cX5_about 75 = .ok (.ireturn, 1) := by decide +kernel
theorem dX5_about_76 : decode cX5_about 76 = .ok (.aload_n 0, 1) := by decide +kernel
theorem dX5_about_77 : decode cX5_about 77 = .ok (.iload_n 1, 1) := by decide +kernel
theorem dX5_about_78 : decode cX5_about 78 = .ok (.invokevirtual 94, 3) := by decide +kernel
theorem dX5_about_81 : decode cX5_about 81 = .ok (.ifCond .eq 7, 3) := by decide +kernel
theorem dX5_about_84 : decode cX5_about 84 = .ok (.iconst 1, 1) := by decide +kernel
theorem dX5_about_85 : decode cX5_about 85 = .ok (.goto 4, 3) := by decide +kernel
theorem dX5_about_88 : decode cX5_about 88 = .ok (.iconst 0, 1) := by decide +kernel
theorem dX5_about_89 : decode cX5_about 89 = .ok (.ireturn, 1) := by decide +kernel
theorem dX5_about_90 : decode cX5_about 90 = .ok (.ldc 76, 2) := by decide +kernel
theorem dX5_about_92 : decode cX5_about 92 = .ok (.ireturn, 1) := by decide +kernel
theorem dX5_turn_0 : decode cX5_turn 0 = .ok (.aload_n 0, 1) := by decide +kernel
theorem dX5_turn_1 : decode cX5_turn 1 = .ok (.getfield 7, 3) := by decide +kernel
theorem dX5_turn_4 : decode cX5_turn 4 = .ok (.iload 5, 2) := by decide +kernel
theorem dX5_turn_6 : decode cX5_turn 6 = .ok (.bipush 9, 2) := by decide +kernel
theorem dX5_turn_8 : decode cX5_turn 8 = .ok (.irem, 1) := by decide +kernel
theorem dX5_turn_9 : decode cX5_turn 9 = .ok (.iaload, 1) := by decide +kernel
theorem dX5_turn_10 : decode cX5_turn 10 = .ok (.i2l, 1) := by decide +kernel
theorem dX5_turn_11 : decode cX5_turn 11 = .ok (.lstore 6, 2) := by decide +kernel
theorem dX5_turn_13 : decode cX5_turn 13 = .ok (.aload_n 0, 1) := by decide +kernel
theorem dX5_turn_14 : decode cX5_turn 14 = .ok (.getfield 13, 3) := by decide +kernel
theorem dX5_turn_17 : decode cX5_turn 17 = .ok (.iload 5, 2) := by decide +kernel
theorem dX5_turn_19 : decode cX5_turn 19 = .ok (.bipush 9, 2) := by decide +kernel
theorem dX5_turn_21 : decode cX5_turn 21 = .ok (.irem, 1) := by decide +kernel
theorem dX5_turn_22 : decode cX5_turn 22 = .ok (.iaload, 1) := by decide +kernel
theorem dX5_turn_23 : decode cX5_turn 23 = .ok (.i2l, 1) := by decide +kernel
theorem dX5_turn_24 : decode cX5_turn 24 = .ok (.lstore 8, 2) := by decide +kernel
theorem dX5_turn_26 : decode cX5_turn 26 = .ok (.iconst 0, 1) := by decide +kernel
theorem dX5_turn_27 : decode cX5_turn 27 = .ok (.istore 10, 2) := by decide +kernel
theorem dX5_turn_29 : decode cX5_turn 29 = .ok (.iload 10, 2) := by decide +kernel
theorem dX5_turn_31 : decode cX5_turn 31 = .ok (.iload 5, 2) := by decide +kernel
theorem dX5_turn_33 : decode cX5_turn 33 = .ok (.bipush 9, 2) := by decide +kernel
theorem dX5_turn_35 : decode cX5_turn 35 = .ok (.idiv, 1) := by decide +kernel
theorem dX5_turn_36 : decode cX5_turn 36 = .ok (.if_icmp .ge 22, 3) := by decide +kernel
theorem dX5_turn_39 : decode cX5_turn 39 = .ok (.lload 6, 2) := by decide +kernel
theorem dX5_turn_41 : decode cX5_turn 41 = .ok (.lstore 11, 2) := by decide +kernel
theorem dX5_turn_43 : decode cX5_turn 43 = .ok (.lload 8, 2) := by decide +kernel
theorem dX5_turn_45 : decode cX5_turn 45 = .ok (.lneg, 1) := by decide +kernel
theorem dX5_turn_46 : decode cX5_turn 46 = .ok (.lstore 6, 2) := by decide +kernel
theorem dX5_turn_48 : decode cX5_turn 48 = .ok (.lload 11, 2) := by decide +kernel
theorem dX5_turn_50 : decode cX5_turn 50 = .ok (.lstore 8, 2) := by decide +kernel
theorem dX5_turn_52 : decode cX5_turn 52 = .ok (.iinc 10 1, 3) := by decide +kernel
theorem dX5_turn_55 : decode cX5_turn 55 = .ok (.goto (-26), 3) := by decide +kernel
theorem dX5_turn_58 : decode cX5_turn 58 = .ok (.aload_n 0, 1) := by decide +kernel
theorem dX5_turn_59 : decode cX5_turn 59 = .ok (.lload 6, 2) := by decide +kernel
theorem dX5_turn_61 : decode cX5_turn 61 = .ok (.lload_n 1, 1) := by decide +kernel
theorem dX5_turn_62 : decode cX5_turn 62 = .ok (.lmul, 1) := by decide +kernel
theorem dX5_turn_63 : decode cX5_turn 63 = .ok (.lload 8, 2) := by decide +kernel
theorem dX5_turn_65 : decode cX5_turn 65 = .ok (.lload_n 3, 1) := by decide +kernel
theorem dX5_turn_66 : decode cX5_turn 66 = .ok (.lmul, 1) := by decide +kernel
theorem dX5_turn_67 : decode cX5_turn 67 = .ok (.lsub, 1) := by decide +kernel
theorem dX5_turn_68 : decode cX5_turn 68 = .ok (.putfield 97, 3) := by decide +kernel
theorem dX5_turn_71 : decode cX5_turn 71 = .ok (.aload_n 0, 1) := by decide +kernel
theorem dX5_turn_72 : decode cX5_turn 72 = .ok (.lload 8, 2) := by decide +kernel
theorem dX5_turn_74 : decode cX5_turn 74 = .ok (.lload_n 1, 1) := by decide +kernel
theorem dX5_turn_75 : decode cX5_turn 75 = .ok (.lmul, 1) := by decide +kernel
theorem dX5_turn_76 : decode cX5_turn 76 = .ok (.lload 6, 2) := by decide +kernel
theorem dX5_turn_78 : decode cX5_turn 78 = .ok (.lload_n 3, 1) := by decide +kernel
theorem dX5_turn_79 : decode cX5_turn 79 = .ok (.lmul, 1) := by decide +kernel
theorem dX5_turn_80 : decode cX5_turn 80 = .ok (.ladd, 1) := by decide +kernel
theorem dX5_turn_81 : decode cX5_turn 81 = .ok (.putfield 101, 3) := by decide +kernel
theorem dX5_turn_84 : decode cX5_turn 84 = .ok (.return_, 1) := by decide +kernel
set_option maxRecDepth 20000 in
theorem ggX5_turned_X5_in : GoodIn wsX5_turned wsX5_in := goodIn_r _ [10] (by decide +kernel) (by decide +kernel)
set_option maxRecDepth 20000 in
theorem gX5_turned_X5_in : GoodIn wsX5_turned (va_wsS RX5 58 yX5_in wsX5_in) := goodIn_app (goodIn_of _ (by decide +kernel)) ggX5_turned_X5_in
set_option maxRecDepth 20000 in
theorem ggX5_turned_X5_turn : GoodIn wsX5_turned wsX5_turn := goodIn_r _ [14, 15, 16, 5, 6, 17, 18, 19, 20, 21, 22, 23, 24, 25, 26, 27, 28, 29, 30, 31, 32, 33, 34, 35, 36, 37, 38, 39, 40, 41, 42, 43, 44, 45, 46, 47] (by decide +kernel) (by decide +kernel)
set_option maxRecDepth 20000 in
theorem gX5_turned_X5_turn : GoodIn wsX5_turned (wsV RX5 104 RX5 yX5_turn wsX5_turn) := goodIn_app (goodIn_of _ (by decide +kernel)) ggX5_turned_X5_turn
theorem dX5_turned_0 : decode cX5_turned 0 = .ok (.iload_n 1, 1) := by decide +kernel
theorem dX5_turned_1 : decode cX5_turned 1 = .ok (.i2l, 1) := by decide +kernel
theorem dX5_turned_2 : decode cX5_turned 2 = .ok (.ldc2_w 87, 3) := by decide +kernel
theorem dX5_turned_5 : decode cX5_turned 5 = .ok (.ldc2_w 89, 3) := by decide +kernel
theorem dX5_turned_8 : decode cX5_turned 8 = .ok (.invokestatic 58, 3) := by decide +kernel
theorem dX5_turned_11 : decode cX5_turned 11 = .ok (.ifCond .eq 40, 3) := by decide +kernel
theorem dX5_turned_14 : decode cX5_turned 14 = .ok (.iload_n 2, 1) := by decide +kernel
theorem dX5_turned_15 : decode cX5_turned 15 = .ok (.i2l, 1) := by decide +kernel
theorem dX5_turned_16 : decode cX5_turned 16 = .ok (.ldc2_w 87, 3) := by decide +kernel
theorem dX5_turned_19 : decode cX5_turned 19 = .ok (.ldc2_w 89, 3) := by decide +kernel
theorem dX5_turned_22 : decode cX5_turned 22 = .ok (.invokestatic 58, 3) := by decide +kernel
theorem dX5_turned_25 : decode cX5_turned 25 = .ok (.ifCond .eq 26, 3) := by decide +kernel
theorem dX5_turned_28 : decode cX5_turned 28 = .ok (.iload_n 3, 1) := by decide +kernel
theorem dX5_turned_29 : decode cX5_turned 29 = .ok (.i2l, 1) := by decide +kernel
theorem dX5_turned_30 : decode cX5_turned 30 = .ok (.lconst 0, 1) := by decide +kernel
theorem dX5_turned_31 : decode cX5_turned 31 = .ok (.ldc2_w 85, 3) := by decide +kernel
theorem dX5_turned_34 : decode cX5_turned 34 = .ok (.invokestatic 58, 3) := by decide +kernel
theorem dX5_turned_37 : decode cX5_turned 37 = .ok (.ifCond .eq 14, 3) := by decide +kernel
theorem dX5_turned_40 : decode cX5_turned 40 = .ok (.iload 4, 2) := by decide +kernel
theorem dX5_turned_42 : decode cX5_turned 42 = .ok (.i2l, 1) := by decide +kernel
theorem dX5_turned_43 : decode cX5_turned 43 = .ok (.lconst 0, 1) := by decide +kernel
theorem dX5_turned_44 : decode cX5_turned 44 = .ok (.lconst 1, 1) := by decide +kernel
theorem dX5_turned_45 : decode cX5_turned 45 = .ok (.invokestatic 58, 3) := by decide +kernel
theorem dX5_turned_48 : decode cX5_turned 48 = .ok (.ifCond .ne 6, 3) := by decide +kernel
theorem dX5_turned_51 : decode cX5_turned 51 = .ok (.ldc 76, 2) := by decide +kernel
theorem dX5_turned_53 : decode cX5_turned 53 = .ok (.ireturn, 1) := by decide +kernel
theorem dX5_turned_54 : decode cX5_turned 54 = .ok (.aload_n 0, 1) := by decide +kernel
theorem dX5_turned_55 : decode cX5_turned 55 = .ok (.iload_n 1, 1) := by decide +kernel
theorem dX5_turned_56 : decode cX5_turned 56 = .ok (.i2l, 1) := by decide +kernel
theorem dX5_turned_57 : decode cX5_turned 57 = .ok (.iload_n 2, 1) := by decide +kernel
theorem dX5_turned_58 : decode cX5_turned 58 = .ok (.i2l, 1) := by decide +kernel
theorem dX5_turned_59 : decode cX5_turned 59 = .ok (.iload_n 3, 1) := by decide +kernel
theorem dX5_turned_60 : decode cX5_turned 60 = .ok (.invokevirtual 104, 3) := by decide +kernel
theorem dX5_turned_63 : decode cX5_turned 63 = .ok (.iload 4, 2) := by decide +kernel
theorem dX5_turned_65 : decode cX5_turned 65 = .ok (.ifCond .ne 10, 3) := by decide +kernel
theorem dX5_turned_68 : decode cX5_turned 68 = .ok (.aload_n 0, 1) := by decide +kernel
theorem dX5_turned_69 : decode cX5_turned 69 = .ok (.getfield 97, 3) := by decide +kernel
theorem dX5_turned_72 : decode cX5_turned 72 = .ok (.goto 7, 3) := by decide +kernel
theorem dX5_turned_75 : decode cX5_turned 75 = .ok (.aload_n 0, 1) := by decide +kernel
theorem dX5_turned_76 : decode cX5_turned 76 = .ok (.getfield 101, 3) := by decide +kernel
theorem dX5_turned_79 : decode cX5_turned 79 = .ok (.l2i, 1) := by decide +kernel
theorem dX5_turned_80 : decode cX5_turned 80 = .ok (.ireturn, 1) := by decide +kernel
theorem dX5_answers_0 : decode cX5_answers 0 = .ok (.aload_n 0, 1) := by decide +kernel
theorem dX5_answers_1 : decode cX5_answers 1 = .ok (.iload_n 1, 1) := by decide +kernel
theorem dX5_answers_2 : decode cX5_answers 2 = .ok (.bipush (-128), 2) := by decide +kernel
theorem dX5_answers_4 : decode cX5_answers 4 = .ok (.if_icmp .ne 7, 3) := by decide +kernel
theorem dX5_answers_7 : decode cX5_answers 7 = .ok (.iconst 1, 1) := by decide +kernel
theorem dX5_answers_8 : decode cX5_answers 8 = .ok (.goto 4, 3) := by decide +kernel
theorem dX5_answers_11 : decode cX5_answers 11 = .ok (.iconst 0, 1) := by decide +kernel
theorem dX5_answers_12 : decode cX5_answers 12 = .ok (.iload_n 2, 1) := by decide +kernel
theorem dX5_answers_13 : decode cX5_answers 13 = .ok (.bipush (-128), 2) := by decide +kernel
theorem dX5_answers_15 : decode cX5_answers 15 = .ok (.if_icmp .ne 7, 3) := by decide +kernel
theorem dX5_answers_18 : decode cX5_answers 18 = .ok (.iconst 1, 1) := by decide +kernel
theorem dX5_answers_19 : decode cX5_answers 19 = .ok (.goto 4, 3) := by decide +kernel
theorem dX5_answers_22 : decode cX5_answers 22 = .ok (.iconst 0, 1) := by decide +kernel
theorem dX5_answers_23 : decode cX5_answers 23 = .ok (.iadd, 1) := by decide +kernel
theorem dX5_answers_24 : decode cX5_answers 24 = .ok (.iload_n 3, 1) := by decide +kernel
theorem dX5_answers_25 : decode cX5_answers 25 = .ok (.bipush (-128), 2) := by decide +kernel
theorem dX5_answers_27 : decode cX5_answers 27 = .ok (.if_icmp .ne 7, 3) := by decide +kernel
theorem dX5_answers_30 : decode cX5_answers 30 = .ok (.iconst 1, 1) := by decide +kernel
theorem dX5_answers_31 : decode cX5_answers 31 = .ok (.goto 4, 3) := by decide +kernel
theorem dX5_answers_34 : decode cX5_answers 34 = .ok (.iconst 0, 1) := by decide +kernel
theorem dX5_answers_35 : decode cX5_answers 35 = .ok (.iadd, 1) := by decide +kernel
theorem dX5_answers_36 : decode cX5_answers 36 = .ok (.iload 4, 2) := by decide +kernel
theorem dX5_answers_38 : decode cX5_answers 38 = .ok (.bipush (-128), 2) := by decide +kernel
theorem dX5_answers_40 : decode cX5_answers 40 = .ok (.if_icmp .ne 7, 3) := by decide +kernel
theorem dX5_answers_43 : decode cX5_answers 43 = .ok (.iconst 1, 1) := by decide +kernel
theorem dX5_answers_44 : decode cX5_answers 44 = .ok (.goto 4, 3) := by decide +kernel
theorem dX5_answers_47 : decode cX5_answers 47 = .ok (.iconst 0, 1) := by decide +kernel
theorem dX5_answers_48 : decode cX5_answers 48 = .ok (.iadd, 1) := by decide +kernel
theorem dX5_answers_49 : decode cX5_answers 49 = .ok (.putfield 108, 3) := by decide +kernel
theorem dX5_answers_52 : decode cX5_answers 52 = .ok (.aload_n 0, 1) := by decide +kernel
theorem dX5_answers_53 : decode cX5_answers 53 = .ok (.getfield 108, 3) := by decide +kernel
theorem dX5_answers_56 : decode cX5_answers 56 = .ok (.iconst 1, 1) := by decide +kernel
theorem dX5_answers_57 : decode cX5_answers 57 = .ok (.if_icmp .le 5, 3) := by decide +kernel
theorem dX5_answers_60 : decode cX5_answers 60 = .ok (.iconst 0, 1) := by decide +kernel
theorem dX5_answers_61 : decode cX5_answers 61 = .ok (.ireturn, 1) := by decide +kernel
theorem dX5_answers_62 : decode cX5_answers 62 = .ok (.iload_n 1, 1) := by decide +kernel
theorem dX5_answers_63 : decode cX5_answers 63 = .ok (.bipush (-128), 2) := by decide +kernel
theorem dX5_answers_65 : decode cX5_answers 65 = .ok (.if_icmp .ne 12, 3) := by decide +kernel
theorem dX5_answers_68 : decode cX5_answers 68 = .ok (.iload_n 3, 1) := by decide +kernel
theorem dX5_answers_69 : decode cX5_answers 69 = .ok (.iload 4, 2) := by decide +kernel
theorem dX5_answers_71 : decode cX5_answers 71 = .ok (.iadd, 1) := by decide +kernel
theorem dX5_answers_72 : decode cX5_answers 72 = .ok (.iload_n 2, 1) := by decide +kernel
theorem dX5_answers_73 : decode cX5_answers 73 = .ok (.isub, 1) := by decide +kernel
theorem dX5_answers_74 : decode cX5_answers 74 = .ok (.goto 4, 3) := by decide +kernel
theorem dX5_answers_77 : decode cX5_answers 77 = .ok (.iload_n 1, 1) := by decide +kernel
theorem dX5_answers_78 : decode cX5_answers 78 = .ok (.istore 5, 2) := by decide +kernel
theorem dX5_answers_80 : decode cX5_answers 80 = .ok (.iload_n 2, 1) := by decide +kernel
theorem dX5_answers_81 : decode cX5_answers 81 = .ok (.bipush (-128), 2) := by decide +kernel
theorem dX5_answers_83 : decode cX5_answers 83 = .ok (.if_icmp .ne 12, 3) := by decide +kernel
theorem dX5_answers_86 : decode cX5_answers 86 = .ok (.iload_n 3, 1) := by decide +kernel
theorem dX5_answers_87 : decode cX5_answers 87 = .ok (.iload 4, 2) := by decide +kernel
theorem dX5_answers_89 : decode cX5_answers 89 = .ok (.iadd, 1) := by decide +kernel
theorem dX5_answers_90 : decode cX5_answers 90 = .ok (.iload_n 1, 1) := by decide +kernel
theorem dX5_answers_91 : decode cX5_answers 91 = .ok (.isub, 1) := by decide +kernel
theorem dX5_answers_92 : decode cX5_answers 92 = .ok (.goto 4, 3) := by decide +kernel
theorem dX5_answers_95 : decode cX5_answers 95 = .ok (.iload_n 2, 1) := by decide +kernel
theorem dX5_answers_96 : decode cX5_answers 96 = .ok (.istore 6, 2) := by decide +kernel
theorem dX5_answers_98 : decode cX5_answers 98 = .ok (.iload_n 3, 1) := by decide +kernel
theorem dX5_answers_99 : decode cX5_answers 99 = .ok (.bipush (-128), 2) := by decide +kernel
theorem dX5_answers_101 : decode cX5_answers 101 = .ok (.if_icmp .ne 12, 3) := by decide +kernel
theorem dX5_answers_104 : decode cX5_answers 104 = .ok (.iload_n 1, 1) := by decide +kernel
theorem dX5_answers_105 : decode cX5_answers 105 = .ok (.iload_n 2, 1) := by decide +kernel
theorem dX5_answers_106 : decode cX5_answers 106 = .ok (.iadd, 1) := by decide +kernel
theorem dX5_answers_107 : decode cX5_answers 107 = .ok (.iload 4, 2) := by decide +kernel
theorem dX5_answers_109 : decode cX5_answers 109 = .ok (.isub, 1) := by decide +kernel
theorem dX5_answers_110 : decode cX5_answers 110 = .ok (.goto 4, 3) := by decide +kernel
theorem dX5_answers_113 : decode cX5_answers 113 = .ok (.iload_n 3, 1) := by decide +kernel
theorem dX5_answers_114 : decode cX5_answers 114 = .ok (.istore 7, 2) := by decide +kernel
theorem dX5_answers_116 : decode cX5_answers 116 = .ok (.iload 4, 2) := by decide +kernel
theorem dX5_answers_118 : decode cX5_answers 118 = .ok (.bipush (-128), 2) := by decide +kernel
theorem dX5_answers_120 : decode cX5_answers 120 = .ok (.if_icmp .ne 11, 3) := by decide +kernel
theorem dX5_answers_123 : decode cX5_answers 123 = .ok (.iload_n 1, 1) := by decide +kernel
theorem dX5_answers_124 : decode cX5_answers 124 = .ok (.iload_n 2, 1) := by decide +kernel
theorem dX5_answers_125 : decode cX5_answers 125 = .ok (.iadd, 1) := by decide +kernel
theorem dX5_answers_126 : decode cX5_answers 126 = .ok (.iload_n 3, 1) := by decide +kernel
theorem dX5_answers_127 : decode cX5_answers 127 = .ok (.isub, 1) := by decide +kernel
theorem dX5_answers_128 : decode cX5_answers 128 = .ok (.goto 5, 3) := by decide +kernel
theorem dX5_answers_131 : decode cX5_answers 131 = .ok (.iload 4, 2) := by decide +kernel
theorem dX5_answers_133 : decode cX5_answers 133 = .ok (.istore 8, 2) := by decide +kernel
theorem dX5_answers_135 : decode cX5_answers 135 = .ok (.aload_n 0, 1) := by decide +kernel
theorem dX5_answers_136 : decode cX5_answers 136 = .ok (.iload 5, 2) := by decide +kernel
theorem dX5_answers_138 : decode cX5_answers 138 = .ok (.iload 6, 2) := by decide +kernel
theorem dX5_answers_140 : decode cX5_answers 140 = .ok (.isub, 1) := by decide +kernel
theorem dX5_answers_141 : decode cX5_answers 141 = .ok (.putfield 111, 3) := by decide +kernel
theorem dX5_answers_144 : decode cX5_answers 144 = .ok (.aload_n 0, 1) := by decide +kernel
theorem dX5_answers_145 : decode cX5_answers 145 = .ok (.iload 7, 2) := by decide +kernel
theorem dX5_answers_147 : decode cX5_answers 147 = .ok (.iload 8, 2) := by decide +kernel
theorem dX5_answers_149 : decode cX5_answers 149 = .ok (.isub, 1) := by decide +kernel
theorem dX5_answers_150 : decode cX5_answers 150 = .ok (.putfield 114, 3) := by decide +kernel
theorem dX5_answers_153 : decode cX5_answers 153 = .ok (.aload_n 0, 1) := by decide +kernel
theorem dX5_answers_154 : decode cX5_answers 154 = .ok (.iload 5, 2) := by decide +kernel
theorem dX5_answers_156 : decode cX5_answers 156 = .ok (.iload 6, 2) := by decide +kernel
theorem dX5_answers_158 : decode cX5_answers 158 = .ok (.iadd, 1) := by decide +kernel
theorem dX5_answers_159 : decode cX5_answers 159 = .ok (.iload 7, 2) := by decide +kernel
theorem dX5_answers_161 : decode cX5_answers 161 = .ok (.isub, 1) := by decide +kernel
theorem dX5_answers_162 : decode cX5_answers 162 = .ok (.iload 8, 2) := by decide +kernel
theorem dX5_answers_164 : decode cX5_answers 164 = .ok (.isub, 1) := by decide +kernel
theorem dX5_answers_165 : decode cX5_answers 165 = .ok (.putfield 117, 3) := by decide +kernel
theorem dX5_answers_168 : decode cX5_answers 168 = .ok (.iconst 1, 1) := by decide +kernel
theorem dX5_answers_169 : decode cX5_answers 169 = .ok (.ireturn, 1) := by decide +kernel
set_option maxRecDepth 20000 in
theorem ggX5_answer_X5_in : GoodIn wsX5_answer wsX5_in := goodIn_r _ [10] (by decide +kernel) (by decide +kernel)
set_option maxRecDepth 20000 in
theorem gX5_answer_X5_in : GoodIn wsX5_answer (va_wsS RX5 58 yX5_in wsX5_in) := goodIn_app (goodIn_of _ (by decide +kernel)) ggX5_answer_X5_in
set_option maxRecDepth 20000 in
theorem ggX5_answer_X5_told : GoodIn wsX5_answer wsX5_told := goodIn_r _ [13] (by decide +kernel) (by decide +kernel)
set_option maxRecDepth 20000 in
theorem gX5_answer_X5_told : GoodIn wsX5_answer (va_wsS RX5 77 yX5_told wsX5_told) := goodIn_app (goodIn_of _ (by decide +kernel)) ggX5_answer_X5_told
set_option maxRecDepth 20000 in
theorem ggX5_answer_X5_answers : GoodIn wsX5_answer wsX5_answers := goodIn_r _ [17, 6, 3, 4, 5, 18, 19, 20, 21, 22, 23, 24, 25, 26, 27, 28, 29, 30, 31, 32, 33, 34, 35, 36, 37, 38, 39, 40, 41, 42, 43, 44, 45, 46, 47, 48] (by decide +kernel) (by decide +kernel)
set_option maxRecDepth 20000 in
theorem gX5_answer_X5_answers : GoodIn wsX5_answer (wsV RX5 122 RX5 yX5_answers wsX5_answers) := goodIn_app (goodIn_of _ (by decide +kernel)) ggX5_answer_X5_answers
theorem dX5_answer_0 : decode cX5_answer 0 = .ok (.iload 5, 2) := by decide +kernel
theorem dX5_answer_2 : decode cX5_answer 2 = .ok (.i2l, 1) := by decide +kernel
theorem dX5_answer_3 : decode cX5_answer 3 = .ok (.lconst 0, 1) := by decide +kernel
theorem dX5_answer_4 : decode cX5_answer 4 = .ok (.ldc2_w 120, 3) := by decide +kernel
theorem dX5_answer_7 : decode cX5_answer 7 = .ok (.invokestatic 58, 3) := by decide +kernel
theorem dX5_answer_10 : decode cX5_answer 10 = .ok (.ifCond .eq 27, 3) := by decide +kernel
theorem dX5_answer_13 : decode cX5_answer 13 = .ok (.aload_n 0, 1) := by decide +kernel
theorem dX5_answer_14 : decode cX5_answer 14 = .ok (.iload_n 1, 1) := by decide +kernel
theorem dX5_answer_15 : decode cX5_answer 15 = .ok (.invokestatic 77, 3) := by decide +kernel
theorem dX5_answer_18 : decode cX5_answer 18 = .ok (.iload_n 2, 1) := by decide +kernel
theorem dX5_answer_19 : decode cX5_answer 19 = .ok (.invokestatic 77, 3) := by decide +kernel
theorem dX5_answer_22 : decode cX5_answer 22 = .ok (.iload_n 3, 1) := by decide +kernel
theorem dX5_answer_23 : decode cX5_answer 23 = .ok (.invokestatic 77, 3) := by decide +kernel
theorem dX5_answer_26 : decode cX5_answer 26 = .ok (.iload 4, 2) := by decide +kernel
theorem dX5_answer_28 : decode cX5_answer 28 = .ok (.invokestatic 77, 3) := by decide +kernel
theorem dX5_answer_31 : decode cX5_answer 31 = .ok (.invokevirtual 122, 3) := by decide +kernel
theorem dX5_answer_34 : decode cX5_answer 34 = .ok (.ifCond .ne 6, 3) := by decide +kernel
theorem dX5_answer_37 : decode cX5_answer 37 = .ok (.ldc 76, 2) := by decide +kernel
theorem dX5_answer_39 : decode cX5_answer 39 = .ok (.ireturn, 1) := by decide +kernel
theorem dX5_answer_40 : decode cX5_answer 40 = .ok (.iload 5, 2) := by decide +kernel
theorem dX5_answer_42 : decode cX5_answer 42 = .ok (.ifCond .ne 10, 3) := by decide +kernel
theorem dX5_answer_45 : decode cX5_answer 45 = .ok (.aload_n 0, 1) := by decide +kernel
theorem dX5_answer_46 : decode cX5_answer 46 = .ok (.getfield 111, 3) := by decide +kernel
theorem dX5_answer_49 : decode cX5_answer 49 = .ok (.goto 33, 3) := by decide +kernel
theorem dX5_answer_52 : decode cX5_answer 52 = .ok (.iload 5, 2) := by decide +kernel
theorem dX5_answer_54 : decode cX5_answer 54 = .ok (.iconst 1, 1) := by decide +kernel
theorem dX5_answer_55 : decode cX5_answer 55 = .ok (.if_icmp .ne 10, 3) := by decide +kernel
theorem dX5_answer_58 : decode cX5_answer 58 = .ok (.aload_n 0, 1) := by decide +kernel
theorem dX5_answer_59 : decode cX5_answer 59 = .ok (.getfield 114, 3) := by decide +kernel
theorem dX5_answer_62 : decode cX5_answer 62 = .ok (.goto 20, 3) := by decide +kernel
theorem dX5_answer_65 : decode cX5_answer 65 = .ok (.iload 5, 2) := by decide +kernel
theorem dX5_answer_67 : decode cX5_answer 67 = .ok (.iconst 2, 1) := by decide +kernel
theorem dX5_answer_68 : decode cX5_answer 68 = .ok (.if_icmp .ne 10, 3) := by decide +kernel
theorem dX5_answer_71 : decode cX5_answer 71 = .ok (.aload_n 0, 1) := by decide +kernel
theorem dX5_answer_72 : decode cX5_answer 72 = .ok (.getfield 117, 3) := by decide +kernel
theorem dX5_answer_75 : decode cX5_answer 75 = .ok (.goto 7, 3) := by decide +kernel
theorem dX5_answer_78 : decode cX5_answer 78 = .ok (.aload_n 0, 1) := by decide +kernel
theorem dX5_answer_79 : decode cX5_answer 79 = .ok (.getfield 108, 3) := by decide +kernel
theorem dX5_answer_82 : decode cX5_answer 82 = .ok (.ireturn, 1) := by decide +kernel
set_option maxRecDepth 20000 in
theorem ggX5_beam_X5_in : GoodIn wsX5_beam wsX5_in := goodIn_r _ [10] (by decide +kernel) (by decide +kernel)
set_option maxRecDepth 20000 in
theorem gX5_beam_X5_in : GoodIn wsX5_beam (va_wsS RX5 58 yX5_in wsX5_in) := goodIn_app (goodIn_of _ (by decide +kernel)) ggX5_beam_X5_in
theorem dX5_beam_0 : decode cX5_beam 0 = .ok (.iload_n 1, 1) := by decide +kernel
theorem dX5_beam_1 : decode cX5_beam 1 = .ok (.i2l, 1) := by decide +kernel
theorem dX5_beam_2 : decode cX5_beam 2 = .ok (.ldc2_w 126, 3) := by decide +kernel
theorem dX5_beam_5 : decode cX5_beam 5 = .ok (.ldc2_w 128, 3) := by decide +kernel
theorem dX5_beam_8 : decode cX5_beam 8 = .ok (.invokestatic 58, 3) := by decide +kernel
theorem dX5_beam_11 : decode cX5_beam 11 = .ok (.ifCond .eq 35, 3) := by decide +kernel
theorem dX5_beam_14 : decode cX5_beam 14 = .ok (.iload_n 2, 1) := by decide +kernel
theorem dX5_beam_15 : decode cX5_beam 15 = .ok (.i2l, 1) := by decide +kernel
theorem dX5_beam_16 : decode cX5_beam 16 = .ok (.ldc2_w 126, 3) := by decide +kernel
theorem dX5_beam_19 : decode cX5_beam 19 = .ok (.ldc2_w 128, 3) := by decide +kernel
theorem dX5_beam_22 : decode cX5_beam 22 = .ok (.invokestatic 58, 3) := by decide +kernel
theorem dX5_beam_25 : decode cX5_beam 25 = .ok (.ifCond .eq 21, 3) := by decide +kernel
theorem dX5_beam_28 : decode cX5_beam 28 = .ok (.iload_n 3, 1) := by decide +kernel
theorem dX5_beam_29 : decode cX5_beam 29 = .ok (.i2l, 1) := by decide +kernel
theorem dX5_beam_30 : decode cX5_beam 30 = .ok (.ldc2_w 126, 3) := by decide +kernel
theorem dX5_beam_33 : decode cX5_beam 33 = .ok (.ldc2_w 128, 3) := by decide +kernel
theorem dX5_beam_36 : decode cX5_beam 36 = .ok (.invokestatic 58, 3) := by decide +kernel
theorem dX5_beam_39 : decode cX5_beam 39 = .ok (.ifCond .eq 7, 3) := by decide +kernel
theorem dX5_beam_42 : decode cX5_beam 42 = .ok (.iconst 1, 1) := by decide +kernel
theorem dX5_beam_43 : decode cX5_beam 43 = .ok (.goto 4, 3) := by decide +kernel
theorem dX5_beam_46 : decode cX5_beam 46 = .ok (.iconst 0, 1) := by decide +kernel
theorem dX5_beam_47 : decode cX5_beam 47 = .ok (.istore 6, 2) := by decide +kernel
theorem dX5_beam_49 : decode cX5_beam 49 = .ok (.iload 6, 2) := by decide +kernel
theorem dX5_beam_51 : decode cX5_beam 51 = .ok (.ifCond .eq 31, 3) := by decide +kernel
theorem dX5_beam_54 : decode cX5_beam 54 = .ok (.iload 4, 2) := by decide +kernel
theorem dX5_beam_56 : decode cX5_beam 56 = .ok (.i2l, 1) := by decide +kernel
theorem dX5_beam_57 : decode cX5_beam 57 = .ok (.ldc2_w 87, 3) := by decide +kernel
theorem dX5_beam_60 : decode cX5_beam 60 = .ok (.ldc2_w 89, 3) := by decide +kernel
theorem dX5_beam_63 : decode cX5_beam 63 = .ok (.invokestatic 58, 3) := by decide +kernel
theorem dX5_beam_66 : decode cX5_beam 66 = .ok (.ifCond .eq 16, 3) := by decide +kernel
theorem dX5_beam_69 : decode cX5_beam 69 = .ok (.iload 5, 2) := by decide +kernel
theorem dX5_beam_71 : decode cX5_beam 71 = .ok (.i2l, 1) := by decide +kernel
theorem dX5_beam_72 : decode cX5_beam 72 = .ok (.lconst 0, 1) := by decide +kernel
theorem dX5_beam_73 : decode cX5_beam 73 = .ok (.ldc2_w 120, 3) := by decide +kernel
theorem dX5_beam_76 : decode cX5_beam 76 = .ok (.invokestatic 58, 3) := by decide +kernel
theorem dX5_beam_79 : decode cX5_beam 79 = .ok (.ifCond .ne 6, 3) := by decide +kernel
theorem dX5_beam_82 : decode cX5_beam 82 = .ok (.ldc 76, 2) := by decide +kernel
theorem dX5_beam_84 : decode cX5_beam 84 = .ok (.ireturn, 1) := by decide +kernel
theorem dX5_beam_85 : decode cX5_beam 85 = .ok (.iload 5, 2) := by decide +kernel
theorem dX5_beam_87 : decode cX5_beam 87 = .ok (.iconst 2, 1) := by decide +kernel
theorem dX5_beam_88 : decode cX5_beam 88 = .ok (.if_icmp .ge 10, 3) := by decide +kernel
theorem dX5_beam_91 : decode cX5_beam 91 = .ok (.iload 4, 2) := by decide +kernel
theorem dX5_beam_93 : decode cX5_beam 93 = .ok (.iload_n 3, 1) := by decide +kernel
theorem dX5_beam_94 : decode cX5_beam 94 = .ok (.iadd, 1) := by decide +kernel
theorem dX5_beam_95 : decode cX5_beam 95 = .ok (.goto 7, 3) := by decide +kernel
theorem dX5_beam_98 : decode cX5_beam 98 = .ok (.iload 4, 2) := by decide +kernel
theorem dX5_beam_100 : decode cX5_beam 100 = .ok (.iload_n 3, 1) := by decide +kernel
theorem dX5_beam_101 : decode cX5_beam 101 = .ok (.isub, 1) := by decide +kernel
theorem dX5_beam_102 : decode cX5_beam 102 = .ok (.istore 7, 2) := by decide +kernel
theorem dX5_beam_104 : decode cX5_beam 104 = .ok (.iload 5, 2) := by decide +kernel
theorem dX5_beam_106 : decode cX5_beam 106 = .ok (.iconst 2, 1) := by decide +kernel
theorem dX5_beam_107 : decode cX5_beam 107 = .ok (.if_icmp .ge 9, 3) := by decide +kernel
theorem dX5_beam_110 : decode cX5_beam 110 = .ok (.iconst 2, 1) := by decide +kernel
theorem dX5_beam_111 : decode cX5_beam 111 = .ok (.iload_n 1, 1) := by decide +kernel
theorem dX5_beam_112 : decode cX5_beam 112 = .ok (.imul, 1) := by decide +kernel
theorem dX5_beam_113 : decode cX5_beam 113 = .ok (.goto 6, 3) := by decide +kernel
theorem dX5_beam_116 : decode cX5_beam 116 = .ok (.iconst 2, 1) := by decide +kernel
theorem dX5_beam_117 : decode cX5_beam 117 = .ok (.iload_n 2, 1) := by decide +kernel
theorem dX5_beam_118 : decode cX5_beam 118 = .ok (.imul, 1) := by decide +kernel
theorem dX5_beam_119 : decode cX5_beam 119 = .ok (.istore 8, 2) := by decide +kernel
theorem dX5_beam_121 : decode cX5_beam 121 = .ok (.iload 5, 2) := by decide +kernel
theorem dX5_beam_123 : decode cX5_beam 123 = .ok (.iconst 2, 1) := by decide +kernel
theorem dX5_beam_124 : decode cX5_beam 124 = .ok (.irem, 1) := by decide +kernel
theorem dX5_beam_125 : decode cX5_beam 125 = .ok (.ifCond .ne 11, 3) := by decide +kernel
theorem dX5_beam_128 : decode cX5_beam 128 = .ok (.iload 7, 2) := by decide +kernel
theorem dX5_beam_130 : decode cX5_beam 130 = .ok (.iload 8, 2) := by decide +kernel
theorem dX5_beam_132 : decode cX5_beam 132 = .ok (.iadd, 1) := by decide +kernel
theorem dX5_beam_133 : decode cX5_beam 133 = .ok (.goto 8, 3) := by decide +kernel
theorem dX5_beam_136 : decode cX5_beam 136 = .ok (.iload 7, 2) := by decide +kernel
theorem dX5_beam_138 : decode cX5_beam 138 = .ok (.iload 8, 2) := by decide +kernel
theorem dX5_beam_140 : decode cX5_beam 140 = .ok (.isub, 1) := by decide +kernel
theorem dX5_beam_141 : decode cX5_beam 141 = .ok (.ireturn, 1) := by decide +kernel
set_option maxRecDepth 20000 in
theorem ggX5_motion_X5_in : GoodIn wsX5_motion wsX5_in := goodIn_r _ [6] (by decide +kernel) (by decide +kernel)
set_option maxRecDepth 20000 in
theorem gX5_motion_X5_in : GoodIn wsX5_motion (va_wsS RX5 58 yX5_in wsX5_in) := goodIn_app (goodIn_of _ (by decide +kernel)) ggX5_motion_X5_in
theorem dX5_motion_0 : decode cX5_motion 0 = .ok (.iload_n 1, 1) := by decide +kernel
theorem dX5_motion_1 : decode cX5_motion 1 = .ok (.i2l, 1) := by decide +kernel
theorem dX5_motion_2 : decode cX5_motion 2 = .ok (.lconst 0, 1) := by decide +kernel
theorem dX5_motion_3 : decode cX5_motion 3 = .ok (.ldc2_w 66, 3) := by decide +kernel
theorem dX5_motion_6 : decode cX5_motion 6 = .ok (.invokestatic 58, 3) := by decide +kernel
theorem dX5_motion_9 : decode cX5_motion 9 = .ok (.ifCond .ne 6, 3) := by decide +kernel
theorem dX5_motion_12 : decode cX5_motion 12 = .ok (.bipush (-2), 2) := by decide +kernel
theorem dX5_motion_14 : decode cX5_motion 14 = .ok (.ireturn, 1) := by decide +kernel
theorem dX5_motion_15 : decode cX5_motion 15 = .ok (.aload_n 0, 1) := by decide +kernel
theorem dX5_motion_16 : decode cX5_motion 16 = .ok (.getfield 130, 3) := by decide +kernel
theorem dX5_motion_19 : decode cX5_motion 19 = .ok (.istore_n 2, 1) := by decide +kernel
theorem dX5_motion_20 : decode cX5_motion 20 = .ok (.aload_n 0, 1) := by decide +kernel
theorem dX5_motion_21 : decode cX5_motion 21 = .ok (.iload_n 1, 1) := by decide +kernel
theorem dX5_motion_22 : decode cX5_motion 22 = .ok (.putfield 130, 3) := by decide +kernel
theorem dX5_motion_25 : decode cX5_motion 25 = .ok (.iload_n 2, 1) := by decide +kernel
theorem dX5_motion_26 : decode cX5_motion 26 = .ok (.ireturn, 1) := by decide +kernel
set_option maxRecDepth 20000 in
theorem ggX5_skew_X5_in : GoodIn wsX5_skew wsX5_in := goodIn_r _ [6] (by decide +kernel) (by decide +kernel)
set_option maxRecDepth 20000 in
theorem gX5_skew_X5_in : GoodIn wsX5_skew (va_wsS RX5 58 yX5_in wsX5_in) := goodIn_app (goodIn_of _ (by decide +kernel)) ggX5_skew_X5_in
theorem dX5_skew_0 : decode cX5_skew 0 = .ok (.iload_n 1, 1) := by decide +kernel
theorem dX5_skew_1 : decode cX5_skew 1 = .ok (.i2l, 1) := by decide +kernel
theorem dX5_skew_2 : decode cX5_skew 2 = .ok (.lconst 0, 1) := by decide +kernel
theorem dX5_skew_3 : decode cX5_skew 3 = .ok (.ldc2_w 85, 3) := by decide +kernel
theorem dX5_skew_6 : decode cX5_skew 6 = .ok (.invokestatic 58, 3) := by decide +kernel
theorem dX5_skew_9 : decode cX5_skew 9 = .ok (.ifCond .ne 6, 3) := by decide +kernel
theorem dX5_skew_12 : decode cX5_skew 12 = .ok (.bipush (-2), 2) := by decide +kernel
theorem dX5_skew_14 : decode cX5_skew 14 = .ok (.ireturn, 1) := by decide +kernel
theorem dX5_skew_15 : decode cX5_skew 15 = .ok (.aload_n 0, 1) := by decide +kernel
theorem dX5_skew_16 : decode cX5_skew 16 = .ok (.getfield 133, 3) := by decide +kernel
theorem dX5_skew_19 : decode cX5_skew 19 = .ok (.istore_n 2, 1) := by decide +kernel
theorem dX5_skew_20 : decode cX5_skew 20 = .ok (.aload_n 0, 1) := by decide +kernel
theorem dX5_skew_21 : decode cX5_skew 21 = .ok (.iload_n 1, 1) := by decide +kernel
theorem dX5_skew_22 : decode cX5_skew 22 = .ok (.putfield 133, 3) := by decide +kernel
theorem dX5_skew_25 : decode cX5_skew 25 = .ok (.iload_n 2, 1) := by decide +kernel
theorem dX5_skew_26 : decode cX5_skew 26 = .ok (.ireturn, 1) := by decide +kernel
set_option maxRecDepth 20000 in
theorem ggX5_laws_X5_in : GoodIn wsX5_laws wsX5_in := goodIn_r _ [9] (by decide +kernel) (by decide +kernel)
set_option maxRecDepth 20000 in
theorem gX5_laws_X5_in : GoodIn wsX5_laws (va_wsS RX5 58 yX5_in wsX5_in) := goodIn_app (goodIn_of _ (by decide +kernel)) ggX5_laws_X5_in
theorem dX5_laws_0 : decode cX5_laws 0 = .ok (.iload_n 1, 1) := by decide +kernel
theorem dX5_laws_1 : decode cX5_laws 1 = .ok (.i2l, 1) := by decide +kernel
theorem dX5_laws_2 : decode cX5_laws 2 = .ok (.lconst 0, 1) := by decide +kernel
theorem dX5_laws_3 : decode cX5_laws 3 = .ok (.ldc2_w 80, 3) := by decide +kernel
theorem dX5_laws_6 : decode cX5_laws 6 = .ok (.invokestatic 58, 3) := by decide +kernel
theorem dX5_laws_9 : decode cX5_laws 9 = .ok (.ifCond .eq 15, 3) := by decide +kernel
theorem dX5_laws_12 : decode cX5_laws 12 = .ok (.iload_n 3, 1) := by decide +kernel
theorem dX5_laws_13 : decode cX5_laws 13 = .ok (.i2l, 1) := by decide +kernel
theorem dX5_laws_14 : decode cX5_laws 14 = .ok (.lconst 0, 1) := by decide +kernel
theorem dX5_laws_15 : decode cX5_laws 15 = .ok (.ldc2_w 136, 3) := by decide +kernel
theorem dX5_laws_18 : decode cX5_laws 18 = .ok (.invokestatic 58, 3) := by decide +kernel
theorem dX5_laws_21 : decode cX5_laws 21 = .ok (.ifCond .ne 6, 3) := by decide +kernel
theorem dX5_laws_24 : decode cX5_laws 24 = .ok (.bipush (-2), 2) := by decide +kernel
theorem dX5_laws_26 : decode cX5_laws 26 = .ok (.ireturn, 1) := by decide +kernel
theorem dX5_laws_27 : decode cX5_laws 27 = .ok (.aload_n 0, 1) := by decide +kernel
theorem dX5_laws_28 : decode cX5_laws 28 = .ok (.iload_n 1, 1) := by decide +kernel
theorem dX5_laws_29 : decode cX5_laws 29 = .ok (.putfield 138, 3) := by decide +kernel
theorem dX5_laws_32 : decode cX5_laws 32 = .ok (.aload_n 0, 1) := by decide +kernel
theorem dX5_laws_33 : decode cX5_laws 33 = .ok (.iload_n 2, 1) := by decide +kernel
theorem dX5_laws_34 : decode cX5_laws 34 = .ok (.putfield 44, 3) := by decide +kernel
theorem dX5_laws_37 : decode cX5_laws 37 = .ok (.aload_n 0, 1) := by decide +kernel
theorem dX5_laws_38 : decode cX5_laws 38 = .ok (.iload_n 3, 1) := by decide +kernel
theorem dX5_laws_39 : decode cX5_laws 39 = .ok (.putfield 48, 3) := by decide +kernel
theorem dX5_laws_42 : decode cX5_laws 42 = .ok (.iconst 1, 1) := by decide +kernel
theorem dX5_laws_43 : decode cX5_laws 43 = .ok (.ireturn, 1) := by decide +kernel
set_option maxRecDepth 20000 in
theorem ggX5_bring_X5_turn : GoodIn wsX5_bring wsX5_turn := goodIn_r _ [11, 12, 13, 4, 5, 14, 15, 16, 17, 18, 19, 20, 21, 22, 23, 24, 25, 26, 27, 28, 29, 30, 31, 32, 33, 34, 35, 36, 37, 38, 39, 40, 41, 42, 43, 44] (by decide +kernel) (by decide +kernel)
set_option maxRecDepth 20000 in
theorem gX5_bring_X5_turn : GoodIn wsX5_bring (wsV RX5 104 RX5 yX5_turn wsX5_turn) := goodIn_app (goodIn_of _ (by decide +kernel)) ggX5_bring_X5_turn
theorem dX5_bring_0 : decode cX5_bring 0 = .ok (.aload_n 0, 1) := by decide +kernel
theorem dX5_bring_1 : decode cX5_bring 1 = .ok (.aload_n 0, 1) := by decide +kernel
theorem dX5_bring_2 : decode cX5_bring 2 = .ok (.getfield 111, 3) := by decide +kernel
theorem dX5_bring_5 : decode cX5_bring 5 = .ok (.i2l, 1) := by decide +kernel
theorem dX5_bring_6 : decode cX5_bring 6 = .ok (.aload_n 0, 1) := by decide +kernel
theorem dX5_bring_7 : decode cX5_bring 7 = .ok (.getfield 114, 3) := by decide +kernel
theorem dX5_bring_10 : decode cX5_bring 10 = .ok (.i2l, 1) := by decide +kernel
theorem dX5_bring_11 : decode cX5_bring 11 = .ok (.aload_n 0, 1) := by decide +kernel
theorem dX5_bring_12 : decode cX5_bring 12 = .ok (.getfield 133, 3) := by decide +kernel
theorem dX5_bring_15 : decode cX5_bring 15 = .ok (.invokevirtual 104, 3) := by decide +kernel
theorem dX5_bring_18 : decode cX5_bring 18 = .ok (.aload_n 0, 1) := by decide +kernel
theorem dX5_bring_19 : decode cX5_bring 19 = .ok (.aload_n 0, 1) := by decide +kernel
theorem dX5_bring_20 : decode cX5_bring 20 = .ok (.getfield 97, 3) := by decide +kernel
theorem dX5_bring_23 : decode cX5_bring 23 = .ok (.aload_n 0, 1) := by decide +kernel
theorem dX5_bring_24 : decode cX5_bring 24 = .ok (.getfield 101, 3) := by decide +kernel
theorem dX5_bring_27 : decode cX5_bring 27 = .ok (.aload_n 0, 1) := by decide +kernel
theorem dX5_bring_28 : decode cX5_bring 28 = .ok (.getfield 32, 3) := by decide +kernel
theorem dX5_bring_31 : decode cX5_bring 31 = .ok (.iload_n 1, 1) := by decide +kernel
theorem dX5_bring_32 : decode cX5_bring 32 = .ok (.iaload, 1) := by decide +kernel
theorem dX5_bring_33 : decode cX5_bring 33 = .ok (.invokevirtual 104, 3) := by decide +kernel
theorem dX5_bring_36 : decode cX5_bring 36 = .ok (.return_, 1) := by decide +kernel
set_option maxRecDepth 20000 in
theorem ggX5_findOwn_X5_reading : GoodIn wsX5_findOwn wsX5_reading := goodIn_r _ [14, 15, 16, 17, 18, 19, 13, 20, 41, 42, 43, 44, 45, 46, 47, 48, 49, 50, 51, 52, 53, 54, 55, 56, 57, 58, 59, 60, 61, 62, 63, 64, 65, 66, 67, 68, 69, 70, 71] (by decide +kernel) (by decide +kernel)
set_option maxRecDepth 20000 in
theorem gX5_findOwn_X5_reading : GoodIn wsX5_findOwn (wsV RX5 147 RX5 yX5_reading wsX5_reading) := goodIn_app (goodIn_of _ (by decide +kernel)) ggX5_findOwn_X5_reading
set_option maxRecDepth 20000 in
theorem ggX5_findOwn_X5_answers : GoodIn wsX5_findOwn wsX5_answers := goodIn_r _ [24, 25, 26, 27, 28, 41, 42, 43, 44, 45, 46, 47, 48, 49, 50, 51, 52, 53, 54, 55, 56, 57, 58, 59, 60, 61, 62, 63, 64, 65, 66, 67, 68, 69, 70, 71] (by decide +kernel) (by decide +kernel)
set_option maxRecDepth 20000 in
theorem gX5_findOwn_X5_answers : GoodIn wsX5_findOwn (wsV RX5 122 RX5 yX5_answers wsX5_answers) := goodIn_app (goodIn_of _ (by decide +kernel)) ggX5_findOwn_X5_answers
set_option maxRecDepth 20000 in
theorem ggX5_findOwn_X5_bring : GoodIn wsX5_findOwn wsX5_bring := goodIn_r _ [32, 26, 27, 33, 4, 5, 34, 35, 36, 37, 13, 38, 39, 40, 41, 42, 43, 44, 45, 46, 47, 48, 49, 50, 51, 52, 53, 54, 55, 56, 57, 58, 59, 60, 61, 62, 63, 64, 65, 66, 67, 68, 69, 70, 71] (by decide +kernel) (by decide +kernel)
set_option maxRecDepth 20000 in
theorem gX5_findOwn_X5_bring : GoodIn wsX5_findOwn (wsV RX5 151 RX5 yX5_bring wsX5_bring) := goodIn_app (goodIn_of _ (by decide +kernel)) ggX5_findOwn_X5_bring
theorem dX5_findOwn_0 : decode cX5_findOwn 0 = .ok (.aload_n 0, 1) := by decide +kernel
theorem dX5_findOwn_1 : decode cX5_findOwn 1 = .ok (.lconst 0, 1) := by decide +kernel
theorem dX5_findOwn_2 : decode cX5_findOwn 2 = .ok (.putfield 141, 3) := by decide +kernel
theorem dX5_findOwn_5 : decode cX5_findOwn 5 = .ok (.aload_n 0, 1) := by decide +kernel
theorem dX5_findOwn_6 : decode cX5_findOwn 6 = .ok (.lconst 0, 1) := by decide +kernel
theorem dX5_findOwn_7 : decode cX5_findOwn 7 = .ok (.putfield 144, 3) := by decide +kernel
theorem dX5_findOwn_10 : decode cX5_findOwn 10 = .ok (.aload_n 0, 1) := by decide +kernel
theorem dX5_findOwn_11 : decode cX5_findOwn 11 = .ok (.getfield 130, 3) := by decide +kernel
theorem dX5_findOwn_14 : decode cX5_findOwn 14 = .ok (.iconst 1, 1) := by decide +kernel
theorem dX5_findOwn_15 : decode cX5_findOwn 15 = .ok (.if_icmp .ne 62, 3) := by decide +kernel
theorem dX5_findOwn_18 : decode cX5_findOwn 18 = .ok (.aload_n 0, 1) := by decide +kernel
theorem dX5_findOwn_19 : decode cX5_findOwn 19 = .ok (.aload_n 0, 1) := by decide +kernel
theorem dX5_findOwn_20 : decode cX5_findOwn 20 = .ok (.iconst 4, 1) := by decide +kernel
theorem dX5_findOwn_21 : decode cX5_findOwn 21 = .ok (.iload_n 1, 1) := by decide +kernel
theorem dX5_findOwn_22 : decode cX5_findOwn 22 = .ok (.invokevirtual 147, 3) := by decide +kernel
theorem dX5_findOwn_25 : decode cX5_findOwn 25 = .ok (.aload_n 0, 1) := by decide +kernel
theorem dX5_findOwn_26 : decode cX5_findOwn 26 = .ok (.iconst 5, 1) := by decide +kernel
theorem dX5_findOwn_27 : decode cX5_findOwn 27 = .ok (.iload_n 1, 1) := by decide +kernel
theorem dX5_findOwn_28 : decode cX5_findOwn 28 = .ok (.invokevirtual 147, 3) := by decide +kernel
theorem dX5_findOwn_31 : decode cX5_findOwn 31 = .ok (.aload_n 0, 1) := by decide +kernel
theorem dX5_findOwn_32 : decode cX5_findOwn 32 = .ok (.bipush 6, 2) := by decide +kernel
theorem dX5_findOwn_34 : decode cX5_findOwn 34 = .ok (.iload_n 1, 1) := by decide +kernel
theorem dX5_findOwn_35 : decode cX5_findOwn 35 = .ok (.invokevirtual 147, 3) := by decide +kernel
theorem dX5_findOwn_38 : decode cX5_findOwn 38 = .ok (.aload_n 0, 1) := by decide +kernel
theorem dX5_findOwn_39 : decode cX5_findOwn 39 = .ok (.bipush 7, 2) := by decide +kernel
theorem dX5_findOwn_41 : decode cX5_findOwn 41 = .ok (.iload_n 1, 1) := by decide +kernel
theorem dX5_findOwn_42 : decode cX5_findOwn 42 = .ok (.invokevirtual 147, 3) := by decide +kernel
theorem dX5_findOwn_45 : decode cX5_findOwn 45 = .ok (.invokevirtual 122, 3) := by decide +kernel
theorem dX5_findOwn_48 : decode cX5_findOwn 48 = .ok (.ifCond .ne 5, 3) := by decide +kernel
theorem dX5_findOwn_51 : decode cX5_findOwn 51 = .ok (.iconst 0, 1) := by decide +kernel
theorem dX5_findOwn_52 : decode cX5_findOwn 52 = .ok (.ireturn, 1) := by decide +kernel
theorem dX5_findOwn_53 : decode cX5_findOwn 53 = .ok (.aload_n 0, 1) := by decide +kernel
theorem dX5_findOwn_54 : decode cX5_findOwn 54 = .ok (.iload_n 1, 1) := by decide +kernel
theorem dX5_findOwn_55 : decode cX5_findOwn 55 = .ok (.invokevirtual 151, 3) := by decide +kernel
theorem dX5_findOwn_58 : decode cX5_findOwn 58 = .ok (.aload_n 0, 1) := by decide +kernel
theorem dX5_findOwn_59 : decode cX5_findOwn 59 = .ok (.aload_n 0, 1) := by decide +kernel
theorem dX5_findOwn_60 : decode cX5_findOwn 60 = .ok (.getfield 97, 3) := by decide +kernel
theorem dX5_findOwn_63 : decode cX5_findOwn 63 = .ok (.putfield 141, 3) := by decide +kernel
theorem dX5_findOwn_66 : decode cX5_findOwn 66 = .ok (.aload_n 0, 1) := by decide +kernel
theorem dX5_findOwn_67 : decode cX5_findOwn 67 = .ok (.aload_n 0, 1) := by decide +kernel
theorem dX5_findOwn_68 : decode cX5_findOwn 68 = .ok (.getfield 101, 3) := by decide +kernel
theorem dX5_findOwn_71 : decode cX5_findOwn 71 = .ok (.putfield 144, 3) := by decide +kernel
theorem dX5_findOwn_74 : decode cX5_findOwn 74 = .ok (.goto 71, 3) := by decide +kernel
theorem dX5_findOwn_77 : decode cX5_findOwn 77 = .ok (.aload_n 0, 1) := by decide +kernel
theorem dX5_findOwn_78 : decode cX5_findOwn 78 = .ok (.getfield 130, 3) := by decide +kernel
theorem dX5_findOwn_81 : decode cX5_findOwn 81 = .ok (.iconst 2, 1) := by decide +kernel
theorem dX5_findOwn_82 : decode cX5_findOwn 82 = .ok (.if_icmp .ne 63, 3) := by decide +kernel
theorem dX5_findOwn_85 : decode cX5_findOwn 85 = .ok (.iload_n 1, 1) := by decide +kernel
theorem dX5_findOwn_86 : decode cX5_findOwn 86 = .ok (.aload_n 0, 1) := by decide +kernel
theorem dX5_findOwn_87 : decode cX5_findOwn 87 = .ok (.getfield 82, 3) := by decide +kernel
theorem dX5_findOwn_90 : decode cX5_findOwn 90 = .ok (.iconst 1, 1) := by decide +kernel
theorem dX5_findOwn_91 : decode cX5_findOwn 91 = .ok (.isub, 1) := by decide +kernel
theorem dX5_findOwn_92 : decode cX5_findOwn 92 = .ok (.if_icmp .ne 5, 3) := by decide +kernel
