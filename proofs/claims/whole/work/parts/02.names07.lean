theorem dX5_askew_31 : decode cX5_askew 31 = .ok (.isub, 1) := by decide +kernel
theorem dX5_askew_32 : decode cX5_askew 32 = .ok (.invokevirtual 201, 3) := by decide +kernel
theorem dX5_askew_35 : decode cX5_askew 35 = .ok (.aload_n 0, 1) := by decide +kernel
theorem dX5_askew_36 : decode cX5_askew 36 = .ok (.getfield 186, 3) := by decide +kernel
theorem dX5_askew_39 : decode cX5_askew 39 = .ok (.lstore 5, 2) := by decide +kernel
theorem dX5_askew_41 : decode cX5_askew 41 = .ok (.aload_n 0, 1) := by decide +kernel
theorem dX5_askew_42 : decode cX5_askew 42 = .ok (.iload_n 3, 1) := by decide +kernel
theorem dX5_askew_43 : decode cX5_askew 43 = .ok (.iload 4, 2) := by decide +kernel
theorem dX5_askew_45 : decode cX5_askew 45 = .ok (.iconst 0, 1) := by decide +kernel
theorem dX5_askew_46 : decode cX5_askew 46 = .ok (.aload_n 0, 1) := by decide +kernel
theorem dX5_askew_47 : decode cX5_askew 47 = .ok (.getfield 28, 3) := by decide +kernel
theorem dX5_askew_50 : decode cX5_askew 50 = .ok (.iconst 1, 1) := by decide +kernel
theorem dX5_askew_51 : decode cX5_askew 51 = .ok (.isub, 1) := by decide +kernel
theorem dX5_askew_52 : decode cX5_askew 52 = .ok (.invokevirtual 201, 3) := by decide +kernel
theorem dX5_askew_55 : decode cX5_askew 55 = .ok (.lload 5, 2) := by decide +kernel
theorem dX5_askew_57 : decode cX5_askew 57 = .ok (.lconst 0, 1) := by decide +kernel
theorem dX5_askew_58 : decode cX5_askew 58 = .ok (.lcmp, 1) := by decide +kernel
theorem dX5_askew_59 : decode cX5_askew 59 = .ok (.ifCond .eq 12, 3) := by decide +kernel
theorem dX5_askew_62 : decode cX5_askew 62 = .ok (.aload_n 0, 1) := by decide +kernel
theorem dX5_askew_63 : decode cX5_askew 63 = .ok (.getfield 186, 3) := by decide +kernel
theorem dX5_askew_66 : decode cX5_askew 66 = .ok (.lconst 0, 1) := by decide +kernel
theorem dX5_askew_67 : decode cX5_askew 67 = .ok (.lcmp, 1) := by decide +kernel
theorem dX5_askew_68 : decode cX5_askew 68 = .ok (.ifCond .ne 6, 3) := by decide +kernel
theorem dX5_askew_71 : decode cX5_askew 71 = .ok (.bipush (-3), 2) := by decide +kernel
theorem dX5_askew_73 : decode cX5_askew 73 = .ok (.ireturn, 1) := by decide +kernel
theorem dX5_askew_74 : decode cX5_askew 74 = .ok (.aload_n 0, 1) := by decide +kernel
theorem dX5_askew_75 : decode cX5_askew 75 = .ok (.getfield 133, 3) := by decide +kernel
theorem dX5_askew_78 : decode cX5_askew 78 = .ok (.istore 7, 2) := by decide +kernel
theorem dX5_askew_80 : decode cX5_askew 80 = .ok (.iconst (-1), 1) := by decide +kernel
theorem dX5_askew_81 : decode cX5_askew 81 = .ok (.istore 8, 2) := by decide +kernel
theorem dX5_askew_83 : decode cX5_askew 83 = .ok (.lconst 0, 1) := by decide +kernel
theorem dX5_askew_84 : decode cX5_askew 84 = .ok (.lstore 9, 2) := by decide +kernel
theorem dX5_askew_86 : decode cX5_askew 86 = .ok (.iconst 0, 1) := by decide +kernel
theorem dX5_askew_87 : decode cX5_askew 87 = .ok (.istore 11, 2) := by decide +kernel
theorem dX5_askew_89 : decode cX5_askew 89 = .ok (.iload 11, 2) := by decide +kernel
theorem dX5_askew_91 : decode cX5_askew 91 = .ok (.bipush 36, 2) := by decide +kernel
theorem dX5_askew_93 : decode cX5_askew 93 = .ok (.if_icmp .ge 133, 3) := by decide +kernel
theorem dX5_askew_96 : decode cX5_askew 96 = .ok (.aload_n 0, 1) := by decide +kernel
theorem dX5_askew_97 : decode cX5_askew 97 = .ok (.iload 11, 2) := by decide +kernel
theorem dX5_askew_99 : decode cX5_askew 99 = .ok (.putfield 133, 3) := by decide +kernel
theorem dX5_askew_102 : decode cX5_askew 102 = .ok (.aload_n 0, 1) := by decide +kernel
theorem dX5_askew_103 : decode cX5_askew 103 = .ok (.iload_n 1, 1) := by decide +kernel
theorem dX5_askew_104 : decode cX5_askew 104 = .ok (.iload_n 2, 1) := by decide +kernel
theorem dX5_askew_105 : decode cX5_askew 105 = .ok (.iconst 0, 1) := by decide +kernel
theorem dX5_askew_106 : decode cX5_askew 106 = .ok (.aload_n 0, 1) := by decide +kernel
theorem dX5_askew_107 : decode cX5_askew 107 = .ok (.getfield 28, 3) := by decide +kernel
theorem dX5_askew_110 : decode cX5_askew 110 = .ok (.iconst 1, 1) := by decide +kernel
theorem dX5_askew_111 : decode cX5_askew 111 = .ok (.isub, 1) := by decide +kernel
theorem dX5_askew_112 : decode cX5_askew 112 = .ok (.invokevirtual 201, 3) := by decide +kernel
theorem dX5_askew_115 : decode cX5_askew 115 = .ok (.aload_n 0, 1) := by decide +kernel
theorem dX5_askew_116 : decode cX5_askew 116 = .ok (.getfield 189, 3) := by decide +kernel
theorem dX5_askew_119 : decode cX5_askew 119 = .ok (.lstore 12, 2) := by decide +kernel
theorem dX5_askew_121 : decode cX5_askew 121 = .ok (.aload_n 0, 1) := by decide +kernel
theorem dX5_askew_122 : decode cX5_askew 122 = .ok (.getfield 192, 3) := by decide +kernel
theorem dX5_askew_125 : decode cX5_askew 125 = .ok (.lstore 14, 2) := by decide +kernel
theorem dX5_askew_127 : decode cX5_askew 127 = .ok (.aload_n 0, 1) := by decide +kernel
theorem dX5_askew_128 : decode cX5_askew 128 = .ok (.iload_n 3, 1) := by decide +kernel
theorem dX5_askew_129 : decode cX5_askew 129 = .ok (.iload 4, 2) := by decide +kernel
theorem dX5_askew_131 : decode cX5_askew 131 = .ok (.iconst 0, 1) := by decide +kernel
theorem dX5_askew_132 : decode cX5_askew 132 = .ok (.aload_n 0, 1) := by decide +kernel
theorem dX5_askew_133 : decode cX5_askew 133 = .ok (.getfield 28, 3) := by decide +kernel
theorem dX5_askew_136 : decode cX5_askew 136 = .ok (.iconst 1, 1) := by decide +kernel
theorem dX5_askew_137 : decode cX5_askew 137 = .ok (.isub, 1) := by decide +kernel
theorem dX5_askew_138 : decode cX5_askew 138 = .ok (.invokevirtual 201, 3) := by decide +kernel
theorem dX5_askew_141 : decode cX5_askew 141 = .ok (.lload 12, 2) := by decide +kernel
theorem dX5_askew_143 : decode cX5_askew 143 = .ok (.aload_n 0, 1) := by decide +kernel
theorem dX5_askew_144 : decode cX5_askew 144 = .ok (.getfield 186, 3) := by decide +kernel
theorem dX5_askew_147 : decode cX5_askew 147 = .ok (.lmul, 1) := by decide +kernel
theorem dX5_askew_148 : decode cX5_askew 148 = .ok (.aload_n 0, 1) := by decide +kernel
theorem dX5_askew_149 : decode cX5_askew 149 = .ok (.getfield 189, 3) := by decide +kernel
theorem dX5_askew_152 : decode cX5_askew 152 = .ok (.lload 5, 2) := by decide +kernel
theorem dX5_askew_154 : decode cX5_askew 154 = .ok (.lmul, 1) := by decide +kernel
theorem dX5_askew_155 : decode cX5_askew 155 = .ok (.lsub, 1) := by decide +kernel
theorem dX5_askew_156 : decode cX5_askew 156 = .ok (.invokestatic 165, 3) := by decide +kernel
theorem dX5_askew_159 : decode cX5_askew 159 = .ok (.lstore 16, 2) := by decide +kernel
theorem dX5_askew_161 : decode cX5_askew 161 = .ok (.lload 14, 2) := by decide +kernel
theorem dX5_askew_163 : decode cX5_askew 163 = .ok (.aload_n 0, 1) := by decide +kernel
theorem dX5_askew_164 : decode cX5_askew 164 = .ok (.getfield 186, 3) := by decide +kernel
theorem dX5_askew_167 : decode cX5_askew 167 = .ok (.lmul, 1) := by decide +kernel
theorem dX5_askew_168 : decode cX5_askew 168 = .ok (.aload_n 0, 1) := by decide +kernel
theorem dX5_askew_169 : decode cX5_askew 169 = .ok (.getfield 192, 3) := by decide +kernel
theorem dX5_askew_172 : decode cX5_askew 172 = .ok (.lload 5, 2) := by decide +kernel
theorem dX5_askew_174 : decode cX5_askew 174 = .ok (.lmul, 1) := by decide +kernel
theorem dX5_askew_175 : decode cX5_askew 175 = .ok (.lsub, 1) := by decide +kernel
theorem dX5_askew_176 : decode cX5_askew 176 = .ok (.invokestatic 165, 3) := by decide +kernel
theorem dX5_askew_179 : decode cX5_askew 179 = .ok (.lstore 18, 2) := by decide +kernel
theorem dX5_askew_181 : decode cX5_askew 181 = .ok (.lload 16, 2) := by decide +kernel
theorem dX5_askew_183 : decode cX5_askew 183 = .ok (.lload 18, 2) := by decide +kernel
theorem dX5_askew_185 : decode cX5_askew 185 = .ok (.lcmp, 1) := by decide +kernel
theorem dX5_askew_186 : decode cX5_askew 186 = .ok (.ifCond .le 8, 3) := by decide +kernel
theorem dX5_askew_189 : decode cX5_askew 189 = .ok (.lload 16, 2) := by decide +kernel
theorem dX5_askew_191 : decode cX5_askew 191 = .ok (.goto 5, 3) := by decide +kernel
theorem dX5_askew_194 : decode cX5_askew 194 = .ok (.lload 18, 2) := by decide +kernel
theorem dX5_askew_196 : decode cX5_askew 196 = .ok (.lstore 20, 2) := by decide +kernel
theorem dX5_askew_198 : decode cX5_askew 198 = .ok (.iload 8, 2) := by decide +kernel
theorem dX5_askew_200 : decode cX5_askew 200 = .ok (.iconst (-1), 1) := by decide +kernel
theorem dX5_askew_201 : decode cX5_askew 201 = .ok (.if_icmp .eq 11, 3) := by decide +kernel
theorem dX5_askew_204 : decode cX5_askew 204 = .ok (.lload 20, 2) := by decide +kernel
theorem dX5_askew_206 : decode cX5_askew 206 = .ok (.lload 9, 2) := by decide +kernel
theorem dX5_askew_208 : decode cX5_askew 208 = .ok (.lcmp, 1) := by decide +kernel
theorem dX5_askew_209 : decode cX5_askew 209 = .ok (.ifCond .ge 11, 3) := by decide +kernel
theorem dX5_askew_212 : decode cX5_askew 212 = .ok (.iload 11, 2) := by decide +kernel
theorem dX5_askew_214 : decode cX5_askew 214 = .ok (.istore 8, 2) := by decide +kernel
theorem dX5_askew_216 : decode cX5_askew 216 = .ok (.lload 20, 2) := by decide +kernel
theorem dX5_askew_218 : decode cX5_askew 218 = .ok (.lstore 9, 2) := by decide +kernel
theorem dX5_askew_220 : decode cX5_askew 220 = .ok (.iinc 11 1, 3) := by decide +kernel
theorem dX5_askew_223 : decode cX5_askew 223 = .ok (.goto (-134), 3) := by decide +kernel
theorem dX5_askew_226 : decode cX5_askew 226 = .ok (.aload_n 0, 1) := by decide +kernel
theorem dX5_askew_227 : decode cX5_askew 227 = .ok (.iload 7, 2) := by decide +kernel
theorem dX5_askew_229 : decode cX5_askew 229 = .ok (.putfield 133, 3) := by decide +kernel
theorem dX5_askew_232 : decode cX5_askew 232 = .ok (.iload 8, 2) := by decide +kernel
theorem dX5_askew_234 : decode cX5_askew 234 = .ok (.ireturn, 1) := by decide +kernel
set_option maxRecDepth 20000 in
theorem ggX5_closes_X5_isPing : GoodIn wsX5_closes wsX5_isPing := goodIn_r _ [9, 2, 10, 11, 8, 12, 16, 17, 18, 19, 20, 21, 22, 23, 24, 25, 26, 27, 28, 29, 30, 31, 32, 33, 34, 35, 36, 37, 38, 39, 40, 41, 42, 43, 44, 45, 46] (by decide +kernel) (by decide +kernel)
set_option maxRecDepth 20000 in
theorem gX5_closes_X5_isPing : GoodIn wsX5_closes (wsV RX5 91 RX5 yX5_isPing wsX5_isPing) := goodIn_app (goodIn_of _ (by decide +kernel)) ggX5_closes_X5_isPing
set_option maxRecDepth 20000 in
theorem ggX5_closes_X5_in : GoodIn wsX5_closes wsX5_in := goodIn_r _ [12] (by decide +kernel) (by decide +kernel)
set_option maxRecDepth 20000 in
theorem gX5_closes_X5_in : GoodIn wsX5_closes (va_wsS RX5 58 yX5_in wsX5_in) := goodIn_app (goodIn_of _ (by decide +kernel)) ggX5_closes_X5_in
set_option maxRecDepth 20000 in
theorem ggX5_closes_X5_amount : GoodIn wsX5_closes wsX5_amount := goodIn_r _ [15] (by decide +kernel) (by decide +kernel)
set_option maxRecDepth 20000 in
theorem gX5_closes_X5_amount : GoodIn wsX5_closes (va_wsS RX5 165 yX5_amount wsX5_amount) := goodIn_app (goodIn_of _ (by decide +kernel)) ggX5_closes_X5_amount
theorem dX5_closes_0 : decode cX5_closes 0 = .ok (.aload_n 0, 1) := by decide +kernel
theorem dX5_closes_1 : decode cX5_closes 1 = .ok (.iload_n 1, 1) := by decide +kernel
theorem dX5_closes_2 : decode cX5_closes 2 = .ok (.invokevirtual 91, 3) := by decide +kernel
theorem dX5_closes_5 : decode cX5_closes 5 = .ok (.ifCond .eq 15, 3) := by decide +kernel
theorem dX5_closes_8 : decode cX5_closes 8 = .ok (.iload_n 2, 1) := by decide +kernel
theorem dX5_closes_9 : decode cX5_closes 9 = .ok (.i2l, 1) := by decide +kernel
theorem dX5_closes_10 : decode cX5_closes 10 = .ok (.lconst 0, 1) := by decide +kernel
theorem dX5_closes_11 : decode cX5_closes 11 = .ok (.ldc2_w 89, 3) := by decide +kernel
theorem dX5_closes_14 : decode cX5_closes 14 = .ok (.invokestatic 58, 3) := by decide +kernel
theorem dX5_closes_17 : decode cX5_closes 17 = .ok (.ifCond .ne 6, 3) := by decide +kernel
theorem dX5_closes_20 : decode cX5_closes 20 = .ok (.bipush (-2), 2) := by decide +kernel
theorem dX5_closes_22 : decode cX5_closes 22 = .ok (.ireturn, 1) := by decide +kernel
theorem dX5_closes_23 : decode cX5_closes 23 = .ok (.iload_n 1, 1) := by decide +kernel
theorem dX5_closes_24 : decode cX5_closes 24 = .ok (.iconst 2, 1) := by decide +kernel
theorem dX5_closes_25 : decode cX5_closes 25 = .ok (.iadd, 1) := by decide +kernel
theorem dX5_closes_26 : decode cX5_closes 26 = .ok (.istore_n 3, 1) := by decide +kernel
theorem dX5_closes_27 : decode cX5_closes 27 = .ok (.iload_n 3, 1) := by decide +kernel
theorem dX5_closes_28 : decode cX5_closes 28 = .ok (.aload_n 0, 1) := by decide +kernel
theorem dX5_closes_29 : decode cX5_closes 29 = .ok (.getfield 82, 3) := by decide +kernel
theorem dX5_closes_32 : decode cX5_closes 32 = .ok (.if_icmp .ge 57, 3) := by decide +kernel
theorem dX5_closes_35 : decode cX5_closes 35 = .ok (.aload_n 0, 1) := by decide +kernel
theorem dX5_closes_36 : decode cX5_closes 36 = .ok (.getfield 35, 3) := by decide +kernel
theorem dX5_closes_39 : decode cX5_closes 39 = .ok (.iload_n 3, 1) := by decide +kernel
theorem dX5_closes_40 : decode cX5_closes 40 = .ok (.iaload, 1) := by decide +kernel
theorem dX5_closes_41 : decode cX5_closes 41 = .ok (.aload_n 0, 1) := by decide +kernel
theorem dX5_closes_42 : decode cX5_closes 42 = .ok (.getfield 35, 3) := by decide +kernel
theorem dX5_closes_45 : decode cX5_closes 45 = .ok (.iload_n 1, 1) := by decide +kernel
theorem dX5_closes_46 : decode cX5_closes 46 = .ok (.iaload, 1) := by decide +kernel
theorem dX5_closes_47 : decode cX5_closes 47 = .ok (.isub, 1) := by decide +kernel
theorem dX5_closes_48 : decode cX5_closes 48 = .ok (.i2l, 1) := by decide +kernel
theorem dX5_closes_49 : decode cX5_closes 49 = .ok (.invokestatic 165, 3) := by decide +kernel
theorem dX5_closes_52 : decode cX5_closes 52 = .ok (.iload_n 2, 1) := by decide +kernel
theorem dX5_closes_53 : decode cX5_closes 53 = .ok (.i2l, 1) := by decide +kernel
theorem dX5_closes_54 : decode cX5_closes 54 = .ok (.lcmp, 1) := by decide +kernel
theorem dX5_closes_55 : decode cX5_closes 55 = .ok (.ifCond .gt 28, 3) := by decide +kernel
theorem dX5_closes_58 : decode cX5_closes 58 = .ok (.aload_n 0, 1) := by decide +kernel
theorem dX5_closes_59 : decode cX5_closes 59 = .ok (.getfield 38, 3) := by decide +kernel
theorem dX5_closes_62 : decode cX5_closes 62 = .ok (.iload_n 3, 1) := by decide +kernel
theorem dX5_closes_63 : decode cX5_closes 63 = .ok (.iaload, 1) := by decide +kernel
theorem dX5_closes_64 : decode cX5_closes 64 = .ok (.aload_n 0, 1) := by decide +kernel
theorem dX5_closes_65 : decode cX5_closes 65 = .ok (.getfield 38, 3) := by decide +kernel
theorem dX5_closes_68 : decode cX5_closes 68 = .ok (.iload_n 1, 1) := by decide +kernel
theorem dX5_closes_69 : decode cX5_closes 69 = .ok (.iaload, 1) := by decide +kernel
theorem dX5_closes_70 : decode cX5_closes 70 = .ok (.isub, 1) := by decide +kernel
theorem dX5_closes_71 : decode cX5_closes 71 = .ok (.i2l, 1) := by decide +kernel
theorem dX5_closes_72 : decode cX5_closes 72 = .ok (.invokestatic 165, 3) := by decide +kernel
theorem dX5_closes_75 : decode cX5_closes 75 = .ok (.iload_n 2, 1) := by decide +kernel
theorem dX5_closes_76 : decode cX5_closes 76 = .ok (.i2l, 1) := by decide +kernel
theorem dX5_closes_77 : decode cX5_closes 77 = .ok (.lcmp, 1) := by decide +kernel
theorem dX5_closes_78 : decode cX5_closes 78 = .ok (.ifCond .gt 5, 3) := by decide +kernel
theorem dX5_closes_81 : decode cX5_closes 81 = .ok (.iload_n 3, 1) := by decide +kernel
theorem dX5_closes_82 : decode cX5_closes 82 = .ok (.ireturn, 1) := by decide +kernel
theorem dX5_closes_83 : decode cX5_closes 83 = .ok (.iinc 3 1, 3) := by decide +kernel
theorem dX5_closes_86 : decode cX5_closes 86 = .ok (.goto (-59), 3) := by decide +kernel
theorem dX5_closes_89 : decode cX5_closes 89 = .ok (.iconst (-1), 1) := by decide +kernel
theorem dX5_closes_90 : decode cX5_closes 90 = .ok (.ireturn, 1) := by decide +kernel
theorem dX5_count_0 : decode cX5_count 0 = .ok (.iload_n 1, 1) := by decide +kernel
theorem dX5_count_1 : decode cX5_count 1 = .ok (.tableswitch 95 0 7 #[47, 52, 57, 62, 67, 72, 77, 82], 47) := by decide +kernel
theorem dX5_count_48 : decode cX5_count 48 = .ok (.aload_n 0, 1) := by decide +kernel
theorem dX5_count_49 : decode cX5_count 49 = .ok (.getfield 82, 3) := by decide +kernel
theorem dX5_count_52 : decode cX5_count 52 = .ok (.ireturn, 1) := by decide +kernel
theorem dX5_count_53 : decode cX5_count 53 = .ok (.aload_n 0, 1) := by decide +kernel
theorem dX5_count_54 : decode cX5_count 54 = .ok (.getfield 28, 3) := by decide +kernel
theorem dX5_count_57 : decode cX5_count 57 = .ok (.ireturn, 1) := by decide +kernel
theorem dX5_count_58 : decode cX5_count 58 = .ok (.aload_n 0, 1) := by decide +kernel
theorem dX5_count_59 : decode cX5_count 59 = .ok (.getfield 130, 3) := by decide +kernel
theorem dX5_count_62 : decode cX5_count 62 = .ok (.ireturn, 1) := by decide +kernel
theorem dX5_count_63 : decode cX5_count 63 = .ok (.aload_n 0, 1) := by decide +kernel
theorem dX5_count_64 : decode cX5_count 64 = .ok (.getfield 133, 3) := by decide +kernel
theorem dX5_count_67 : decode cX5_count 67 = .ok (.ireturn, 1) := by decide +kernel
theorem dX5_count_68 : decode cX5_count 68 = .ok (.aload_n 0, 1) := by decide +kernel
theorem dX5_count_69 : decode cX5_count 69 = .ok (.getfield 138, 3) := by decide +kernel
theorem dX5_count_72 : decode cX5_count 72 = .ok (.ireturn, 1) := by decide +kernel
theorem dX5_count_73 : decode cX5_count 73 = .ok (.aload_n 0, 1) := by decide +kernel
theorem dX5_count_74 : decode cX5_count 74 = .ok (.getfield 53, 3) := by decide +kernel
theorem dX5_count_77 : decode cX5_count 77 = .ok (.ireturn, 1) := by decide +kernel
theorem dX5_count_78 : decode cX5_count 78 = .ok (.aload_n 0, 1) := by decide +kernel
theorem dX5_count_79 : decode cX5_count 79 = .ok (.getfield 48, 3) := by decide +kernel
theorem dX5_count_82 : decode cX5_count 82 = .ok (.ireturn, 1) := by decide +kernel
theorem dX5_count_83 : decode cX5_count 83 = .ok (.aload_n 0, 1) := by decide +kernel
theorem dX5_count_84 : decode cX5_count 84 = .ok (.getfield 44, 3) := by decide +kernel
theorem dX5_count_87 : decode cX5_count 87 = .ok (.ifCond .eq 7, 3) := by decide +kernel
theorem dX5_count_90 : decode cX5_count 90 = .ok (.iconst 1, 1) := by decide +kernel
theorem dX5_count_91 : decode cX5_count 91 = .ok (.goto 4, 3) := by decide +kernel
theorem dX5_count_94 : decode cX5_count 94 = .ok (.iconst 0, 1) := by decide +kernel
theorem dX5_count_95 : decode cX5_count 95 = .ok (.ireturn, 1) := by decide +kernel
theorem dX5_count_96 : decode cX5_count 96 = .ok (.bipush (-2), 2) := by decide +kernel
theorem dX5_count_98 : decode cX5_count 98 = .ok (.ireturn, 1) := by decide +kernel
set_option maxRecDepth 20000 in
theorem ggX5_digest_X5_count : GoodIn wsX5_digest wsX5_count := goodIn_r _ [11, 3, 4, 12, 13, 14, 15, 16, 17, 87, 88, 89, 90, 91, 92, 93, 94, 95, 96, 97, 98, 99, 100, 101, 102, 103, 104, 105, 106, 107, 108, 109, 110, 111, 112, 113, 114, 115, 116, 117] (by decide +kernel) (by decide +kernel)
set_option maxRecDepth 20000 in
theorem gX5_digest_X5_count : GoodIn wsX5_digest (wsV RX5 212 RX5 yX5_count wsX5_count) := goodIn_app (goodIn_of _ (by decide +kernel)) ggX5_digest_X5_count
set_option maxRecDepth 20000 in
theorem ggX5_digest_X5_about : GoodIn wsX5_digest wsX5_about := goodIn_r _ [21, 22, 23, 24, 25, 26, 27, 28, 29, 10, 30, 3, 31, 32, 33, 34, 35, 36, 37, 38, 39, 12, 40, 41, 42, 43, 44, 45, 46, 47, 48, 49, 50, 51, 52, 53, 54, 55, 56, 57, 58, 59, 60, 61, 62, 63, 64, 13, 65, 66, 67, 68, 69, 70, 87, 88, 89, 90, 91, 92, 93, 94, 95, 96, 97, 98, 99, 100, 101, 102, 103, 104, 105, 106, 107, 108, 109, 110, 111, 112, 113, 114, 115, 116, 117] (by decide +kernel) (by decide +kernel)
set_option maxRecDepth 20000 in
theorem gX5_digest_X5_about : GoodIn wsX5_digest (wsV RX5 215 RX5 yX5_about wsX5_about) := goodIn_app (goodIn_of _ (by decide +kernel)) ggX5_digest_X5_about
set_option maxRecDepth 20000 in
theorem ggX5_digest_X5_fateOf : GoodIn wsX5_digest wsX5_fateOf := goodIn_r _ [74, 14, 26, 57, 17, 60, 16, 58, 75, 59, 34, 35, 36, 10, 37, 38, 39, 12, 40, 41, 3, 42, 24, 25, 43, 44, 45, 46, 47, 48, 49, 50, 51, 52, 53, 54, 55, 56, 61, 62, 63, 64, 13, 23, 65, 66, 67, 68, 69, 70, 76, 77, 78, 79, 4, 80, 81, 82, 87, 88, 89, 90, 91, 92, 93, 94, 95, 96, 97, 98, 99, 100, 101, 102, 103, 104, 105, 106, 107, 108, 109, 110, 111, 112, 113, 114, 115, 116, 117] (by decide +kernel) (by decide +kernel)
set_option maxRecDepth 20000 in
theorem gX5_digest_X5_fateOf : GoodIn wsX5_digest (wsV RX5 172 RX5 yX5_fateOf wsX5_fateOf) := goodIn_app (goodIn_of _ (by decide +kernel)) ggX5_digest_X5_fateOf
set_option maxRecDepth 20000 in
theorem ggX5_digest_X5_findPace : GoodIn wsX5_digest wsX5_findPace := goodIn_r _ [86, 40, 38, 5, 41, 39, 6, 34, 35, 36, 10, 37, 12, 3, 42, 24, 25, 43, 44, 45, 46, 47, 48, 49, 50, 51, 52, 53, 54, 55, 56, 57, 58, 59, 60, 61, 62, 63, 64, 13, 23, 65, 66, 67, 68, 69, 70, 76, 77, 78, 79, 4, 87, 88, 89, 90, 91, 92, 93, 94, 95, 96, 97, 98, 99, 100, 101, 102, 103, 104, 105, 106, 107, 108, 109, 110, 111, 112, 113, 114, 115, 116, 117] (by decide +kernel) (by decide +kernel)
set_option maxRecDepth 20000 in
theorem gX5_digest_X5_findPace : GoodIn wsX5_digest (wsV RX5 181 RX5 yX5_findPace wsX5_findPace) := goodIn_app (goodIn_of _ (by decide +kernel)) ggX5_digest_X5_findPace
theorem dX5_digest_0 : decode cX5_digest 0 = .ok (.ldc2_w 208, 3) := by decide +kernel
theorem dX5_digest_3 : decode cX5_digest 3 = .ok (.lstore_n 1, 1) := by decide +kernel
theorem dX5_digest_4 : decode cX5_digest 4 = .ok (.iconst 0, 1) := by decide +kernel
theorem dX5_digest_5 : decode cX5_digest 5 = .ok (.istore_n 3, 1) := by decide +kernel
theorem dX5_digest_6 : decode cX5_digest 6 = .ok (.iload_n 3, 1) := by decide +kernel
theorem dX5_digest_7 : decode cX5_digest 7 = .ok (.bipush 8, 2) := by decide +kernel
theorem dX5_digest_9 : decode cX5_digest 9 = .ok (.if_icmp .ge 31, 3) := by decide +kernel
theorem dX5_digest_12 : decode cX5_digest 12 = .ok (.iload_n 3, 1) := by decide +kernel
theorem dX5_digest_13 : decode cX5_digest 13 = .ok (.iconst 5, 1) := by decide +kernel
theorem dX5_digest_14 : decode cX5_digest 14 = .ok (.if_icmp .ne 7, 3) := by decide +kernel
theorem dX5_digest_17 : decode cX5_digest 17 = .ok (.lload_n 1, 1) := by decide +kernel
theorem dX5_digest_18 : decode cX5_digest 18 = .ok (.goto 15, 3) := by decide +kernel
theorem dX5_digest_21 : decode cX5_digest 21 = .ok (.ldc2_w 210, 3) := by decide +kernel
theorem dX5_digest_24 : decode cX5_digest 24 = .ok (.lload_n 1, 1) := by decide +kernel
theorem dX5_digest_25 : decode cX5_digest 25 = .ok (.lmul, 1) := by decide +kernel
theorem dX5_digest_26 : decode cX5_digest 26 = .ok (.aload_n 0, 1) := by decide +kernel
theorem dX5_digest_27 : decode cX5_digest 27 = .ok (.iload_n 3, 1) := by decide +kernel
theorem dX5_digest_28 : decode cX5_digest 28 = .ok (.invokevirtual 212, 3) := by decide +kernel
theorem dX5_digest_31 : decode cX5_digest 31 = .ok (.i2l, 1) := by decide +kernel
theorem dX5_digest_32 : decode cX5_digest 32 = .ok (.ladd, 1) := by decide +kernel
theorem dX5_digest_33 : decode cX5_digest 33 = .ok (.lstore_n 1, 1) := by decide +kernel
theorem dX5_digest_34 : decode cX5_digest 34 = .ok (.iinc 3 1, 3) := by decide +kernel
theorem dX5_digest_37 : decode cX5_digest 37 = .ok (.goto (-31), 3) := by decide +kernel
theorem dX5_digest_40 : decode cX5_digest 40 = .ok (.iconst 0, 1) := by decide +kernel
theorem dX5_digest_41 : decode cX5_digest 41 = .ok (.istore_n 3, 1) := by decide +kernel
theorem dX5_digest_42 : decode cX5_digest 42 = .ok (.iload_n 3, 1) := by decide +kernel
theorem dX5_digest_43 : decode cX5_digest 43 = .ok (.aload_n 0, 1) := by decide +kernel
theorem dX5_digest_44 : decode cX5_digest 44 = .ok (.getfield 82, 3) := by decide +kernel
theorem dX5_digest_47 : decode cX5_digest 47 = .ok (.if_icmp .ge 113, 3) := by decide +kernel
theorem dX5_digest_50 : decode cX5_digest 50 = .ok (.iconst 0, 1) := by decide +kernel
theorem dX5_digest_51 : decode cX5_digest 51 = .ok (.istore 4, 2) := by decide +kernel
theorem dX5_digest_53 : decode cX5_digest 53 = .ok (.iload 4, 2) := by decide +kernel
theorem dX5_digest_55 : decode cX5_digest 55 = .ok (.iconst 5, 1) := by decide +kernel
theorem dX5_digest_56 : decode cX5_digest 56 = .ok (.if_icmp .ge 24, 3) := by decide +kernel
theorem dX5_digest_59 : decode cX5_digest 59 = .ok (.ldc2_w 210, 3) := by decide +kernel
theorem dX5_digest_62 : decode cX5_digest 62 = .ok (.lload_n 1, 1) := by decide +kernel
theorem dX5_digest_63 : decode cX5_digest 63 = .ok (.lmul, 1) := by decide +kernel
theorem dX5_digest_64 : decode cX5_digest 64 = .ok (.aload_n 0, 1) := by decide +kernel
theorem dX5_digest_65 : decode cX5_digest 65 = .ok (.iload_n 3, 1) := by decide +kernel
theorem dX5_digest_66 : decode cX5_digest 66 = .ok (.iload 4, 2) := by decide +kernel
theorem dX5_digest_68 : decode cX5_digest 68 = .ok (.invokevirtual 215, 3) := by decide +kernel
theorem dX5_digest_71 : decode cX5_digest 71 = .ok (.i2l, 1) := by decide +kernel
theorem dX5_digest_72 : decode cX5_digest 72 = .ok (.ladd, 1) := by decide +kernel
theorem dX5_digest_73 : decode cX5_digest 73 = .ok (.lstore_n 1, 1) := by decide +kernel
theorem dX5_digest_74 : decode cX5_digest 74 = .ok (.iinc 4 1, 3) := by decide +kernel
theorem dX5_digest_77 : decode cX5_digest 77 = .ok (.goto (-24), 3) := by decide +kernel
theorem dX5_digest_80 : decode cX5_digest 80 = .ok (.iconst 0, 1) := by decide +kernel
theorem dX5_digest_81 : decode cX5_digest 81 = .ok (.istore 4, 2) := by decide +kernel
theorem dX5_digest_83 : decode cX5_digest 83 = .ok (.iload 4, 2) := by decide +kernel
theorem dX5_digest_85 : decode cX5_digest 85 = .ok (.aload_n 0, 1) := by decide +kernel
theorem dX5_digest_86 : decode cX5_digest 86 = .ok (.getfield 28, 3) := by decide +kernel
theorem dX5_digest_89 : decode cX5_digest 89 = .ok (.if_icmp .ge 65, 3) := by decide +kernel
theorem dX5_digest_92 : decode cX5_digest 92 = .ok (.aload_n 0, 1) := by decide +kernel
theorem dX5_digest_93 : decode cX5_digest 93 = .ok (.iload_n 3, 1) := by decide +kernel
theorem dX5_digest_94 : decode cX5_digest 94 = .ok (.iload 4, 2) := by decide +kernel
theorem dX5_digest_96 : decode cX5_digest 96 = .ok (.invokevirtual 172, 3) := by decide +kernel
theorem dX5_digest_99 : decode cX5_digest 99 = .ok (.istore 5, 2) := by decide +kernel
theorem dX5_digest_101 : decode cX5_digest 101 = .ok (.ldc2_w 210, 3) := by decide +kernel
theorem dX5_digest_104 : decode cX5_digest 104 = .ok (.lload_n 1, 1) := by decide +kernel
theorem dX5_digest_105 : decode cX5_digest 105 = .ok (.lmul, 1) := by decide +kernel
theorem dX5_digest_106 : decode cX5_digest 106 = .ok (.iload 5, 2) := by decide +kernel
theorem dX5_digest_108 : decode cX5_digest 108 = .ok (.i2l, 1) := by decide +kernel
theorem dX5_digest_109 : decode cX5_digest 109 = .ok (.ladd, 1) := by decide +kernel
theorem dX5_digest_110 : decode cX5_digest 110 = .ok (.lstore_n 1, 1) := by decide +kernel
theorem dX5_digest_111 : decode cX5_digest 111 = .ok (.iload 5, 2) := by decide +kernel
theorem dX5_digest_113 : decode cX5_digest 113 = .ok (.ifCond .ne 35, 3) := by decide +kernel
theorem dX5_digest_116 : decode cX5_digest 116 = .ok (.aload_n 0, 1) := by decide +kernel
theorem dX5_digest_117 : decode cX5_digest 117 = .ok (.iload_n 3, 1) := by decide +kernel
theorem dX5_digest_118 : decode cX5_digest 118 = .ok (.iload 4, 2) := by decide +kernel
theorem dX5_digest_120 : decode cX5_digest 120 = .ok (.invokevirtual 181, 3) := by decide +kernel
theorem dX5_digest_123 : decode cX5_digest 123 = .ok (.ifCond .eq 25, 3) := by decide +kernel
theorem dX5_digest_126 : decode cX5_digest 126 = .ok (.ldc2_w 210, 3) := by decide +kernel
theorem dX5_digest_129 : decode cX5_digest 129 = .ok (.lload_n 1, 1) := by decide +kernel
theorem dX5_digest_130 : decode cX5_digest 130 = .ok (.lmul, 1) := by decide +kernel
theorem dX5_digest_131 : decode cX5_digest 131 = .ok (.aload_n 0, 1) := by decide +kernel
theorem dX5_digest_132 : decode cX5_digest 132 = .ok (.getfield 175, 3) := by decide +kernel
theorem dX5_digest_135 : decode cX5_digest 135 = .ok (.ladd, 1) := by decide +kernel
theorem dX5_digest_136 : decode cX5_digest 136 = .ok (.lstore_n 1, 1) := by decide +kernel
theorem dX5_digest_137 : decode cX5_digest 137 = .ok (.ldc2_w 210, 3) := by decide +kernel
theorem dX5_digest_140 : decode cX5_digest 140 = .ok (.lload_n 1, 1) := by decide +kernel
theorem dX5_digest_141 : decode cX5_digest 141 = .ok (.lmul, 1) := by decide +kernel
theorem dX5_digest_142 : decode cX5_digest 142 = .ok (.aload_n 0, 1) := by decide +kernel
theorem dX5_digest_143 : decode cX5_digest 143 = .ok (.getfield 178, 3) := by decide +kernel
theorem dX5_digest_146 : decode cX5_digest 146 = .ok (.ladd, 1) := by decide +kernel
theorem dX5_digest_147 : decode cX5_digest 147 = .ok (.lstore_n 1, 1) := by decide +kernel
theorem dX5_digest_148 : decode cX5_digest 148 = .ok (.iinc 4 1, 3) := by decide +kernel
theorem dX5_digest_151 : decode cX5_digest 151 = .ok (.goto (-68), 3) := by decide +kernel
theorem dX5_digest_154 : decode cX5_digest 154 = .ok (.iinc 3 1, 3) := by decide +kernel
theorem dX5_digest_157 : decode cX5_digest 157 = .ok (.goto (-115), 3) := by decide +kernel
theorem dX5_digest_160 : decode cX5_digest 160 = .ok (.lload_n 1, 1) := by decide +kernel
theorem dX5_digest_161 : decode cX5_digest 161 = .ok (.lreturn, 1) := by decide +kernel
theorem dJ9_floorDiv_f86c9_0 : decode cJ9_floorDiv_f86c9 0 = .ok (.lload_n 0, 1) := by decide +kernel
theorem dJ9_floorDiv_f86c9_1 : decode cJ9_floorDiv_f86c9 1 = .ok (.lload_n 2, 1) := by decide +kernel
theorem dJ9_floorDiv_f86c9_2 : decode cJ9_floorDiv_f86c9 2 = .ok (.ldiv, 1) := by decide +kernel
theorem dJ9_floorDiv_f86c9_3 : decode cJ9_floorDiv_f86c9 3 = .ok (.lstore 4, 2) := by decide +kernel
theorem dJ9_floorDiv_f86c9_5 : decode cJ9_floorDiv_f86c9 5 = .ok (.lload_n 0, 1) := by decide +kernel
theorem dJ9_floorDiv_f86c9_6 : decode cJ9_floorDiv_f86c9 6 = .ok (.lload_n 2, 1) := by decide +kernel
theorem dJ9_floorDiv_f86c9_7 : decode cJ9_floorDiv_f86c9 7 = .ok (.lxor, 1) := by decide +kernel
theorem dJ9_floorDiv_f86c9_8 : decode cJ9_floorDiv_f86c9 8 = .ok (.lconst 0, 1) := by decide +kernel
theorem dJ9_floorDiv_f86c9_9 : decode cJ9_floorDiv_f86c9 9 = .ok (.lcmp, 1) := by decide +kernel
theorem dJ9_floorDiv_f86c9_10 : decode cJ9_floorDiv_f86c9 10 = .ok (.ifCond .ge 17, 3) := by decide +kernel
theorem dJ9_floorDiv_f86c9_13 : decode cJ9_floorDiv_f86c9 13 = .ok (.lload 4, 2) := by decide +kernel
theorem dJ9_floorDiv_f86c9_15 : decode cJ9_floorDiv_f86c9 15 = .ok (.lload_n 2, 1) := by decide +kernel
theorem dJ9_floorDiv_f86c9_16 : decode cJ9_floorDiv_f86c9 16 = .ok (.lmul, 1) := by decide +kernel
theorem dJ9_floorDiv_f86c9_17 : decode cJ9_floorDiv_f86c9 17 = .ok (.lload_n 0, 1) := by decide +kernel
theorem dJ9_floorDiv_f86c9_18 : decode cJ9_floorDiv_f86c9 18 = .ok (.lcmp, 1) := by decide +kernel
theorem dJ9_floorDiv_f86c9_19 : decode cJ9_floorDiv_f86c9 19 = .ok (.ifCond .eq 8, 3) := by decide +kernel
theorem dJ9_floorDiv_f86c9_22 : decode cJ9_floorDiv_f86c9 22 = .ok (.lload 4, 2) := by decide +kernel
theorem dJ9_floorDiv_f86c9_24 : decode cJ9_floorDiv_f86c9 24 = .ok (.lconst 1, 1) := by decide +kernel
theorem dJ9_floorDiv_f86c9_25 : decode cJ9_floorDiv_f86c9 25 = .ok (.lsub, 1) := by decide +kernel
theorem dJ9_floorDiv_f86c9_26 : decode cJ9_floorDiv_f86c9 26 = .ok (.lreturn, 1) := by decide +kernel
theorem dJ9_floorDiv_f86c9_27 : decode cJ9_floorDiv_f86c9 27 = .ok (.lload 4, 2) := by decide +kernel
theorem dJ9_floorDiv_f86c9_29 : decode cJ9_floorDiv_f86c9 29 = .ok (.lreturn, 1) := by decide +kernel
theorem dJ9_abs_0f7a4_0 : decode cJ9_abs_0f7a4 0 = .ok (.iload_n 0, 1) := by decide +kernel
theorem dJ9_abs_0f7a4_1 : decode cJ9_abs_0f7a4 1 = .ok (.ifCond .ge 8, 3) := by decide +kernel
theorem dJ9_abs_0f7a4_4 : decode cJ9_abs_0f7a4 4 = .ok (.iload_n 0, 1) := by decide +kernel
theorem dJ9_abs_0f7a4_5 : decode cJ9_abs_0f7a4 5 = .ok (.ineg, 1) := by decide +kernel
theorem dJ9_abs_0f7a4_6 : decode cJ9_abs_0f7a4 6 = .ok (.goto 4, 3) := by decide +kernel
theorem dJ9_abs_0f7a4_9 : decode cJ9_abs_0f7a4 9 = .ok (.iload_n 0, 1) := by decide +kernel
theorem dJ9_abs_0f7a4_10 : decode cJ9_abs_0f7a4 10 = .ok (.ireturn, 1) := by decide +kernel
theorem dJ9_min_7cf53_0 : decode cJ9_min_7cf53 0 = .ok (.iload_n 0, 1) := by decide +kernel
theorem dJ9_min_7cf53_1 : decode cJ9_min_7cf53 1 = .ok (.iload_n 1, 1) := by decide +kernel
theorem dJ9_min_7cf53_2 : decode cJ9_min_7cf53 2 = .ok (.if_icmp .gt 7, 3) := by decide +kernel
theorem dJ9_min_7cf53_5 : decode cJ9_min_7cf53 5 = .ok (.iload_n 0, 1) := by decide +kernel
theorem dJ9_min_7cf53_6 : decode cJ9_min_7cf53 6 = .ok (.goto 4, 3) := by decide +kernel
theorem dJ9_min_7cf53_9 : decode cJ9_min_7cf53 9 = .ok (.iload_n 1, 1) := by decide +kernel
theorem dJ9_min_7cf53_10 : decode cJ9_min_7cf53 10 = .ok (.ireturn, 1) := by decide +kernel
theorem dJ9_min_f86c9_0 : decode cJ9_min_f86c9 0 = .ok (.lload_n 0, 1) := by decide +kernel
theorem dJ9_min_f86c9_1 : decode cJ9_min_f86c9 1 = .ok (.lload_n 2, 1) := by decide +kernel
theorem dJ9_min_f86c9_2 : decode cJ9_min_f86c9 2 = .ok (.lcmp, 1) := by decide +kernel
theorem dJ9_min_f86c9_3 : decode cJ9_min_f86c9 3 = .ok (.ifCond .gt 7, 3) := by decide +kernel
theorem dJ9_min_f86c9_6 : decode cJ9_min_f86c9 6 = .ok (.lload_n 0, 1) := by decide +kernel
theorem dJ9_min_f86c9_7 : decode cJ9_min_f86c9 7 = .ok (.goto 4, 3) := by decide +kernel
theorem dJ9_min_f86c9_10 : decode cJ9_min_f86c9 10 = .ok (.lload_n 2, 1) := by decide +kernel
theorem dJ9_min_f86c9_11 : decode cJ9_min_f86c9 11 = .ok (.lreturn, 1) := by decide +kernel
