theorem dX9_init_0 : decode cX9_init 0 = .ok (.aload_n 0, 1) := by decide +kernel
theorem dX9_init_1 : decode cX9_init 1 = .ok (.invokespecial 1, 3) := by decide +kernel
theorem dX9_init_4 : decode cX9_init 4 = .ok (.aload_n 0, 1) := by decide +kernel
theorem dX9_init_5 : decode cX9_init 5 = .ok (.bipush 6, 2) := by decide +kernel
theorem dX9_init_7 : decode cX9_init 7 = .ok (.newarray .int, 2) := by decide +kernel
theorem dX9_init_9 : decode cX9_init 9 = .ok (.putfield 7, 3) := by decide +kernel
theorem dX9_init_12 : decode cX9_init 12 = .ok (.aload_n 0, 1) := by decide +kernel
theorem dX9_init_13 : decode cX9_init 13 = .ok (.bipush 6, 2) := by decide +kernel
theorem dX9_init_15 : decode cX9_init 15 = .ok (.newarray .int, 2) := by decide +kernel
theorem dX9_init_17 : decode cX9_init 17 = .ok (.putfield 13, 3) := by decide +kernel
theorem dX9_init_20 : decode cX9_init 20 = .ok (.aload_n 0, 1) := by decide +kernel
theorem dX9_init_21 : decode cX9_init 21 = .ok (.bipush 6, 2) := by decide +kernel
theorem dX9_init_23 : decode cX9_init 23 = .ok (.newarray .int, 2) := by decide +kernel
theorem dX9_init_25 : decode cX9_init 25 = .ok (.putfield 16, 3) := by decide +kernel
theorem dX9_init_28 : decode cX9_init 28 = .ok (.aload_n 0, 1) := by decide +kernel
theorem dX9_init_29 : decode cX9_init 29 = .ok (.bipush 6, 2) := by decide +kernel
theorem dX9_init_31 : decode cX9_init 31 = .ok (.newarray .int, 2) := by decide +kernel
theorem dX9_init_33 : decode cX9_init 33 = .ok (.putfield 19, 3) := by decide +kernel
theorem dX9_init_36 : decode cX9_init 36 = .ok (.aload_n 0, 1) := by decide +kernel
theorem dX9_init_37 : decode cX9_init 37 = .ok (.bipush 6, 2) := by decide +kernel
theorem dX9_init_39 : decode cX9_init 39 = .ok (.newarray .int, 2) := by decide +kernel
theorem dX9_init_41 : decode cX9_init 41 = .ok (.putfield 22, 3) := by decide +kernel
theorem dX9_init_44 : decode cX9_init 44 = .ok (.aload_n 0, 1) := by decide +kernel
theorem dX9_init_45 : decode cX9_init 45 = .ok (.bipush 90, 2) := by decide +kernel
theorem dX9_init_47 : decode cX9_init 47 = .ok (.newarray .int, 2) := by decide +kernel
theorem dX9_init_49 : decode cX9_init 49 = .ok (.putfield 25, 3) := by decide +kernel
theorem dX9_init_52 : decode cX9_init 52 = .ok (.aload_n 0, 1) := by decide +kernel
theorem dX9_init_53 : decode cX9_init 53 = .ok (.bipush 78, 2) := by decide +kernel
theorem dX9_init_55 : decode cX9_init 55 = .ok (.newarray .int, 2) := by decide +kernel
theorem dX9_init_57 : decode cX9_init 57 = .ok (.putfield 28, 3) := by decide +kernel
theorem dX9_init_60 : decode cX9_init 60 = .ok (.aload_n 0, 1) := by decide +kernel
theorem dX9_init_61 : decode cX9_init 61 = .ok (.bipush 6, 2) := by decide +kernel
theorem dX9_init_63 : decode cX9_init 63 = .ok (.newarray .int, 2) := by decide +kernel
theorem dX9_init_65 : decode cX9_init 65 = .ok (.putfield 31, 3) := by decide +kernel
theorem dX9_init_68 : decode cX9_init 68 = .ok (.aload_n 0, 1) := by decide +kernel
theorem dX9_init_69 : decode cX9_init 69 = .ok (.bipush 12, 2) := by decide +kernel
theorem dX9_init_71 : decode cX9_init 71 = .ok (.newarray .int, 2) := by decide +kernel
theorem dX9_init_73 : decode cX9_init 73 = .ok (.putfield 34, 3) := by decide +kernel
theorem dX9_init_76 : decode cX9_init 76 = .ok (.aload_n 0, 1) := by decide +kernel
theorem dX9_init_77 : decode cX9_init 77 = .ok (.bipush 12, 2) := by decide +kernel
theorem dX9_init_79 : decode cX9_init 79 = .ok (.newarray .int, 2) := by decide +kernel
theorem dX9_init_81 : decode cX9_init 81 = .ok (.putfield 37, 3) := by decide +kernel
theorem dX9_init_84 : decode cX9_init 84 = .ok (.aload_n 0, 1) := by decide +kernel
theorem dX9_init_85 : decode cX9_init 85 = .ok (.bipush 12, 2) := by decide +kernel
theorem dX9_init_87 : decode cX9_init 87 = .ok (.newarray .int, 2) := by decide +kernel
theorem dX9_init_89 : decode cX9_init 89 = .ok (.putfield 40, 3) := by decide +kernel
theorem dX9_init_92 : decode cX9_init 92 = .ok (.aload_n 0, 1) := by decide +kernel
theorem dX9_init_93 : decode cX9_init 93 = .ok (.bipush 8, 2) := by decide +kernel
theorem dX9_init_95 : decode cX9_init 95 = .ok (.newarray .int, 2) := by decide +kernel
theorem dX9_init_97 : decode cX9_init 97 = .ok (.putfield 43, 3) := by decide +kernel
theorem dX9_init_100 : decode cX9_init 100 = .ok (.aload_n 0, 1) := by decide +kernel
theorem dX9_init_101 : decode cX9_init 101 = .ok (.bipush 8, 2) := by decide +kernel
theorem dX9_init_103 : decode cX9_init 103 = .ok (.newarray .int, 2) := by decide +kernel
theorem dX9_init_105 : decode cX9_init 105 = .ok (.putfield 46, 3) := by decide +kernel
theorem dX9_init_108 : decode cX9_init 108 = .ok (.aload_n 0, 1) := by decide +kernel
theorem dX9_init_109 : decode cX9_init 109 = .ok (.bipush 8, 2) := by decide +kernel
theorem dX9_init_111 : decode cX9_init 111 = .ok (.newarray .int, 2) := by decide +kernel
theorem dX9_init_113 : decode cX9_init 113 = .ok (.putfield 49, 3) := by decide +kernel
theorem dX9_init_116 : decode cX9_init 116 = .ok (.aload_n 0, 1) := by decide +kernel
theorem dX9_init_117 : decode cX9_init 117 = .ok (.iconst 4, 1) := by decide +kernel
theorem dX9_init_118 : decode cX9_init 118 = .ok (.newarray .boolean, 2) := by decide +kernel
theorem dX9_init_120 : decode cX9_init 120 = .ok (.putfield 52, 3) := by decide +kernel
theorem dX9_init_123 : decode cX9_init 123 = .ok (.aload_n 0, 1) := by decide +kernel
theorem dX9_init_124 : decode cX9_init 124 = .ok (.iconst 4, 1) := by decide +kernel
theorem dX9_init_125 : decode cX9_init 125 = .ok (.newarray .int, 2) := by decide +kernel
theorem dX9_init_127 : decode cX9_init 127 = .ok (.putfield 56, 3) := by decide +kernel
theorem dX9_init_130 : decode cX9_init 130 = .ok (.aload_n 0, 1) := by decide +kernel
theorem dX9_init_131 : decode cX9_init 131 = .ok (.iconst 4, 1) := by decide +kernel
theorem dX9_init_132 : decode cX9_init 132 = .ok (.newarray .int, 2) := by decide +kernel
theorem dX9_init_134 : decode cX9_init 134 = .ok (.putfield 59, 3) := by decide +kernel
theorem dX9_init_137 : decode cX9_init 137 = .ok (.aload_n 0, 1) := by decide +kernel
theorem dX9_init_138 : decode cX9_init 138 = .ok (.sipush 192, 3) := by decide +kernel
theorem dX9_init_141 : decode cX9_init 141 = .ok (.newarray .int, 2) := by decide +kernel
theorem dX9_init_143 : decode cX9_init 143 = .ok (.putfield 62, 3) := by decide +kernel
theorem dX9_init_146 : decode cX9_init 146 = .ok (.aload_n 0, 1) := by decide +kernel
theorem dX9_init_147 : decode cX9_init 147 = .ok (.bipush 48, 2) := by decide +kernel
theorem dX9_init_149 : decode cX9_init 149 = .ok (.newarray .int, 2) := by decide +kernel
theorem dX9_init_151 : decode cX9_init 151 = .ok (.putfield 65, 3) := by decide +kernel
theorem dX9_init_154 : decode cX9_init 154 = .ok (.iconst 0, 1) := by decide +kernel
theorem dX9_init_155 : decode cX9_init 155 = .ok (.istore_n 1, 1) := by decide +kernel
theorem dX9_init_156 : decode cX9_init 156 = .ok (.iload_n 1, 1) := by decide +kernel
theorem dX9_init_157 : decode cX9_init 157 = .ok (.bipush 6, 2) := by decide +kernel
theorem dX9_init_159 : decode cX9_init 159 = .ok (.if_icmp .ge 48, 3) := by decide +kernel
theorem dX9_init_162 : decode cX9_init 162 = .ok (.aload_n 0, 1) := by decide +kernel
theorem dX9_init_163 : decode cX9_init 163 = .ok (.getfield 7, 3) := by decide +kernel
theorem dX9_init_166 : decode cX9_init 166 = .ok (.iload_n 1, 1) := by decide +kernel
theorem dX9_init_167 : decode cX9_init 167 = .ok (.iload_n 1, 1) := by decide +kernel
theorem dX9_init_168 : decode cX9_init 168 = .ok (.iconst 1, 1) := by decide +kernel
theorem dX9_init_169 : decode cX9_init 169 = .ok (.iadd, 1) := by decide +kernel
theorem dX9_init_170 : decode cX9_init 170 = .ok (.iastore, 1) := by decide +kernel
theorem dX9_init_171 : decode cX9_init 171 = .ok (.aload_n 0, 1) := by decide +kernel
theorem dX9_init_172 : decode cX9_init 172 = .ok (.getfield 13, 3) := by decide +kernel
theorem dX9_init_175 : decode cX9_init 175 = .ok (.iload_n 1, 1) := by decide +kernel
theorem dX9_init_176 : decode cX9_init 176 = .ok (.iconst 5, 1) := by decide +kernel
theorem dX9_init_177 : decode cX9_init 177 = .ok (.iastore, 1) := by decide +kernel
theorem dX9_init_178 : decode cX9_init 178 = .ok (.aload_n 0, 1) := by decide +kernel
theorem dX9_init_179 : decode cX9_init 179 = .ok (.getfield 16, 3) := by decide +kernel
theorem dX9_init_182 : decode cX9_init 182 = .ok (.iload_n 1, 1) := by decide +kernel
theorem dX9_init_183 : decode cX9_init 183 = .ok (.iconst 3, 1) := by decide +kernel
theorem dX9_init_184 : decode cX9_init 184 = .ok (.iastore, 1) := by decide +kernel
theorem dX9_init_185 : decode cX9_init 185 = .ok (.aload_n 0, 1) := by decide +kernel
theorem dX9_init_186 : decode cX9_init 186 = .ok (.getfield 19, 3) := by decide +kernel
theorem dX9_init_189 : decode cX9_init 189 = .ok (.iload_n 1, 1) := by decide +kernel
theorem dX9_init_190 : decode cX9_init 190 = .ok (.iconst 5, 1) := by decide +kernel
theorem dX9_init_191 : decode cX9_init 191 = .ok (.iastore, 1) := by decide +kernel
theorem dX9_init_192 : decode cX9_init 192 = .ok (.aload_n 0, 1) := by decide +kernel
theorem dX9_init_193 : decode cX9_init 193 = .ok (.getfield 22, 3) := by decide +kernel
theorem dX9_init_196 : decode cX9_init 196 = .ok (.iload_n 1, 1) := by decide +kernel
theorem dX9_init_197 : decode cX9_init 197 = .ok (.iload_n 1, 1) := by decide +kernel
theorem dX9_init_198 : decode cX9_init 198 = .ok (.iconst 1, 1) := by decide +kernel
theorem dX9_init_199 : decode cX9_init 199 = .ok (.iadd, 1) := by decide +kernel
theorem dX9_init_200 : decode cX9_init 200 = .ok (.iastore, 1) := by decide +kernel
theorem dX9_init_201 : decode cX9_init 201 = .ok (.iinc 1 1, 3) := by decide +kernel
theorem dX9_init_204 : decode cX9_init 204 = .ok (.goto (-48), 3) := by decide +kernel
theorem dX9_init_207 : decode cX9_init 207 = .ok (.return_, 1) := by decide +kernel
theorem dX9_in_0 : decode cX9_in 0 = .ok (.iload_n 0, 1) := by decide +kernel
theorem dX9_in_1 : decode cX9_in 1 = .ok (.iload_n 1, 1) := by decide +kernel
theorem dX9_in_2 : decode cX9_in 2 = .ok (.if_icmp .lt 12, 3) := by decide +kernel
theorem dX9_in_5 : decode cX9_in 5 = .ok (.iload_n 0, 1) := by decide +kernel
theorem dX9_in_6 : decode cX9_in 6 = .ok (.iload_n 2, 1) := by decide +kernel
theorem dX9_in_7 : decode cX9_in 7 = .ok (.if_icmp .gt 7, 3) := by decide +kernel
theorem dX9_in_10 : decode cX9_in 10 = .ok (.iconst 1, 1) := by decide +kernel
theorem dX9_in_11 : decode cX9_in 11 = .ok (.goto 4, 3) := by decide +kernel
theorem dX9_in_14 : decode cX9_in 14 = .ok (.iconst 0, 1) := by decide +kernel
theorem dX9_in_15 : decode cX9_in 15 = .ok (.ireturn, 1) := by decide +kernel
theorem dX9_isIn_0 : decode cX9_isIn 0 = .ok (.iload_n 0, 1) := by decide +kernel
theorem dX9_isIn_1 : decode cX9_isIn 1 = .ok (.iload_n 1, 1) := by decide +kernel
theorem dX9_isIn_2 : decode cX9_isIn 2 = .ok (.ishr, 1) := by decide +kernel
theorem dX9_isIn_3 : decode cX9_isIn 3 = .ok (.iconst 1, 1) := by decide +kernel
theorem dX9_isIn_4 : decode cX9_isIn 4 = .ok (.iand, 1) := by decide +kernel
theorem dX9_isIn_5 : decode cX9_isIn 5 = .ok (.iconst 1, 1) := by decide +kernel
theorem dX9_isIn_6 : decode cX9_isIn 6 = .ok (.if_icmp .ne 7, 3) := by decide +kernel
theorem dX9_isIn_9 : decode cX9_isIn 9 = .ok (.iconst 1, 1) := by decide +kernel
theorem dX9_isIn_10 : decode cX9_isIn 10 = .ok (.goto 4, 3) := by decide +kernel
theorem dX9_isIn_13 : decode cX9_isIn 13 = .ok (.iconst 0, 1) := by decide +kernel
theorem dX9_isIn_14 : decode cX9_isIn 14 = .ok (.ireturn, 1) := by decide +kernel
theorem dX9_no_0 : decode cX9_no 0 = .ok (.ldc2_w 68, 3) := by decide +kernel
theorem dX9_no_3 : decode cX9_no 3 = .ok (.iload_n 0, 1) := by decide +kernel
theorem dX9_no_4 : decode cX9_no 4 = .ok (.i2l, 1) := by decide +kernel
theorem dX9_no_5 : decode cX9_no 5 = .ok (.lsub, 1) := by decide +kernel
theorem dX9_no_6 : decode cX9_no 6 = .ok (.lreturn, 1) := by decide +kernel
theorem dX9_lowest_0 : decode cX9_lowest 0 = .ok (.lload_n 0, 1) := by decide +kernel
theorem dX9_lowest_1 : decode cX9_lowest 1 = .ok (.lstore 5, 2) := by decide +kernel
theorem dX9_lowest_3 : decode cX9_lowest 3 = .ok (.lload_n 2, 1) := by decide +kernel
theorem dX9_lowest_4 : decode cX9_lowest 4 = .ok (.lstore 7, 2) := by decide +kernel
theorem dX9_lowest_6 : decode cX9_lowest 6 = .ok (.lload 7, 2) := by decide +kernel
theorem dX9_lowest_8 : decode cX9_lowest 8 = .ok (.lconst 0, 1) := by decide +kernel
theorem dX9_lowest_9 : decode cX9_lowest 9 = .ok (.lcmp, 1) := by decide +kernel
theorem dX9_lowest_10 : decode cX9_lowest 10 = .ok (.ifCond .eq 21, 3) := by decide +kernel
theorem dX9_lowest_13 : decode cX9_lowest 13 = .ok (.lload 5, 2) := by decide +kernel
theorem dX9_lowest_15 : decode cX9_lowest 15 = .ok (.lload 7, 2) := by decide +kernel
theorem dX9_lowest_17 : decode cX9_lowest 17 = .ok (.lrem, 1) := by decide +kernel
theorem dX9_lowest_18 : decode cX9_lowest 18 = .ok (.lstore 9, 2) := by decide +kernel
theorem dX9_lowest_20 : decode cX9_lowest 20 = .ok (.lload 7, 2) := by decide +kernel
theorem dX9_lowest_22 : decode cX9_lowest 22 = .ok (.lstore 5, 2) := by decide +kernel
theorem dX9_lowest_24 : decode cX9_lowest 24 = .ok (.lload 9, 2) := by decide +kernel
theorem dX9_lowest_26 : decode cX9_lowest 26 = .ok (.lstore 7, 2) := by decide +kernel
theorem dX9_lowest_28 : decode cX9_lowest 28 = .ok (.goto (-22), 3) := by decide +kernel
theorem dX9_lowest_31 : decode cX9_lowest 31 = .ok (.iload 4, 2) := by decide +kernel
theorem dX9_lowest_33 : decode cX9_lowest 33 = .ok (.ifCond .ne 10, 3) := by decide +kernel
theorem dX9_lowest_36 : decode cX9_lowest 36 = .ok (.lload_n 0, 1) := by decide +kernel
theorem dX9_lowest_37 : decode cX9_lowest 37 = .ok (.lload 5, 2) := by decide +kernel
theorem dX9_lowest_39 : decode cX9_lowest 39 = .ok (.ldiv, 1) := by decide +kernel
theorem dX9_lowest_40 : decode cX9_lowest 40 = .ok (.goto 7, 3) := by decide +kernel
theorem dX9_lowest_43 : decode cX9_lowest 43 = .ok (.lload_n 2, 1) := by decide +kernel
theorem dX9_lowest_44 : decode cX9_lowest 44 = .ok (.lload 5, 2) := by decide +kernel
theorem dX9_lowest_46 : decode cX9_lowest 46 = .ok (.ldiv, 1) := by decide +kernel
theorem dX9_lowest_47 : decode cX9_lowest 47 = .ok (.lreturn, 1) := by decide +kernel
set_option maxRecDepth 20000 in
theorem ggX9_isSix_X9_in : GoodIn wsX9_isSix wsX9_in := goodIn_r _ [4] (by decide +kernel) (by decide +kernel)
set_option maxRecDepth 20000 in
theorem gX9_isSix_X9_in : GoodIn wsX9_isSix (va_wsS RX9 70 yX9_in wsX9_in) := goodIn_app (goodIn_of _ (by decide +kernel)) ggX9_isSix_X9_in
theorem dX9_isSix_0 : decode cX9_isSix 0 = .ok (.iload_n 0, 1) := by decide +kernel
theorem dX9_isSix_1 : decode cX9_isSix 1 = .ok (.iconst 0, 1) := by decide +kernel
theorem dX9_isSix_2 : decode cX9_isSix 2 = .ok (.iconst 5, 1) := by decide +kernel
theorem dX9_isSix_3 : decode cX9_isSix 3 = .ok (.invokestatic 70, 3) := by decide +kernel
theorem dX9_isSix_6 : decode cX9_isSix 6 = .ok (.ireturn, 1) := by decide +kernel
set_option maxRecDepth 20000 in
theorem ggX9_hull_X9_isSix : GoodIn wsX9_hull wsX9_isSix := goodIn_r _ [6, 7, 8, 5, 9] (by decide +kernel) (by decide +kernel)
set_option maxRecDepth 20000 in
theorem gX9_hull_X9_isSix : GoodIn wsX9_hull (va_wsS RX9 74 yX9_isSix wsX9_isSix) := goodIn_app (goodIn_of _ (by decide +kernel)) ggX9_hull_X9_isSix
set_option maxRecDepth 20000 in
theorem ggX9_hull_X9_in : GoodIn wsX9_hull wsX9_in := goodIn_r _ [9] (by decide +kernel) (by decide +kernel)
set_option maxRecDepth 20000 in
theorem gX9_hull_X9_in : GoodIn wsX9_hull (va_wsS RX9 70 yX9_in wsX9_in) := goodIn_app (goodIn_of _ (by decide +kernel)) ggX9_hull_X9_in
theorem dX9_hull_0 : decode cX9_hull 0 = .ok (.iload_n 1, 1) := by decide +kernel
theorem dX9_hull_1 : decode cX9_hull 1 = .ok (.invokestatic 74, 3) := by decide +kernel
theorem dX9_hull_4 : decode cX9_hull 4 = .ok (.ifCond .eq 24, 3) := by decide +kernel
theorem dX9_hull_7 : decode cX9_hull 7 = .ok (.iload_n 2, 1) := by decide +kernel
theorem dX9_hull_8 : decode cX9_hull 8 = .ok (.iconst 0, 1) := by decide +kernel
theorem dX9_hull_9 : decode cX9_hull 9 = .ok (.iconst 1, 1) := by decide +kernel
theorem dX9_hull_10 : decode cX9_hull 10 = .ok (.invokestatic 70, 3) := by decide +kernel
theorem dX9_hull_13 : decode cX9_hull 13 = .ok (.ifCond .eq 15, 3) := by decide +kernel
theorem dX9_hull_16 : decode cX9_hull 16 = .ok (.iload_n 3, 1) := by decide +kernel
theorem dX9_hull_17 : decode cX9_hull 17 = .ok (.iconst 1, 1) := by decide +kernel
theorem dX9_hull_18 : decode cX9_hull 18 = .ok (.iload_n 2, 1) := by decide +kernel
theorem dX9_hull_19 : decode cX9_hull 19 = .ok (.isub, 1) := by decide +kernel
theorem dX9_hull_20 : decode cX9_hull 20 = .ok (.bipush 9, 2) := by decide +kernel
theorem dX9_hull_22 : decode cX9_hull 22 = .ok (.invokestatic 70, 3) := by decide +kernel
theorem dX9_hull_25 : decode cX9_hull 25 = .ok (.ifCond .ne 6, 3) := by decide +kernel
theorem dX9_hull_28 : decode cX9_hull 28 = .ok (.bipush (-2), 2) := by decide +kernel
theorem dX9_hull_30 : decode cX9_hull 30 = .ok (.ireturn, 1) := by decide +kernel
theorem dX9_hull_31 : decode cX9_hull 31 = .ok (.iload_n 2, 1) := by decide +kernel
theorem dX9_hull_32 : decode cX9_hull 32 = .ok (.ifCond .ne 12, 3) := by decide +kernel
theorem dX9_hull_35 : decode cX9_hull 35 = .ok (.aload_n 0, 1) := by decide +kernel
theorem dX9_hull_36 : decode cX9_hull 36 = .ok (.getfield 7, 3) := by decide +kernel
theorem dX9_hull_39 : decode cX9_hull 39 = .ok (.iload_n 1, 1) := by decide +kernel
theorem dX9_hull_40 : decode cX9_hull 40 = .ok (.iaload, 1) := by decide +kernel
theorem dX9_hull_41 : decode cX9_hull 41 = .ok (.goto 9, 3) := by decide +kernel
theorem dX9_hull_44 : decode cX9_hull 44 = .ok (.aload_n 0, 1) := by decide +kernel
theorem dX9_hull_45 : decode cX9_hull 45 = .ok (.getfield 13, 3) := by decide +kernel
theorem dX9_hull_48 : decode cX9_hull 48 = .ok (.iload_n 1, 1) := by decide +kernel
theorem dX9_hull_49 : decode cX9_hull 49 = .ok (.iaload, 1) := by decide +kernel
theorem dX9_hull_50 : decode cX9_hull 50 = .ok (.istore 4, 2) := by decide +kernel
theorem dX9_hull_52 : decode cX9_hull 52 = .ok (.iload_n 2, 1) := by decide +kernel
theorem dX9_hull_53 : decode cX9_hull 53 = .ok (.ifCond .ne 13, 3) := by decide +kernel
theorem dX9_hull_56 : decode cX9_hull 56 = .ok (.aload_n 0, 1) := by decide +kernel
theorem dX9_hull_57 : decode cX9_hull 57 = .ok (.getfield 7, 3) := by decide +kernel
theorem dX9_hull_60 : decode cX9_hull 60 = .ok (.iload_n 1, 1) := by decide +kernel
theorem dX9_hull_61 : decode cX9_hull 61 = .ok (.iload_n 3, 1) := by decide +kernel
theorem dX9_hull_62 : decode cX9_hull 62 = .ok (.iastore, 1) := by decide +kernel
theorem dX9_hull_63 : decode cX9_hull 63 = .ok (.goto 10, 3) := by decide +kernel
theorem dX9_hull_66 : decode cX9_hull 66 = .ok (.aload_n 0, 1) := by decide +kernel
theorem dX9_hull_67 : decode cX9_hull 67 = .ok (.getfield 13, 3) := by decide +kernel
theorem dX9_hull_70 : decode cX9_hull 70 = .ok (.iload_n 1, 1) := by decide +kernel
theorem dX9_hull_71 : decode cX9_hull 71 = .ok (.iload_n 3, 1) := by decide +kernel
theorem dX9_hull_72 : decode cX9_hull 72 = .ok (.iastore, 1) := by decide +kernel
theorem dX9_hull_73 : decode cX9_hull 73 = .ok (.iload 4, 2) := by decide +kernel
theorem dX9_hull_75 : decode cX9_hull 75 = .ok (.ireturn, 1) := by decide +kernel
set_option maxRecDepth 20000 in
theorem ggX9_name_X9_isSix : GoodIn wsX9_name wsX9_isSix := goodIn_r _ [7, 8, 9, 6, 10] (by decide +kernel) (by decide +kernel)
set_option maxRecDepth 20000 in
theorem gX9_name_X9_isSix : GoodIn wsX9_name (va_wsS RX9 74 yX9_isSix wsX9_isSix) := goodIn_app (goodIn_of _ (by decide +kernel)) ggX9_name_X9_isSix
set_option maxRecDepth 20000 in
theorem ggX9_name_X9_in : GoodIn wsX9_name wsX9_in := goodIn_r _ [10] (by decide +kernel) (by decide +kernel)
set_option maxRecDepth 20000 in
theorem gX9_name_X9_in : GoodIn wsX9_name (va_wsS RX9 70 yX9_in wsX9_in) := goodIn_app (goodIn_of _ (by decide +kernel)) ggX9_name_X9_in
theorem dX9_name_0 : decode cX9_name 0 = .ok (.iload_n 1, 1) := by decide +kernel
theorem dX9_name_1 : decode cX9_name 1 = .ok (.invokestatic 74, 3) := by decide +kernel
theorem dX9_name_4 : decode cX9_name 4 = .ok (.ifCond .eq 30, 3) := by decide +kernel
theorem dX9_name_7 : decode cX9_name 7 = .ok (.iload_n 2, 1) := by decide +kernel
theorem dX9_name_8 : decode cX9_name 8 = .ok (.iconst 0, 1) := by decide +kernel
theorem dX9_name_9 : decode cX9_name 9 = .ok (.iconst 2, 1) := by decide +kernel
theorem dX9_name_10 : decode cX9_name 10 = .ok (.invokestatic 70, 3) := by decide +kernel
theorem dX9_name_13 : decode cX9_name 13 = .ok (.ifCond .eq 21, 3) := by decide +kernel
theorem dX9_name_16 : decode cX9_name 16 = .ok (.iload_n 3, 1) := by decide +kernel
theorem dX9_name_17 : decode cX9_name 17 = .ok (.iload_n 2, 1) := by decide +kernel
theorem dX9_name_18 : decode cX9_name 18 = .ok (.ifCond .ne 7, 3) := by decide +kernel
theorem dX9_name_21 : decode cX9_name 21 = .ok (.iconst 1, 1) := by decide +kernel
theorem dX9_name_22 : decode cX9_name 22 = .ok (.goto 4, 3) := by decide +kernel
theorem dX9_name_25 : decode cX9_name 25 = .ok (.iconst 0, 1) := by decide +kernel
theorem dX9_name_26 : decode cX9_name 26 = .ok (.bipush 9, 2) := by decide +kernel
theorem dX9_name_28 : decode cX9_name 28 = .ok (.invokestatic 70, 3) := by decide +kernel
theorem dX9_name_31 : decode cX9_name 31 = .ok (.ifCond .ne 6, 3) := by decide +kernel
theorem dX9_name_34 : decode cX9_name 34 = .ok (.bipush (-2), 2) := by decide +kernel
theorem dX9_name_36 : decode cX9_name 36 = .ok (.ireturn, 1) := by decide +kernel
theorem dX9_name_37 : decode cX9_name 37 = .ok (.iload_n 2, 1) := by decide +kernel
theorem dX9_name_38 : decode cX9_name 38 = .ok (.ifCond .ne 12, 3) := by decide +kernel
theorem dX9_name_41 : decode cX9_name 41 = .ok (.aload_n 0, 1) := by decide +kernel
theorem dX9_name_42 : decode cX9_name 42 = .ok (.getfield 16, 3) := by decide +kernel
theorem dX9_name_45 : decode cX9_name 45 = .ok (.iload_n 1, 1) := by decide +kernel
theorem dX9_name_46 : decode cX9_name 46 = .ok (.iaload, 1) := by decide +kernel
theorem dX9_name_47 : decode cX9_name 47 = .ok (.goto 23, 3) := by decide +kernel
theorem dX9_name_50 : decode cX9_name 50 = .ok (.iload_n 2, 1) := by decide +kernel
theorem dX9_name_51 : decode cX9_name 51 = .ok (.iconst 1, 1) := by decide +kernel
theorem dX9_name_52 : decode cX9_name 52 = .ok (.if_icmp .ne 12, 3) := by decide +kernel
theorem dX9_name_55 : decode cX9_name 55 = .ok (.aload_n 0, 1) := by decide +kernel
theorem dX9_name_56 : decode cX9_name 56 = .ok (.getfield 19, 3) := by decide +kernel
theorem dX9_name_59 : decode cX9_name 59 = .ok (.iload_n 1, 1) := by decide +kernel
theorem dX9_name_60 : decode cX9_name 60 = .ok (.iaload, 1) := by decide +kernel
theorem dX9_name_61 : decode cX9_name 61 = .ok (.goto 9, 3) := by decide +kernel
theorem dX9_name_64 : decode cX9_name 64 = .ok (.aload_n 0, 1) := by decide +kernel
theorem dX9_name_65 : decode cX9_name 65 = .ok (.getfield 22, 3) := by decide +kernel
theorem dX9_name_68 : decode cX9_name 68 = .ok (.iload_n 1, 1) := by decide +kernel
theorem dX9_name_69 : decode cX9_name 69 = .ok (.iaload, 1) := by decide +kernel
theorem dX9_name_70 : decode cX9_name 70 = .ok (.istore 4, 2) := by decide +kernel
theorem dX9_name_72 : decode cX9_name 72 = .ok (.iload_n 2, 1) := by decide +kernel
theorem dX9_name_73 : decode cX9_name 73 = .ok (.ifCond .ne 13, 3) := by decide +kernel
theorem dX9_name_76 : decode cX9_name 76 = .ok (.aload_n 0, 1) := by decide +kernel
theorem dX9_name_77 : decode cX9_name 77 = .ok (.getfield 16, 3) := by decide +kernel
theorem dX9_name_80 : decode cX9_name 80 = .ok (.iload_n 1, 1) := by decide +kernel
theorem dX9_name_81 : decode cX9_name 81 = .ok (.iload_n 3, 1) := by decide +kernel
theorem dX9_name_82 : decode cX9_name 82 = .ok (.iastore, 1) := by decide +kernel
theorem dX9_name_83 : decode cX9_name 83 = .ok (.goto 25, 3) := by decide +kernel
theorem dX9_name_86 : decode cX9_name 86 = .ok (.iload_n 2, 1) := by decide +kernel
theorem dX9_name_87 : decode cX9_name 87 = .ok (.iconst 1, 1) := by decide +kernel
theorem dX9_name_88 : decode cX9_name 88 = .ok (.if_icmp .ne 13, 3) := by decide +kernel
theorem dX9_name_91 : decode cX9_name 91 = .ok (.aload_n 0, 1) := by decide +kernel
theorem dX9_name_92 : decode cX9_name 92 = .ok (.getfield 19, 3) := by decide +kernel
theorem dX9_name_95 : decode cX9_name 95 = .ok (.iload_n 1, 1) := by decide +kernel
theorem dX9_name_96 : decode cX9_name 96 = .ok (.iload_n 3, 1) := by decide +kernel
theorem dX9_name_97 : decode cX9_name 97 = .ok (.iastore, 1) := by decide +kernel
theorem dX9_name_98 : decode cX9_name 98 = .ok (.goto 10, 3) := by decide +kernel
theorem dX9_name_101 : decode cX9_name 101 = .ok (.aload_n 0, 1) := by decide +kernel
theorem dX9_name_102 : decode cX9_name 102 = .ok (.getfield 22, 3) := by decide +kernel
theorem dX9_name_105 : decode cX9_name 105 = .ok (.iload_n 1, 1) := by decide +kernel
theorem dX9_name_106 : decode cX9_name 106 = .ok (.iload_n 3, 1) := by decide +kernel
theorem dX9_name_107 : decode cX9_name 107 = .ok (.iastore, 1) := by decide +kernel
theorem dX9_name_108 : decode cX9_name 108 = .ok (.iload 4, 2) := by decide +kernel
theorem dX9_name_110 : decode cX9_name 110 = .ok (.ireturn, 1) := by decide +kernel
theorem dX9_doesFit_0 : decode cX9_doesFit 0 = .ok (.aload_n 0, 1) := by decide +kernel
theorem dX9_doesFit_1 : decode cX9_doesFit 1 = .ok (.getfield 7, 3) := by decide +kernel
theorem dX9_doesFit_4 : decode cX9_doesFit 4 = .ok (.iload_n 1, 1) := by decide +kernel
theorem dX9_doesFit_5 : decode cX9_doesFit 5 = .ok (.iaload, 1) := by decide +kernel
theorem dX9_doesFit_6 : decode cX9_doesFit 6 = .ok (.aload_n 0, 1) := by decide +kernel
theorem dX9_doesFit_7 : decode cX9_doesFit 7 = .ok (.getfield 16, 3) := by decide +kernel
theorem dX9_doesFit_10 : decode cX9_doesFit 10 = .ok (.iload_n 2, 1) := by decide +kernel
theorem dX9_doesFit_11 : decode cX9_doesFit 11 = .ok (.iaload, 1) := by decide +kernel
theorem dX9_doesFit_12 : decode cX9_doesFit 12 = .ok (.if_icmp .lt 22, 3) := by decide +kernel
theorem dX9_doesFit_15 : decode cX9_doesFit 15 = .ok (.aload_n 0, 1) := by decide +kernel
theorem dX9_doesFit_16 : decode cX9_doesFit 16 = .ok (.getfield 13, 3) := by decide +kernel
theorem dX9_doesFit_19 : decode cX9_doesFit 19 = .ok (.iload_n 1, 1) := by decide +kernel
theorem dX9_doesFit_20 : decode cX9_doesFit 20 = .ok (.iaload, 1) := by decide +kernel
theorem dX9_doesFit_21 : decode cX9_doesFit 21 = .ok (.aload_n 0, 1) := by decide +kernel
theorem dX9_doesFit_22 : decode cX9_doesFit 22 = .ok (.getfield 19, 3) := by decide +kernel
theorem dX9_doesFit_25 : decode cX9_doesFit 25 = .ok (.iload_n 2, 1) := by decide +kernel
theorem dX9_doesFit_26 : decode cX9_doesFit 26 = .ok (.iaload, 1) := by decide +kernel
theorem dX9_doesFit_27 : decode cX9_doesFit 27 = .ok (.if_icmp .lt 7, 3) := by decide +kernel
theorem dX9_doesFit_30 : decode cX9_doesFit 30 = .ok (.iconst 1, 1) := by decide +kernel
theorem dX9_doesFit_31 : decode cX9_doesFit 31 = .ok (.goto 4, 3) := by decide +kernel
theorem dX9_doesFit_34 : decode cX9_doesFit 34 = .ok (.iconst 0, 1) := by decide +kernel
theorem dX9_doesFit_35 : decode cX9_doesFit 35 = .ok (.ireturn, 1) := by decide +kernel
set_option maxRecDepth 20000 in
theorem ggX9_fits_X9_isSix : GoodIn wsX9_fits wsX9_isSix := goodIn_r _ [4, 5, 6, 3, 7] (by decide +kernel) (by decide +kernel)
set_option maxRecDepth 20000 in
theorem gX9_fits_X9_isSix : GoodIn wsX9_fits (va_wsS RX9 74 yX9_isSix wsX9_isSix) := goodIn_app (goodIn_of _ (by decide +kernel)) ggX9_fits_X9_isSix
set_option maxRecDepth 20000 in
theorem ggX9_fits_X9_doesFit : GoodIn wsX9_fits wsX9_doesFit := goodIn_r _ [11, 12, 13, 14, 15, 16, 17, 18, 19, 20, 21, 22, 23, 24, 25, 26, 27, 28, 29, 30, 31, 32, 33, 34, 35, 36, 37, 38, 39] (by decide +kernel) (by decide +kernel)
set_option maxRecDepth 20000 in
theorem gX9_fits_X9_doesFit : GoodIn wsX9_fits (wsV RX9 78 RX9 yX9_doesFit wsX9_doesFit) := goodIn_app (goodIn_of _ (by decide +kernel)) ggX9_fits_X9_doesFit
theorem dX9_fits_0 : decode cX9_fits 0 = .ok (.iload_n 1, 1) := by decide +kernel
theorem dX9_fits_1 : decode cX9_fits 1 = .ok (.invokestatic 74, 3) := by decide +kernel
theorem dX9_fits_4 : decode cX9_fits 4 = .ok (.ifCond .eq 27, 3) := by decide +kernel
theorem dX9_fits_7 : decode cX9_fits 7 = .ok (.iload_n 2, 1) := by decide +kernel
theorem dX9_fits_8 : decode cX9_fits 8 = .ok (.invokestatic 74, 3) := by decide +kernel
theorem dX9_fits_11 : decode cX9_fits 11 = .ok (.ifCond .eq 20, 3) := by decide +kernel
theorem dX9_fits_14 : decode cX9_fits 14 = .ok (.aload_n 0, 1) := by decide +kernel
theorem dX9_fits_15 : decode cX9_fits 15 = .ok (.iload_n 1, 1) := by decide +kernel
theorem dX9_fits_16 : decode cX9_fits 16 = .ok (.iload_n 2, 1) := by decide +kernel
theorem dX9_fits_17 : decode cX9_fits 17 = .ok (.invokevirtual 78, 3) := by decide +kernel
theorem dX9_fits_20 : decode cX9_fits 20 = .ok (.ifCond .eq 7, 3) := by decide +kernel
theorem dX9_fits_23 : decode cX9_fits 23 = .ok (.iconst 1, 1) := by decide +kernel
theorem dX9_fits_24 : decode cX9_fits 24 = .ok (.goto 9, 3) := by decide +kernel
theorem dX9_fits_27 : decode cX9_fits 27 = .ok (.iconst 0, 1) := by decide +kernel
theorem dX9_fits_28 : decode cX9_fits 28 = .ok (.goto 5, 3) := by decide +kernel
theorem dX9_fits_31 : decode cX9_fits 31 = .ok (.bipush (-2), 2) := by decide +kernel
theorem dX9_fits_33 : decode cX9_fits 33 = .ok (.ireturn, 1) := by decide +kernel
theorem dX9_typeOne_0 : decode cX9_typeOne 0 = .ok (.aload_n 0, 1) := by decide +kernel
theorem dX9_typeOne_1 : decode cX9_typeOne 1 = .ok (.getfield 82, 3) := by decide +kernel
theorem dX9_typeOne_4 : decode cX9_typeOne 4 = .ok (.bipush 90, 2) := by decide +kernel
theorem dX9_typeOne_6 : decode cX9_typeOne 6 = .ok (.if_icmp .ne 6, 3) := by decide +kernel
theorem dX9_typeOne_9 : decode cX9_typeOne 9 = .ok (.bipush (-4), 2) := by decide +kernel
theorem dX9_typeOne_11 : decode cX9_typeOne 11 = .ok (.ireturn, 1) := by decide +kernel
theorem dX9_typeOne_12 : decode cX9_typeOne 12 = .ok (.aload_n 0, 1) := by decide +kernel
theorem dX9_typeOne_13 : decode cX9_typeOne 13 = .ok (.getfield 25, 3) := by decide +kernel
theorem dX9_typeOne_16 : decode cX9_typeOne 16 = .ok (.aload_n 0, 1) := by decide +kernel
theorem dX9_typeOne_17 : decode cX9_typeOne 17 = .ok (.getfield 82, 3) := by decide +kernel
theorem dX9_typeOne_20 : decode cX9_typeOne 20 = .ok (.iload_n 1, 1) := by decide +kernel
theorem dX9_typeOne_21 : decode cX9_typeOne 21 = .ok (.iastore, 1) := by decide +kernel
theorem dX9_typeOne_22 : decode cX9_typeOne 22 = .ok (.aload_n 0, 1) := by decide +kernel
theorem dX9_typeOne_23 : decode cX9_typeOne 23 = .ok (.dup, 1) := by decide +kernel
theorem dX9_typeOne_24 : decode cX9_typeOne 24 = .ok (.getfield 82, 3) := by decide +kernel
theorem dX9_typeOne_27 : decode cX9_typeOne 27 = .ok (.iconst 1, 1) := by decide +kernel
theorem dX9_typeOne_28 : decode cX9_typeOne 28 = .ok (.iadd, 1) := by decide +kernel
theorem dX9_typeOne_29 : decode cX9_typeOne 29 = .ok (.putfield 82, 3) := by decide +kernel
theorem dX9_typeOne_32 : decode cX9_typeOne 32 = .ok (.aload_n 0, 1) := by decide +kernel
theorem dX9_typeOne_33 : decode cX9_typeOne 33 = .ok (.getfield 82, 3) := by decide +kernel
theorem dX9_typeOne_36 : decode cX9_typeOne 36 = .ok (.ireturn, 1) := by decide +kernel
set_option maxRecDepth 20000 in
theorem ggX9_type_X9_in : GoodIn wsX9_type wsX9_in := goodIn_r _ [4] (by decide +kernel) (by decide +kernel)
set_option maxRecDepth 20000 in
theorem gX9_type_X9_in : GoodIn wsX9_type (va_wsS RX9 70 yX9_in wsX9_in) := goodIn_app (goodIn_of _ (by decide +kernel)) ggX9_type_X9_in
set_option maxRecDepth 20000 in
theorem ggX9_type_X9_typeOne : GoodIn wsX9_type wsX9_typeOne := goodIn_r _ [8, 9, 10, 11, 12, 13, 14, 15, 16, 17, 18, 19, 20, 21, 22, 23, 24, 25, 26, 27, 28, 29, 30, 31, 32, 33, 34] (by decide +kernel) (by decide +kernel)
set_option maxRecDepth 20000 in
theorem gX9_type_X9_typeOne : GoodIn wsX9_type (wsV RX9 86 RX9 yX9_typeOne wsX9_typeOne) := goodIn_app (goodIn_of _ (by decide +kernel)) ggX9_type_X9_typeOne
theorem dX9_type_0 : decode cX9_type 0 = .ok (.iload_n 1, 1) := by decide +kernel
theorem dX9_type_1 : decode cX9_type 1 = .ok (.iconst 0, 1) := by decide +kernel
theorem dX9_type_2 : decode cX9_type 2 = .ok (.sipush 255, 3) := by decide +kernel
theorem dX9_type_5 : decode cX9_type 5 = .ok (.invokestatic 70, 3) := by decide +kernel
theorem dX9_type_8 : decode cX9_type 8 = .ok (.ifCond .eq 11, 3) := by decide +kernel
theorem dX9_type_11 : decode cX9_type 11 = .ok (.aload_n 0, 1) := by decide +kernel
theorem dX9_type_12 : decode cX9_type 12 = .ok (.iload_n 1, 1) := by decide +kernel
theorem dX9_type_13 : decode cX9_type 13 = .ok (.invokevirtual 86, 3) := by decide +kernel
theorem dX9_type_16 : decode cX9_type 16 = .ok (.goto 5, 3) := by decide +kernel
theorem dX9_type_19 : decode cX9_type 19 = .ok (.bipush (-2), 2) := by decide +kernel
theorem dX9_type_21 : decode cX9_type 21 = .ok (.ireturn, 1) := by decide +kernel
theorem dX9_wipe_0 : decode cX9_wipe 0 = .ok (.aload_n 0, 1) := by decide +kernel
theorem dX9_wipe_1 : decode cX9_wipe 1 = .ok (.getfield 82, 3) := by decide +kernel
theorem dX9_wipe_4 : decode cX9_wipe 4 = .ok (.istore_n 1, 1) := by decide +kernel
theorem dX9_wipe_5 : decode cX9_wipe 5 = .ok (.aload_n 0, 1) := by decide +kernel
theorem dX9_wipe_6 : decode cX9_wipe 6 = .ok (.iconst 0, 1) := by decide +kernel
theorem dX9_wipe_7 : decode cX9_wipe 7 = .ok (.putfield 82, 3) := by decide +kernel
theorem dX9_wipe_10 : decode cX9_wipe 10 = .ok (.iload_n 1, 1) := by decide +kernel
theorem dX9_wipe_11 : decode cX9_wipe 11 = .ok (.ireturn, 1) := by decide +kernel
set_option maxRecDepth 20000 in
theorem ggX9_faultNow_X9_isSix : GoodIn wsX9_faultNow wsX9_isSix := goodIn_r _ [8, 9, 10, 7, 11] (by decide +kernel) (by decide +kernel)
set_option maxRecDepth 20000 in
theorem gX9_faultNow_X9_isSix : GoodIn wsX9_faultNow (va_wsS RX9 74 yX9_isSix wsX9_isSix) := goodIn_app (goodIn_of _ (by decide +kernel)) ggX9_faultNow_X9_isSix
set_option maxRecDepth 20000 in
theorem ggX9_faultNow_X9_isIn : GoodIn wsX9_faultNow wsX9_isIn := goodIn_r _ [14] (by decide +kernel) (by decide +kernel)
set_option maxRecDepth 20000 in
theorem gX9_faultNow_X9_isIn : GoodIn wsX9_faultNow (va_wsS RX9 93 yX9_isIn wsX9_isIn) := goodIn_app (goodIn_of _ (by decide +kernel)) ggX9_faultNow_X9_isIn
theorem dX9_faultNow_0 : decode cX9_faultNow 0 = .ok (.aload_n 0, 1) := by decide +kernel
theorem dX9_faultNow_1 : decode cX9_faultNow 1 = .ok (.iconst 0, 1) := by decide +kernel
theorem dX9_faultNow_2 : decode cX9_faultNow 2 = .ok (.putfield 90, 3) := by decide +kernel
theorem dX9_faultNow_5 : decode cX9_faultNow 5 = .ok (.iconst 0, 1) := by decide +kernel
theorem dX9_faultNow_6 : decode cX9_faultNow 6 = .ok (.istore_n 1, 1) := by decide +kernel
theorem dX9_faultNow_7 : decode cX9_faultNow 7 = .ok (.iconst 0, 1) := by decide +kernel
theorem dX9_faultNow_8 : decode cX9_faultNow 8 = .ok (.istore_n 2, 1) := by decide +kernel
theorem dX9_faultNow_9 : decode cX9_faultNow 9 = .ok (.iload_n 2, 1) := by decide +kernel
theorem dX9_faultNow_10 : decode cX9_faultNow 10 = .ok (.aload_n 0, 1) := by decide +kernel
theorem dX9_faultNow_11 : decode cX9_faultNow 11 = .ok (.getfield 82, 3) := by decide +kernel
theorem dX9_faultNow_14 : decode cX9_faultNow 14 = .ok (.if_icmp .lt 7, 3) := by decide +kernel
theorem dX9_faultNow_17 : decode cX9_faultNow 17 = .ok (.iload_n 2, 1) := by decide +kernel
theorem dX9_faultNow_18 : decode cX9_faultNow 18 = .ok (.ifCond .le 132, 3) := by decide +kernel
theorem dX9_faultNow_21 : decode cX9_faultNow 21 = .ok (.iload_n 1, 1) := by decide +kernel
theorem dX9_faultNow_22 : decode cX9_faultNow 22 = .ok (.bipush 12, 2) := by decide +kernel
theorem dX9_faultNow_24 : decode cX9_faultNow 24 = .ok (.if_icmp .ne 5, 3) := by decide +kernel
theorem dX9_faultNow_27 : decode cX9_faultNow 27 = .ok (.iload_n 2, 1) := by decide +kernel
theorem dX9_faultNow_28 : decode cX9_faultNow 28 = .ok (.ireturn, 1) := by decide +kernel
theorem dX9_faultNow_29 : decode cX9_faultNow 29 = .ok (.iconst 0, 1) := by decide +kernel
theorem dX9_faultNow_30 : decode cX9_faultNow 30 = .ok (.istore_n 3, 1) := by decide +kernel
theorem dX9_faultNow_31 : decode cX9_faultNow 31 = .ok (.iconst 0, 1) := by decide +kernel
theorem dX9_faultNow_32 : decode cX9_faultNow 32 = .ok (.istore 4, 2) := by decide +kernel
theorem dX9_faultNow_34 : decode cX9_faultNow 34 = .ok (.iload 4, 2) := by decide +kernel
theorem dX9_faultNow_36 : decode cX9_faultNow 36 = .ok (.bipush 6, 2) := by decide +kernel
theorem dX9_faultNow_38 : decode cX9_faultNow 38 = .ok (.if_icmp .ge 75, 3) := by decide +kernel
theorem dX9_faultNow_41 : decode cX9_faultNow 41 = .ok (.iload_n 2, 1) := by decide +kernel
theorem dX9_faultNow_42 : decode cX9_faultNow 42 = .ok (.aload_n 0, 1) := by decide +kernel
theorem dX9_faultNow_43 : decode cX9_faultNow 43 = .ok (.getfield 82, 3) := by decide +kernel
theorem dX9_faultNow_46 : decode cX9_faultNow 46 = .ok (.if_icmp .ge 15, 3) := by decide +kernel
theorem dX9_faultNow_49 : decode cX9_faultNow 49 = .ok (.aload_n 0, 1) := by decide +kernel
theorem dX9_faultNow_50 : decode cX9_faultNow 50 = .ok (.getfield 25, 3) := by decide +kernel
theorem dX9_faultNow_53 : decode cX9_faultNow 53 = .ok (.iload_n 2, 1) := by decide +kernel
theorem dX9_faultNow_54 : decode cX9_faultNow 54 = .ok (.iaload, 1) := by decide +kernel
theorem dX9_faultNow_55 : decode cX9_faultNow 55 = .ok (.bipush 48, 2) := by decide +kernel
theorem dX9_faultNow_57 : decode cX9_faultNow 57 = .ok (.isub, 1) := by decide +kernel
theorem dX9_faultNow_58 : decode cX9_faultNow 58 = .ok (.goto 4, 3) := by decide +kernel
theorem dX9_faultNow_61 : decode cX9_faultNow 61 = .ok (.iconst (-1), 1) := by decide +kernel
theorem dX9_faultNow_62 : decode cX9_faultNow 62 = .ok (.istore 5, 2) := by decide +kernel
theorem dX9_faultNow_64 : decode cX9_faultNow 64 = .ok (.iload 5, 2) := by decide +kernel
theorem dX9_faultNow_66 : decode cX9_faultNow 66 = .ok (.invokestatic 74, 3) := by decide +kernel
theorem dX9_faultNow_69 : decode cX9_faultNow 69 = .ok (.ifCond .eq 12, 3) := by decide +kernel
theorem dX9_faultNow_72 : decode cX9_faultNow 72 = .ok (.iload_n 3, 1) := by decide +kernel
theorem dX9_faultNow_73 : decode cX9_faultNow 73 = .ok (.iload 5, 2) := by decide +kernel
theorem dX9_faultNow_75 : decode cX9_faultNow 75 = .ok (.invokestatic 93, 3) := by decide +kernel
theorem dX9_faultNow_78 : decode cX9_faultNow 78 = .ok (.ifCond .eq 5, 3) := by decide +kernel
theorem dX9_faultNow_81 : decode cX9_faultNow 81 = .ok (.iload_n 2, 1) := by decide +kernel
theorem dX9_faultNow_82 : decode cX9_faultNow 82 = .ok (.ireturn, 1) := by decide +kernel
theorem dX9_faultNow_83 : decode cX9_faultNow 83 = .ok (.iload_n 3, 1) := by decide +kernel
theorem dX9_faultNow_84 : decode cX9_faultNow 84 = .ok (.iconst 1, 1) := by decide +kernel
theorem dX9_faultNow_85 : decode cX9_faultNow 85 = .ok (.iload 5, 2) := by decide +kernel
theorem dX9_faultNow_87 : decode cX9_faultNow 87 = .ok (.ishl, 1) := by decide +kernel
theorem dX9_faultNow_88 : decode cX9_faultNow 88 = .ok (.ior, 1) := by decide +kernel
theorem dX9_faultNow_89 : decode cX9_faultNow 89 = .ok (.istore_n 3, 1) := by decide +kernel
theorem dX9_faultNow_90 : decode cX9_faultNow 90 = .ok (.aload_n 0, 1) := by decide +kernel
theorem dX9_faultNow_91 : decode cX9_faultNow 91 = .ok (.getfield 28, 3) := by decide +kernel
theorem dX9_faultNow_94 : decode cX9_faultNow 94 = .ok (.bipush 6, 2) := by decide +kernel
theorem dX9_faultNow_96 : decode cX9_faultNow 96 = .ok (.iload_n 1, 1) := by decide +kernel
theorem dX9_faultNow_97 : decode cX9_faultNow 97 = .ok (.imul, 1) := by decide +kernel
theorem dX9_faultNow_98 : decode cX9_faultNow 98 = .ok (.iload 4, 2) := by decide +kernel
theorem dX9_faultNow_100 : decode cX9_faultNow 100 = .ok (.iadd, 1) := by decide +kernel
theorem dX9_faultNow_101 : decode cX9_faultNow 101 = .ok (.iload 5, 2) := by decide +kernel
theorem dX9_faultNow_103 : decode cX9_faultNow 103 = .ok (.iastore, 1) := by decide +kernel
theorem dX9_faultNow_104 : decode cX9_faultNow 104 = .ok (.iinc 2 1, 3) := by decide +kernel
theorem dX9_faultNow_107 : decode cX9_faultNow 107 = .ok (.iinc 4 1, 3) := by decide +kernel
theorem dX9_faultNow_110 : decode cX9_faultNow 110 = .ok (.goto (-76), 3) := by decide +kernel
theorem dX9_faultNow_113 : decode cX9_faultNow 113 = .ok (.iinc 1 1, 3) := by decide +kernel
theorem dX9_faultNow_116 : decode cX9_faultNow 116 = .ok (.iload_n 2, 1) := by decide +kernel
theorem dX9_faultNow_117 : decode cX9_faultNow 117 = .ok (.aload_n 0, 1) := by decide +kernel
theorem dX9_faultNow_118 : decode cX9_faultNow 118 = .ok (.getfield 82, 3) := by decide +kernel
theorem dX9_faultNow_121 : decode cX9_faultNow 121 = .ok (.if_icmp .ne 10, 3) := by decide +kernel
theorem dX9_faultNow_124 : decode cX9_faultNow 124 = .ok (.aload_n 0, 1) := by decide +kernel
theorem dX9_faultNow_125 : decode cX9_faultNow 125 = .ok (.iload_n 1, 1) := by decide +kernel
theorem dX9_faultNow_126 : decode cX9_faultNow 126 = .ok (.putfield 90, 3) := by decide +kernel
theorem dX9_faultNow_129 : decode cX9_faultNow 129 = .ok (.iconst (-1), 1) := by decide +kernel
theorem dX9_faultNow_130 : decode cX9_faultNow 130 = .ok (.ireturn, 1) := by decide +kernel
theorem dX9_faultNow_131 : decode cX9_faultNow 131 = .ok (.aload_n 0, 1) := by decide +kernel
theorem dX9_faultNow_132 : decode cX9_faultNow 132 = .ok (.getfield 25, 3) := by decide +kernel
theorem dX9_faultNow_135 : decode cX9_faultNow 135 = .ok (.iload_n 2, 1) := by decide +kernel
theorem dX9_faultNow_136 : decode cX9_faultNow 136 = .ok (.iaload, 1) := by decide +kernel
theorem dX9_faultNow_137 : decode cX9_faultNow 137 = .ok (.bipush 59, 2) := by decide +kernel
theorem dX9_faultNow_139 : decode cX9_faultNow 139 = .ok (.if_icmp .eq 5, 3) := by decide +kernel
theorem dX9_faultNow_142 : decode cX9_faultNow 142 = .ok (.iload_n 2, 1) := by decide +kernel
theorem dX9_faultNow_143 : decode cX9_faultNow 143 = .ok (.ireturn, 1) := by decide +kernel
theorem dX9_faultNow_144 : decode cX9_faultNow 144 = .ok (.iinc 2 1, 3) := by decide +kernel
theorem dX9_faultNow_147 : decode cX9_faultNow 147 = .ok (.goto (-138), 3) := by decide +kernel
theorem dX9_faultNow_150 : decode cX9_faultNow 150 = .ok (.iconst (-1), 1) := by decide +kernel
theorem dX9_faultNow_151 : decode cX9_faultNow 151 = .ok (.ireturn, 1) := by decide +kernel
set_option maxRecDepth 20000 in
theorem ggX9_fault_X9_faultNow : GoodIn wsX9_fault wsX9_faultNow := goodIn_r _ [5, 6, 7, 8, 9, 10, 11, 4, 12, 13, 14, 15, 16, 17, 18, 19, 20, 21, 22, 23, 24, 25, 26, 27, 28, 29, 30, 31, 32, 33, 34, 35, 36, 37, 38, 39, 40, 41, 42] (by decide +kernel) (by decide +kernel)
set_option maxRecDepth 20000 in
theorem gX9_fault_X9_faultNow : GoodIn wsX9_fault (wsV RX9 96 RX9 yX9_faultNow wsX9_faultNow) := goodIn_app (goodIn_of _ (by decide +kernel)) ggX9_fault_X9_faultNow
theorem dX9_fault_0 : decode cX9_fault 0 = .ok (.aload_n 0, 1) := by decide +kernel
theorem dX9_fault_1 : decode cX9_fault 1 = .ok (.invokevirtual 96, 3) := by decide +kernel
theorem dX9_fault_4 : decode cX9_fault 4 = .ok (.ireturn, 1) := by decide +kernel
set_option maxRecDepth 20000 in
theorem ggX9_read_X9_isSheet : GoodIn wsX9_read wsX9_isSheet := goodIn_r _ [8, 9, 10, 7, 11] (by decide +kernel) (by decide +kernel)
set_option maxRecDepth 20000 in
theorem gX9_read_X9_isSheet : GoodIn wsX9_read (va_wsS RX9 100 yX9_isSheet wsX9_isSheet) := goodIn_app (goodIn_of _ (by decide +kernel)) ggX9_read_X9_isSheet
set_option maxRecDepth 20000 in
theorem ggX9_read_X9_meets : GoodIn wsX9_read wsX9_meets := goodIn_r _ [15, 16, 28, 29, 30, 31, 32, 33, 34, 35, 36, 37, 38, 39, 40, 41, 42, 43, 44, 45, 46, 47, 48, 49, 50, 51] (by decide +kernel) (by decide +kernel)
set_option maxRecDepth 20000 in
theorem gX9_read_X9_meets : GoodIn wsX9_read (wsV RX9 103 RX9 yX9_meets wsX9_meets) := goodIn_app (goodIn_of _ (by decide +kernel)) ggX9_read_X9_meets
set_option maxRecDepth 20000 in
theorem ggX9_read_X9_isSix : GoodIn wsX9_read wsX9_isSix := goodIn_r _ [19, 9, 10, 7, 11] (by decide +kernel) (by decide +kernel)
set_option maxRecDepth 20000 in
theorem gX9_read_X9_isSix : GoodIn wsX9_read (va_wsS RX9 74 yX9_isSix wsX9_isSix) := goodIn_app (goodIn_of _ (by decide +kernel)) ggX9_read_X9_isSix
set_option maxRecDepth 20000 in
theorem ggX9_read_X9_isIn : GoodIn wsX9_read wsX9_isIn := goodIn_r _ [22] (by decide +kernel) (by decide +kernel)
set_option maxRecDepth 20000 in
theorem gX9_read_X9_isIn : GoodIn wsX9_read (va_wsS RX9 93 yX9_isIn wsX9_isIn) := goodIn_app (goodIn_of _ (by decide +kernel)) ggX9_read_X9_isIn
set_option maxRecDepth 20000 in
theorem ggX9_read_X9_typeOne : GoodIn wsX9_read wsX9_typeOne := goodIn_r _ [26, 4, 27, 28, 29, 30, 31, 32, 33, 34, 35, 36, 37, 38, 39, 40, 41, 42, 43, 44, 45, 46, 47, 48, 49, 50, 51] (by decide +kernel) (by decide +kernel)
set_option maxRecDepth 20000 in
theorem gX9_read_X9_typeOne : GoodIn wsX9_read (wsV RX9 86 RX9 yX9_typeOne wsX9_typeOne) := goodIn_app (goodIn_of _ (by decide +kernel)) ggX9_read_X9_typeOne
theorem dX9_read_0 : decode cX9_read 0 = .ok (.iload_n 1, 1) := by decide +kernel
theorem dX9_read_1 : decode cX9_read 1 = .ok (.invokestatic 100, 3) := by decide +kernel
theorem dX9_read_4 : decode cX9_read 4 = .ok (.ifCond .ne 6, 3) := by decide +kernel
theorem dX9_read_7 : decode cX9_read 7 = .ok (.bipush (-2), 2) := by decide +kernel
theorem dX9_read_9 : decode cX9_read 9 = .ok (.ireturn, 1) := by decide +kernel
theorem dX9_read_10 : decode cX9_read 10 = .ok (.aload_n 0, 1) := by decide +kernel
theorem dX9_read_11 : decode cX9_read 11 = .ok (.getfield 52, 3) := by decide +kernel
theorem dX9_read_14 : decode cX9_read 14 = .ok (.iload_n 1, 1) := by decide +kernel
theorem dX9_read_15 : decode cX9_read 15 = .ok (.baload, 1) := by decide +kernel
theorem dX9_read_16 : decode cX9_read 16 = .ok (.ifCond .ne 9, 3) := by decide +kernel
theorem dX9_read_19 : decode cX9_read 19 = .ok (.aload_n 0, 1) := by decide +kernel
theorem dX9_read_20 : decode cX9_read 20 = .ok (.iconst 1, 1) := by decide +kernel
theorem dX9_read_21 : decode cX9_read 21 = .ok (.invokevirtual 103, 3) := by decide +kernel
theorem dX9_read_24 : decode cX9_read 24 = .ok (.ireturn, 1) := by decide +kernel
theorem dX9_read_25 : decode cX9_read 25 = .ok (.aload_n 0, 1) := by decide +kernel
theorem dX9_read_26 : decode cX9_read 26 = .ok (.getfield 59, 3) := by decide +kernel
theorem dX9_read_29 : decode cX9_read 29 = .ok (.iload_n 1, 1) := by decide +kernel
theorem dX9_read_30 : decode cX9_read 30 = .ok (.iaload, 1) := by decide +kernel
theorem dX9_read_31 : decode cX9_read 31 = .ok (.bipush 6, 2) := by decide +kernel
theorem dX9_read_33 : decode cX9_read 33 = .ok (.if_icmp .ge 6, 3) := by decide +kernel
theorem dX9_read_36 : decode cX9_read 36 = .ok (.bipush (-3), 2) := by decide +kernel
theorem dX9_read_38 : decode cX9_read 38 = .ok (.ireturn, 1) := by decide +kernel
theorem dX9_read_39 : decode cX9_read 39 = .ok (.iconst 0, 1) := by decide +kernel
theorem dX9_read_40 : decode cX9_read 40 = .ok (.istore_n 2, 1) := by decide +kernel
theorem dX9_read_41 : decode cX9_read 41 = .ok (.iconst 0, 1) := by decide +kernel
theorem dX9_read_42 : decode cX9_read 42 = .ok (.istore_n 3, 1) := by decide +kernel
theorem dX9_read_43 : decode cX9_read 43 = .ok (.iload_n 3, 1) := by decide +kernel
theorem dX9_read_44 : decode cX9_read 44 = .ok (.bipush 6, 2) := by decide +kernel
theorem dX9_read_46 : decode cX9_read 46 = .ok (.if_icmp .ge 63, 3) := by decide +kernel
theorem dX9_read_49 : decode cX9_read 49 = .ok (.aload_n 0, 1) := by decide +kernel
theorem dX9_read_50 : decode cX9_read 50 = .ok (.getfield 62, 3) := by decide +kernel
theorem dX9_read_53 : decode cX9_read 53 = .ok (.bipush 48, 2) := by decide +kernel
theorem dX9_read_55 : decode cX9_read 55 = .ok (.iload_n 1, 1) := by decide +kernel
theorem dX9_read_56 : decode cX9_read 56 = .ok (.imul, 1) := by decide +kernel
theorem dX9_read_57 : decode cX9_read 57 = .ok (.iload_n 3, 1) := by decide +kernel
theorem dX9_read_58 : decode cX9_read 58 = .ok (.iadd, 1) := by decide +kernel
theorem dX9_read_59 : decode cX9_read 59 = .ok (.iaload, 1) := by decide +kernel
theorem dX9_read_60 : decode cX9_read 60 = .ok (.invokestatic 74, 3) := by decide +kernel
theorem dX9_read_63 : decode cX9_read 63 = .ok (.ifCond .eq 21, 3) := by decide +kernel
theorem dX9_read_66 : decode cX9_read 66 = .ok (.iload_n 2, 1) := by decide +kernel
theorem dX9_read_67 : decode cX9_read 67 = .ok (.aload_n 0, 1) := by decide +kernel
theorem dX9_read_68 : decode cX9_read 68 = .ok (.getfield 62, 3) := by decide +kernel
theorem dX9_read_71 : decode cX9_read 71 = .ok (.bipush 48, 2) := by decide +kernel
theorem dX9_read_73 : decode cX9_read 73 = .ok (.iload_n 1, 1) := by decide +kernel
theorem dX9_read_74 : decode cX9_read 74 = .ok (.imul, 1) := by decide +kernel
theorem dX9_read_75 : decode cX9_read 75 = .ok (.iload_n 3, 1) := by decide +kernel
theorem dX9_read_76 : decode cX9_read 76 = .ok (.iadd, 1) := by decide +kernel
theorem dX9_read_77 : decode cX9_read 77 = .ok (.iaload, 1) := by decide +kernel
theorem dX9_read_78 : decode cX9_read 78 = .ok (.invokestatic 93, 3) := by decide +kernel
theorem dX9_read_81 : decode cX9_read 81 = .ok (.ifCond .eq 6, 3) := by decide +kernel
theorem dX9_read_84 : decode cX9_read 84 = .ok (.bipush (-3), 2) := by decide +kernel
theorem dX9_read_86 : decode cX9_read 86 = .ok (.ireturn, 1) := by decide +kernel
theorem dX9_read_87 : decode cX9_read 87 = .ok (.iload_n 2, 1) := by decide +kernel
theorem dX9_read_88 : decode cX9_read 88 = .ok (.iconst 1, 1) := by decide +kernel
theorem dX9_read_89 : decode cX9_read 89 = .ok (.aload_n 0, 1) := by decide +kernel
theorem dX9_read_90 : decode cX9_read 90 = .ok (.getfield 62, 3) := by decide +kernel
theorem dX9_read_93 : decode cX9_read 93 = .ok (.bipush 48, 2) := by decide +kernel
theorem dX9_read_95 : decode cX9_read 95 = .ok (.iload_n 1, 1) := by decide +kernel
theorem dX9_read_96 : decode cX9_read 96 = .ok (.imul, 1) := by decide +kernel
theorem dX9_read_97 : decode cX9_read 97 = .ok (.iload_n 3, 1) := by decide +kernel
theorem dX9_read_98 : decode cX9_read 98 = .ok (.iadd, 1) := by decide +kernel
theorem dX9_read_99 : decode cX9_read 99 = .ok (.iaload, 1) := by decide +kernel
theorem dX9_read_100 : decode cX9_read 100 = .ok (.ishl, 1) := by decide +kernel
theorem dX9_read_101 : decode cX9_read 101 = .ok (.ior, 1) := by decide +kernel
theorem dX9_read_102 : decode cX9_read 102 = .ok (.istore_n 2, 1) := by decide +kernel
theorem dX9_read_103 : decode cX9_read 103 = .ok (.iinc 3 1, 3) := by decide +kernel
theorem dX9_read_106 : decode cX9_read 106 = .ok (.goto (-63), 3) := by decide +kernel
theorem dX9_read_109 : decode cX9_read 109 = .ok (.aload_n 0, 1) := by decide +kernel
theorem dX9_read_110 : decode cX9_read 110 = .ok (.getfield 82, 3) := by decide +kernel
theorem dX9_read_113 : decode cX9_read 113 = .ok (.aload_n 0, 1) := by decide +kernel
theorem dX9_read_114 : decode cX9_read 114 = .ok (.getfield 82, 3) := by decide +kernel
theorem dX9_read_117 : decode cX9_read 117 = .ok (.ifCond .le 8, 3) := by decide +kernel
theorem dX9_read_120 : decode cX9_read 120 = .ok (.bipush 7, 2) := by decide +kernel
theorem dX9_read_122 : decode cX9_read 122 = .ok (.goto 5, 3) := by decide +kernel
theorem dX9_read_125 : decode cX9_read 125 = .ok (.bipush 6, 2) := by decide +kernel
theorem dX9_read_127 : decode cX9_read 127 = .ok (.iadd, 1) := by decide +kernel
theorem dX9_read_128 : decode cX9_read 128 = .ok (.bipush 90, 2) := by decide +kernel
theorem dX9_read_130 : decode cX9_read 130 = .ok (.if_icmp .le 6, 3) := by decide +kernel
theorem dX9_read_133 : decode cX9_read 133 = .ok (.bipush (-4), 2) := by decide +kernel
theorem dX9_read_135 : decode cX9_read 135 = .ok (.ireturn, 1) := by decide +kernel
theorem dX9_read_136 : decode cX9_read 136 = .ok (.aload_n 0, 1) := by decide +kernel
theorem dX9_read_137 : decode cX9_read 137 = .ok (.getfield 82, 3) := by decide +kernel
theorem dX9_read_140 : decode cX9_read 140 = .ok (.ifCond .le 12, 3) := by decide +kernel
theorem dX9_read_143 : decode cX9_read 143 = .ok (.aload_n 0, 1) := by decide +kernel
theorem dX9_read_144 : decode cX9_read 144 = .ok (.bipush 59, 2) := by decide +kernel
theorem dX9_read_146 : decode cX9_read 146 = .ok (.invokevirtual 86, 3) := by decide +kernel
theorem dX9_read_149 : decode cX9_read 149 = .ok (.goto 4, 3) := by decide +kernel
theorem dX9_read_152 : decode cX9_read 152 = .ok (.iconst 0, 1) := by decide +kernel
theorem dX9_read_153 : decode cX9_read 153 = .ok (.istore_n 3, 1) := by decide +kernel
theorem dX9_read_154 : decode cX9_read 154 = .ok (.iconst 0, 1) := by decide +kernel
theorem dX9_read_155 : decode cX9_read 155 = .ok (.istore 4, 2) := by decide +kernel
theorem dX9_read_157 : decode cX9_read 157 = .ok (.iload 4, 2) := by decide +kernel
theorem dX9_read_159 : decode cX9_read 159 = .ok (.bipush 6, 2) := by decide +kernel
theorem dX9_read_161 : decode cX9_read 161 = .ok (.if_icmp .ge 29, 3) := by decide +kernel
theorem dX9_read_164 : decode cX9_read 164 = .ok (.aload_n 0, 1) := by decide +kernel
theorem dX9_read_165 : decode cX9_read 165 = .ok (.bipush 48, 2) := by decide +kernel
theorem dX9_read_167 : decode cX9_read 167 = .ok (.aload_n 0, 1) := by decide +kernel
theorem dX9_read_168 : decode cX9_read 168 = .ok (.getfield 62, 3) := by decide +kernel
theorem dX9_read_171 : decode cX9_read 171 = .ok (.bipush 48, 2) := by decide +kernel
theorem dX9_read_173 : decode cX9_read 173 = .ok (.iload_n 1, 1) := by decide +kernel
theorem dX9_read_174 : decode cX9_read 174 = .ok (.imul, 1) := by decide +kernel
theorem dX9_read_175 : decode cX9_read 175 = .ok (.iload 4, 2) := by decide +kernel
theorem dX9_read_177 : decode cX9_read 177 = .ok (.iadd, 1) := by decide +kernel
theorem dX9_read_178 : decode cX9_read 178 = .ok (.iaload, 1) := by decide +kernel
theorem dX9_read_179 : decode cX9_read 179 = .ok (.iadd, 1) := by decide +kernel
theorem dX9_read_180 : decode cX9_read 180 = .ok (.invokevirtual 86, 3) := by decide +kernel
theorem dX9_read_183 : decode cX9_read 183 = .ok (.istore_n 3, 1) := by decide +kernel
theorem dX9_read_184 : decode cX9_read 184 = .ok (.iinc 4 1, 3) := by decide +kernel
theorem dX9_read_187 : decode cX9_read 187 = .ok (.goto (-30), 3) := by decide +kernel
theorem dX9_read_190 : decode cX9_read 190 = .ok (.aload_n 0, 1) := by decide +kernel
theorem dX9_read_191 : decode cX9_read 191 = .ok (.getfield 82, 3) := by decide +kernel
theorem dX9_read_194 : decode cX9_read 194 = .ok (.ireturn, 1) := by decide +kernel
set_option maxRecDepth 20000 in
theorem ggX9_isYear_X9_faultNow : GoodIn wsX9_isYear wsX9_faultNow := goodIn_r _ [6, 1, 7, 8, 9, 10, 11, 5, 12, 13, 14, 15, 16, 17, 18, 19, 20, 21, 22, 23, 24, 25, 26, 27, 28, 29, 30, 31, 32, 33, 34, 35, 36, 37, 38, 39, 40, 41, 42] (by decide +kernel) (by decide +kernel)
set_option maxRecDepth 20000 in
theorem gX9_isYear_X9_faultNow : GoodIn wsX9_isYear (wsV RX9 96 RX9 yX9_faultNow wsX9_faultNow) := goodIn_app (goodIn_of _ (by decide +kernel)) ggX9_isYear_X9_faultNow
set_option maxRecDepth 20000 in
theorem ggX9_isYear_X9_in : GoodIn wsX9_isYear wsX9_in := goodIn_r _ [15] (by decide +kernel) (by decide +kernel)
set_option maxRecDepth 20000 in
theorem gX9_isYear_X9_in : GoodIn wsX9_isYear (va_wsS RX9 70 yX9_in wsX9_in) := goodIn_app (goodIn_of _ (by decide +kernel)) ggX9_isYear_X9_in
theorem dX9_isYear_0 : decode cX9_isYear 0 = .ok (.aload_n 0, 1) := by decide +kernel
theorem dX9_isYear_1 : decode cX9_isYear 1 = .ok (.invokevirtual 96, 3) := by decide +kernel
theorem dX9_isYear_4 : decode cX9_isYear 4 = .ok (.istore_n 2, 1) := by decide +kernel
theorem dX9_isYear_5 : decode cX9_isYear 5 = .ok (.iload_n 1, 1) := by decide +kernel
theorem dX9_isYear_6 : decode cX9_isYear 6 = .ok (.iconst 0, 1) := by decide +kernel
theorem dX9_isYear_7 : decode cX9_isYear 7 = .ok (.aload_n 0, 1) := by decide +kernel
theorem dX9_isYear_8 : decode cX9_isYear 8 = .ok (.getfield 90, 3) := by decide +kernel
theorem dX9_isYear_11 : decode cX9_isYear 11 = .ok (.iconst 1, 1) := by decide +kernel
theorem dX9_isYear_12 : decode cX9_isYear 12 = .ok (.isub, 1) := by decide +kernel
theorem dX9_isYear_13 : decode cX9_isYear 13 = .ok (.invokestatic 70, 3) := by decide +kernel
theorem dX9_isYear_16 : decode cX9_isYear 16 = .ok (.ireturn, 1) := by decide +kernel
set_option maxRecDepth 20000 in
theorem ggX9_isBehind_X9_faultNow : GoodIn wsX9_isBehind wsX9_faultNow := goodIn_r _ [6, 1, 7, 8, 9, 10, 11, 5, 12, 13, 14, 15, 16, 17, 18, 19, 20, 21, 22, 23, 24, 25, 26, 27, 28, 29, 30, 31, 32, 33, 34, 35, 36, 37, 38, 39, 40, 41, 42] (by decide +kernel) (by decide +kernel)
set_option maxRecDepth 20000 in
theorem gX9_isBehind_X9_faultNow : GoodIn wsX9_isBehind (wsV RX9 96 RX9 yX9_faultNow wsX9_faultNow) := goodIn_app (goodIn_of _ (by decide +kernel)) ggX9_isBehind_X9_faultNow
set_option maxRecDepth 20000 in
theorem ggX9_isBehind_X9_in : GoodIn wsX9_isBehind wsX9_in := goodIn_r _ [15] (by decide +kernel) (by decide +kernel)
set_option maxRecDepth 20000 in
theorem gX9_isBehind_X9_in : GoodIn wsX9_isBehind (va_wsS RX9 70 yX9_in wsX9_in) := goodIn_app (goodIn_of _ (by decide +kernel)) ggX9_isBehind_X9_in
theorem dX9_isBehind_0 : decode cX9_isBehind 0 = .ok (.aload_n 0, 1) := by decide +kernel
theorem dX9_isBehind_1 : decode cX9_isBehind 1 = .ok (.invokevirtual 96, 3) := by decide +kernel
theorem dX9_isBehind_4 : decode cX9_isBehind 4 = .ok (.istore_n 2, 1) := by decide +kernel
theorem dX9_isBehind_5 : decode cX9_isBehind 5 = .ok (.iload_n 1, 1) := by decide +kernel
theorem dX9_isBehind_6 : decode cX9_isBehind 6 = .ok (.iconst 0, 1) := by decide +kernel
theorem dX9_isBehind_7 : decode cX9_isBehind 7 = .ok (.aload_n 0, 1) := by decide +kernel
theorem dX9_isBehind_8 : decode cX9_isBehind 8 = .ok (.getfield 90, 3) := by decide +kernel
theorem dX9_isBehind_11 : decode cX9_isBehind 11 = .ok (.invokestatic 70, 3) := by decide +kernel
theorem dX9_isBehind_14 : decode cX9_isBehind 14 = .ok (.ireturn, 1) := by decide +kernel
set_option maxRecDepth 20000 in
theorem ggX9_borne_X9_isSix : GoodIn wsX9_borne wsX9_isSix := goodIn_r _ [5, 6, 7, 4, 8] (by decide +kernel) (by decide +kernel)
set_option maxRecDepth 20000 in
theorem gX9_borne_X9_isSix : GoodIn wsX9_borne (va_wsS RX9 74 yX9_isSix wsX9_isSix) := goodIn_app (goodIn_of _ (by decide +kernel)) ggX9_borne_X9_isSix
set_option maxRecDepth 20000 in
theorem ggX9_borne_X9_isYear : GoodIn wsX9_borne wsX9_isYear := goodIn_r _ [12, 13, 14, 15, 16, 4, 17, 18, 19, 1, 2, 3, 5, 6, 7, 8, 20, 21, 22, 23, 24, 25, 26, 27, 28, 29, 30, 31, 32, 33, 34, 35, 36, 37, 38, 39, 40, 41, 42, 43, 44, 45, 46] (by decide +kernel) (by decide +kernel)
set_option maxRecDepth 20000 in
theorem gX9_borne_X9_isYear : GoodIn wsX9_borne (wsV RX9 106 RX9 yX9_isYear wsX9_isYear) := goodIn_app (goodIn_of _ (by decide +kernel)) ggX9_borne_X9_isYear
theorem dX9_borne_0 : decode cX9_borne 0 = .ok (.iload_n 1, 1) := by decide +kernel
theorem dX9_borne_1 : decode cX9_borne 1 = .ok (.invokestatic 74, 3) := by decide +kernel
theorem dX9_borne_4 : decode cX9_borne 4 = .ok (.ifCond .eq 25, 3) := by decide +kernel
theorem dX9_borne_7 : decode cX9_borne 7 = .ok (.aload_n 0, 1) := by decide +kernel
theorem dX9_borne_8 : decode cX9_borne 8 = .ok (.iload_n 2, 1) := by decide +kernel
theorem dX9_borne_9 : decode cX9_borne 9 = .ok (.invokevirtual 106, 3) := by decide +kernel
theorem dX9_borne_12 : decode cX9_borne 12 = .ok (.ifCond .eq 17, 3) := by decide +kernel
theorem dX9_borne_15 : decode cX9_borne 15 = .ok (.aload_n 0, 1) := by decide +kernel
theorem dX9_borne_16 : decode cX9_borne 16 = .ok (.getfield 28, 3) := by decide +kernel
theorem dX9_borne_19 : decode cX9_borne 19 = .ok (.bipush 6, 2) := by decide +kernel
theorem dX9_borne_21 : decode cX9_borne 21 = .ok (.iload_n 2, 1) := by decide +kernel
theorem dX9_borne_22 : decode cX9_borne 22 = .ok (.imul, 1) := by decide +kernel
theorem dX9_borne_23 : decode cX9_borne 23 = .ok (.iload_n 1, 1) := by decide +kernel
theorem dX9_borne_24 : decode cX9_borne 24 = .ok (.iadd, 1) := by decide +kernel
theorem dX9_borne_25 : decode cX9_borne 25 = .ok (.iaload, 1) := by decide +kernel
theorem dX9_borne_26 : decode cX9_borne 26 = .ok (.goto 5, 3) := by decide +kernel
theorem dX9_borne_29 : decode cX9_borne 29 = .ok (.bipush (-2), 2) := by decide +kernel
theorem dX9_borne_31 : decode cX9_borne 31 = .ok (.ireturn, 1) := by decide +kernel
set_option maxRecDepth 20000 in
theorem ggX9_earns_X9_doesFit : GoodIn wsX9_earns wsX9_doesFit := goodIn_r _ [6, 7, 8, 9, 10, 11, 12, 13, 14, 15, 16, 17, 18, 19, 20, 21, 22, 23, 24, 25, 26, 27, 28, 29, 30, 31, 32, 33, 34] (by decide +kernel) (by decide +kernel)
set_option maxRecDepth 20000 in
theorem gX9_earns_X9_doesFit : GoodIn wsX9_earns (wsV RX9 78 RX9 yX9_doesFit wsX9_doesFit) := goodIn_app (goodIn_of _ (by decide +kernel)) ggX9_earns_X9_doesFit
theorem dX9_earns_0 : decode cX9_earns 0 = .ok (.aload_n 0, 1) := by decide +kernel
theorem dX9_earns_1 : decode cX9_earns 1 = .ok (.iload_n 1, 1) := by decide +kernel
theorem dX9_earns_2 : decode cX9_earns 2 = .ok (.iload_n 2, 1) := by decide +kernel
theorem dX9_earns_3 : decode cX9_earns 3 = .ok (.invokevirtual 78, 3) := by decide +kernel
theorem dX9_earns_6 : decode cX9_earns 6 = .ok (.ifCond .eq 12, 3) := by decide +kernel
theorem dX9_earns_9 : decode cX9_earns 9 = .ok (.aload_n 0, 1) := by decide +kernel
theorem dX9_earns_10 : decode cX9_earns 10 = .ok (.getfield 22, 3) := by decide +kernel
theorem dX9_earns_13 : decode cX9_earns 13 = .ok (.iload_n 2, 1) := by decide +kernel
theorem dX9_earns_14 : decode cX9_earns 14 = .ok (.iaload, 1) := by decide +kernel
theorem dX9_earns_15 : decode cX9_earns 15 = .ok (.goto 4, 3) := by decide +kernel
theorem dX9_earns_18 : decode cX9_earns 18 = .ok (.iconst 0, 1) := by decide +kernel
theorem dX9_earns_19 : decode cX9_earns 19 = .ok (.ireturn, 1) := by decide +kernel
set_option maxRecDepth 20000 in
theorem ggX9_purseOf_X9_earns : GoodIn wsX9_purseOf wsX9_earns := goodIn_r _ [6, 7, 8, 9, 10, 5, 11, 12, 13, 14, 15, 16, 17, 18, 19, 20, 21, 22, 23, 24, 25, 26, 27, 28, 29, 30, 31, 32, 33, 34, 35, 36, 37, 38, 39] (by decide +kernel) (by decide +kernel)
set_option maxRecDepth 20000 in
theorem gX9_purseOf_X9_earns : GoodIn wsX9_purseOf (wsV RX9 109 RX9 yX9_earns wsX9_earns) := goodIn_app (goodIn_of _ (by decide +kernel)) ggX9_purseOf_X9_earns
theorem dX9_purseOf_0 : decode cX9_purseOf 0 = .ok (.iconst 0, 1) := by decide +kernel
theorem dX9_purseOf_1 : decode cX9_purseOf 1 = .ok (.istore_n 3, 1) := by decide +kernel
theorem dX9_purseOf_2 : decode cX9_purseOf 2 = .ok (.iconst 0, 1) := by decide +kernel
theorem dX9_purseOf_3 : decode cX9_purseOf 3 = .ok (.istore 4, 2) := by decide +kernel
theorem dX9_purseOf_5 : decode cX9_purseOf 5 = .ok (.iload 4, 2) := by decide +kernel
theorem dX9_purseOf_7 : decode cX9_purseOf 7 = .ok (.iload_n 2, 1) := by decide +kernel
theorem dX9_purseOf_8 : decode cX9_purseOf 8 = .ok (.if_icmp .ge 29, 3) := by decide +kernel
theorem dX9_purseOf_11 : decode cX9_purseOf 11 = .ok (.iload_n 3, 1) := by decide +kernel
theorem dX9_purseOf_12 : decode cX9_purseOf 12 = .ok (.aload_n 0, 1) := by decide +kernel
theorem dX9_purseOf_13 : decode cX9_purseOf 13 = .ok (.iload_n 1, 1) := by decide +kernel
theorem dX9_purseOf_14 : decode cX9_purseOf 14 = .ok (.aload_n 0, 1) := by decide +kernel
theorem dX9_purseOf_15 : decode cX9_purseOf 15 = .ok (.getfield 28, 3) := by decide +kernel
theorem dX9_purseOf_18 : decode cX9_purseOf 18 = .ok (.bipush 6, 2) := by decide +kernel
theorem dX9_purseOf_20 : decode cX9_purseOf 20 = .ok (.iload 4, 2) := by decide +kernel
theorem dX9_purseOf_22 : decode cX9_purseOf 22 = .ok (.imul, 1) := by decide +kernel
theorem dX9_purseOf_23 : decode cX9_purseOf 23 = .ok (.iload_n 1, 1) := by decide +kernel
theorem dX9_purseOf_24 : decode cX9_purseOf 24 = .ok (.iadd, 1) := by decide +kernel
theorem dX9_purseOf_25 : decode cX9_purseOf 25 = .ok (.iaload, 1) := by decide +kernel
theorem dX9_purseOf_26 : decode cX9_purseOf 26 = .ok (.invokevirtual 109, 3) := by decide +kernel
theorem dX9_purseOf_29 : decode cX9_purseOf 29 = .ok (.iadd, 1) := by decide +kernel
theorem dX9_purseOf_30 : decode cX9_purseOf 30 = .ok (.istore_n 3, 1) := by decide +kernel
theorem dX9_purseOf_31 : decode cX9_purseOf 31 = .ok (.iinc 4 1, 3) := by decide +kernel
theorem dX9_purseOf_34 : decode cX9_purseOf 34 = .ok (.goto (-29), 3) := by decide +kernel
theorem dX9_purseOf_37 : decode cX9_purseOf 37 = .ok (.iload_n 3, 1) := by decide +kernel
theorem dX9_purseOf_38 : decode cX9_purseOf 38 = .ok (.ireturn, 1) := by decide +kernel
set_option maxRecDepth 20000 in
theorem ggX9_purse_X9_isSix : GoodIn wsX9_purse wsX9_isSix := goodIn_r _ [4, 5, 6, 3, 7] (by decide +kernel) (by decide +kernel)
set_option maxRecDepth 20000 in
theorem gX9_purse_X9_isSix : GoodIn wsX9_purse (va_wsS RX9 74 yX9_isSix wsX9_isSix) := goodIn_app (goodIn_of _ (by decide +kernel)) ggX9_purse_X9_isSix
set_option maxRecDepth 20000 in
theorem ggX9_purse_X9_isBehind : GoodIn wsX9_purse wsX9_isBehind := goodIn_r _ [11, 12, 13, 14, 15, 3, 16, 17, 18, 19, 1, 2, 4, 5, 6, 7, 20, 21, 22, 40, 41, 42, 43, 44, 45, 46, 47, 48, 49, 50, 51, 52, 53, 54, 55, 56, 57, 58, 59, 60, 61, 62, 63] (by decide +kernel) (by decide +kernel)
set_option maxRecDepth 20000 in
theorem gX9_purse_X9_isBehind : GoodIn wsX9_purse (wsV RX9 113 RX9 yX9_isBehind wsX9_isBehind) := goodIn_app (goodIn_of _ (by decide +kernel)) ggX9_purse_X9_isBehind
set_option maxRecDepth 20000 in
theorem ggX9_purse_X9_purseOf : GoodIn wsX9_purse wsX9_purseOf := goodIn_r _ [26, 19, 27, 28, 29, 3, 30, 31, 32, 33, 34, 35, 36, 37, 38, 39, 40, 41, 42, 43, 44, 45, 46, 47, 48, 49, 50, 51, 52, 53, 54, 55, 56, 57, 58, 59, 60, 61, 62, 63] (by decide +kernel) (by decide +kernel)
set_option maxRecDepth 20000 in
theorem gX9_purse_X9_purseOf : GoodIn wsX9_purse (wsV RX9 116 RX9 yX9_purseOf wsX9_purseOf) := goodIn_app (goodIn_of _ (by decide +kernel)) ggX9_purse_X9_purseOf
theorem dX9_purse_0 : decode cX9_purse 0 = .ok (.iload_n 1, 1) := by decide +kernel
theorem dX9_purse_1 : decode cX9_purse 1 = .ok (.invokestatic 74, 3) := by decide +kernel
theorem dX9_purse_4 : decode cX9_purse 4 = .ok (.ifCond .eq 20, 3) := by decide +kernel
theorem dX9_purse_7 : decode cX9_purse 7 = .ok (.aload_n 0, 1) := by decide +kernel
theorem dX9_purse_8 : decode cX9_purse 8 = .ok (.iload_n 2, 1) := by decide +kernel
theorem dX9_purse_9 : decode cX9_purse 9 = .ok (.invokevirtual 113, 3) := by decide +kernel
theorem dX9_purse_12 : decode cX9_purse 12 = .ok (.ifCond .eq 12, 3) := by decide +kernel
theorem dX9_purse_15 : decode cX9_purse 15 = .ok (.aload_n 0, 1) := by decide +kernel
theorem dX9_purse_16 : decode cX9_purse 16 = .ok (.iload_n 1, 1) := by decide +kernel
theorem dX9_purse_17 : decode cX9_purse 17 = .ok (.iload_n 2, 1) := by decide +kernel
theorem dX9_purse_18 : decode cX9_purse 18 = .ok (.invokevirtual 116, 3) := by decide +kernel
theorem dX9_purse_21 : decode cX9_purse 21 = .ok (.goto 5, 3) := by decide +kernel
theorem dX9_purse_24 : decode cX9_purse 24 = .ok (.bipush (-2), 2) := by decide +kernel
theorem dX9_purse_26 : decode cX9_purse 26 = .ok (.ireturn, 1) := by decide +kernel
set_option maxRecDepth 20000 in
theorem ggX9_debtOf_X9_doesFit : GoodIn wsX9_debtOf wsX9_doesFit := goodIn_r _ [7, 8, 9, 10, 11, 12, 13, 14, 15, 16, 17, 18, 19, 20, 21, 22, 23, 24, 25, 26, 27, 28, 29, 30, 31, 32, 33, 34, 35] (by decide +kernel) (by decide +kernel)
set_option maxRecDepth 20000 in
theorem gX9_debtOf_X9_doesFit : GoodIn wsX9_debtOf (wsV RX9 78 RX9 yX9_doesFit wsX9_doesFit) := goodIn_app (goodIn_of _ (by decide +kernel)) ggX9_debtOf_X9_doesFit
theorem dX9_debtOf_0 : decode cX9_debtOf 0 = .ok (.iconst 0, 1) := by decide +kernel
theorem dX9_debtOf_1 : decode cX9_debtOf 1 = .ok (.istore 4, 2) := by decide +kernel
theorem dX9_debtOf_3 : decode cX9_debtOf 3 = .ok (.iconst 0, 1) := by decide +kernel
theorem dX9_debtOf_4 : decode cX9_debtOf 4 = .ok (.istore 5, 2) := by decide +kernel
theorem dX9_debtOf_6 : decode cX9_debtOf 6 = .ok (.iload 5, 2) := by decide +kernel
theorem dX9_debtOf_8 : decode cX9_debtOf 8 = .ok (.iload_n 2, 1) := by decide +kernel
theorem dX9_debtOf_9 : decode cX9_debtOf 9 = .ok (.if_icmp .ge 87, 3) := by decide +kernel
theorem dX9_debtOf_12 : decode cX9_debtOf 12 = .ok (.iconst 0, 1) := by decide +kernel
theorem dX9_debtOf_13 : decode cX9_debtOf 13 = .ok (.istore 6, 2) := by decide +kernel
theorem dX9_debtOf_15 : decode cX9_debtOf 15 = .ok (.iload 6, 2) := by decide +kernel
theorem dX9_debtOf_17 : decode cX9_debtOf 17 = .ok (.bipush 6, 2) := by decide +kernel
theorem dX9_debtOf_19 : decode cX9_debtOf 19 = .ok (.if_icmp .ge 71, 3) := by decide +kernel
theorem dX9_debtOf_22 : decode cX9_debtOf 22 = .ok (.aload_n 0, 1) := by decide +kernel
theorem dX9_debtOf_23 : decode cX9_debtOf 23 = .ok (.getfield 28, 3) := by decide +kernel
theorem dX9_debtOf_26 : decode cX9_debtOf 26 = .ok (.bipush 6, 2) := by decide +kernel
theorem dX9_debtOf_28 : decode cX9_debtOf 28 = .ok (.iload 5, 2) := by decide +kernel
theorem dX9_debtOf_30 : decode cX9_debtOf 30 = .ok (.imul, 1) := by decide +kernel
theorem dX9_debtOf_31 : decode cX9_debtOf 31 = .ok (.iload 6, 2) := by decide +kernel
theorem dX9_debtOf_33 : decode cX9_debtOf 33 = .ok (.iadd, 1) := by decide +kernel
theorem dX9_debtOf_34 : decode cX9_debtOf 34 = .ok (.iaload, 1) := by decide +kernel
theorem dX9_debtOf_35 : decode cX9_debtOf 35 = .ok (.iload_n 1, 1) := by decide +kernel
theorem dX9_debtOf_36 : decode cX9_debtOf 36 = .ok (.if_icmp .ne 17, 3) := by decide +kernel
theorem dX9_debtOf_39 : decode cX9_debtOf 39 = .ok (.aload_n 0, 1) := by decide +kernel
theorem dX9_debtOf_40 : decode cX9_debtOf 40 = .ok (.iload 6, 2) := by decide +kernel
theorem dX9_debtOf_42 : decode cX9_debtOf 42 = .ok (.iload_n 1, 1) := by decide +kernel
theorem dX9_debtOf_43 : decode cX9_debtOf 43 = .ok (.invokevirtual 78, 3) := by decide +kernel
theorem dX9_debtOf_46 : decode cX9_debtOf 46 = .ok (.ifCond .ne 7, 3) := by decide +kernel
theorem dX9_debtOf_49 : decode cX9_debtOf 49 = .ok (.iconst 1, 1) := by decide +kernel
theorem dX9_debtOf_50 : decode cX9_debtOf 50 = .ok (.goto 4, 3) := by decide +kernel
theorem dX9_debtOf_53 : decode cX9_debtOf 53 = .ok (.iconst 0, 1) := by decide +kernel
theorem dX9_debtOf_54 : decode cX9_debtOf 54 = .ok (.istore 7, 2) := by decide +kernel
theorem dX9_debtOf_56 : decode cX9_debtOf 56 = .ok (.iload 4, 2) := by decide +kernel
theorem dX9_debtOf_58 : decode cX9_debtOf 58 = .ok (.iload 7, 2) := by decide +kernel
theorem dX9_debtOf_60 : decode cX9_debtOf 60 = .ok (.ifCond .eq 20, 3) := by decide +kernel
theorem dX9_debtOf_63 : decode cX9_debtOf 63 = .ok (.iload_n 3, 1) := by decide +kernel
theorem dX9_debtOf_64 : decode cX9_debtOf 64 = .ok (.ifCond .ne 12, 3) := by decide +kernel
theorem dX9_debtOf_67 : decode cX9_debtOf 67 = .ok (.aload_n 0, 1) := by decide +kernel
theorem dX9_debtOf_68 : decode cX9_debtOf 68 = .ok (.getfield 22, 3) := by decide +kernel
theorem dX9_debtOf_71 : decode cX9_debtOf 71 = .ok (.iload_n 1, 1) := by decide +kernel
theorem dX9_debtOf_72 : decode cX9_debtOf 72 = .ok (.iaload, 1) := by decide +kernel
theorem dX9_debtOf_73 : decode cX9_debtOf 73 = .ok (.goto 8, 3) := by decide +kernel
theorem dX9_debtOf_76 : decode cX9_debtOf 76 = .ok (.iconst 1, 1) := by decide +kernel
theorem dX9_debtOf_77 : decode cX9_debtOf 77 = .ok (.goto 4, 3) := by decide +kernel
theorem dX9_debtOf_80 : decode cX9_debtOf 80 = .ok (.iconst 0, 1) := by decide +kernel
theorem dX9_debtOf_81 : decode cX9_debtOf 81 = .ok (.iadd, 1) := by decide +kernel
theorem dX9_debtOf_82 : decode cX9_debtOf 82 = .ok (.istore 4, 2) := by decide +kernel
theorem dX9_debtOf_84 : decode cX9_debtOf 84 = .ok (.iinc 6 1, 3) := by decide +kernel
theorem dX9_debtOf_87 : decode cX9_debtOf 87 = .ok (.goto (-72), 3) := by decide +kernel
theorem dX9_debtOf_90 : decode cX9_debtOf 90 = .ok (.iinc 5 1, 3) := by decide +kernel
theorem dX9_debtOf_93 : decode cX9_debtOf 93 = .ok (.goto (-87), 3) := by decide +kernel
theorem dX9_debtOf_96 : decode cX9_debtOf 96 = .ok (.iload 4, 2) := by decide +kernel
theorem dX9_debtOf_98 : decode cX9_debtOf 98 = .ok (.ireturn, 1) := by decide +kernel
set_option maxRecDepth 20000 in
theorem ggX9_debt_X9_isSix : GoodIn wsX9_debt wsX9_isSix := goodIn_r _ [4, 5, 6, 3, 7] (by decide +kernel) (by decide +kernel)
set_option maxRecDepth 20000 in
theorem gX9_debt_X9_isSix : GoodIn wsX9_debt (va_wsS RX9 74 yX9_isSix wsX9_isSix) := goodIn_app (goodIn_of _ (by decide +kernel)) ggX9_debt_X9_isSix
set_option maxRecDepth 20000 in
theorem ggX9_debt_X9_isBehind : GoodIn wsX9_debt wsX9_isBehind := goodIn_r _ [11, 12, 13, 14, 15, 3, 16, 17, 18, 19, 1, 2, 4, 5, 6, 7, 20, 21, 22, 36, 37, 38, 39, 40, 41, 42, 43, 44, 45, 46, 47, 48, 49, 50, 51, 52, 53, 54, 55, 56, 57, 58, 59] (by decide +kernel) (by decide +kernel)
set_option maxRecDepth 20000 in
theorem gX9_debt_X9_isBehind : GoodIn wsX9_debt (wsV RX9 113 RX9 yX9_isBehind wsX9_isBehind) := goodIn_app (goodIn_of _ (by decide +kernel)) ggX9_debt_X9_isBehind
set_option maxRecDepth 20000 in
theorem ggX9_debt_X9_in : GoodIn wsX9_debt wsX9_in := goodIn_r _ [7] (by decide +kernel) (by decide +kernel)
set_option maxRecDepth 20000 in
theorem gX9_debt_X9_in : GoodIn wsX9_debt (va_wsS RX9 70 yX9_in wsX9_in) := goodIn_app (goodIn_of _ (by decide +kernel)) ggX9_debt_X9_in
set_option maxRecDepth 20000 in
theorem ggX9_debt_X9_debtOf : GoodIn wsX9_debt wsX9_debtOf := goodIn_r _ [26, 19, 27, 28, 29, 30, 3, 31, 32, 33, 34, 35, 36, 37, 38, 39, 40, 41, 42, 43, 44, 45, 46, 47, 48, 49, 50, 51, 52, 53, 54, 55, 56, 57, 58, 59] (by decide +kernel) (by decide +kernel)
set_option maxRecDepth 20000 in
theorem gX9_debt_X9_debtOf : GoodIn wsX9_debt (wsV RX9 119 RX9 yX9_debtOf wsX9_debtOf) := goodIn_app (goodIn_of _ (by decide +kernel)) ggX9_debt_X9_debtOf
theorem dX9_debt_0 : decode cX9_debt 0 = .ok (.iload_n 1, 1) := by decide +kernel
theorem dX9_debt_1 : decode cX9_debt 1 = .ok (.invokestatic 74, 3) := by decide +kernel
theorem dX9_debt_4 : decode cX9_debt 4 = .ok (.ifCond .eq 30, 3) := by decide +kernel
theorem dX9_debt_7 : decode cX9_debt 7 = .ok (.aload_n 0, 1) := by decide +kernel
theorem dX9_debt_8 : decode cX9_debt 8 = .ok (.iload_n 2, 1) := by decide +kernel
theorem dX9_debt_9 : decode cX9_debt 9 = .ok (.invokevirtual 113, 3) := by decide +kernel
theorem dX9_debt_12 : decode cX9_debt 12 = .ok (.ifCond .eq 22, 3) := by decide +kernel
theorem dX9_debt_15 : decode cX9_debt 15 = .ok (.iload_n 3, 1) := by decide +kernel
theorem dX9_debt_16 : decode cX9_debt 16 = .ok (.iconst 0, 1) := by decide +kernel
theorem dX9_debt_17 : decode cX9_debt 17 = .ok (.iconst 1, 1) := by decide +kernel
theorem dX9_debt_18 : decode cX9_debt 18 = .ok (.invokestatic 70, 3) := by decide +kernel
theorem dX9_debt_21 : decode cX9_debt 21 = .ok (.ifCond .eq 13, 3) := by decide +kernel
theorem dX9_debt_24 : decode cX9_debt 24 = .ok (.aload_n 0, 1) := by decide +kernel
theorem dX9_debt_25 : decode cX9_debt 25 = .ok (.iload_n 1, 1) := by decide +kernel
theorem dX9_debt_26 : decode cX9_debt 26 = .ok (.iload_n 2, 1) := by decide +kernel
theorem dX9_debt_27 : decode cX9_debt 27 = .ok (.iload_n 3, 1) := by decide +kernel
theorem dX9_debt_28 : decode cX9_debt 28 = .ok (.invokevirtual 119, 3) := by decide +kernel
theorem dX9_debt_31 : decode cX9_debt 31 = .ok (.goto 5, 3) := by decide +kernel
theorem dX9_debt_34 : decode cX9_debt 34 = .ok (.bipush (-2), 2) := by decide +kernel
theorem dX9_debt_36 : decode cX9_debt 36 = .ok (.ireturn, 1) := by decide +kernel
theorem dX9_beenOf_0 : decode cX9_beenOf 0 = .ok (.iconst 0, 1) := by decide +kernel
theorem dX9_beenOf_1 : decode cX9_beenOf 1 = .ok (.istore_n 3, 1) := by decide +kernel
theorem dX9_beenOf_2 : decode cX9_beenOf 2 = .ok (.iconst 0, 1) := by decide +kernel
theorem dX9_beenOf_3 : decode cX9_beenOf 3 = .ok (.istore 4, 2) := by decide +kernel
theorem dX9_beenOf_5 : decode cX9_beenOf 5 = .ok (.iload 4, 2) := by decide +kernel
theorem dX9_beenOf_7 : decode cX9_beenOf 7 = .ok (.iload_n 2, 1) := by decide +kernel
theorem dX9_beenOf_8 : decode cX9_beenOf 8 = .ok (.if_icmp .ge 26, 3) := by decide +kernel
theorem dX9_beenOf_11 : decode cX9_beenOf 11 = .ok (.iload_n 3, 1) := by decide +kernel
theorem dX9_beenOf_12 : decode cX9_beenOf 12 = .ok (.iconst 1, 1) := by decide +kernel
theorem dX9_beenOf_13 : decode cX9_beenOf 13 = .ok (.aload_n 0, 1) := by decide +kernel
theorem dX9_beenOf_14 : decode cX9_beenOf 14 = .ok (.getfield 28, 3) := by decide +kernel
theorem dX9_beenOf_17 : decode cX9_beenOf 17 = .ok (.bipush 6, 2) := by decide +kernel
theorem dX9_beenOf_19 : decode cX9_beenOf 19 = .ok (.iload 4, 2) := by decide +kernel
theorem dX9_beenOf_21 : decode cX9_beenOf 21 = .ok (.imul, 1) := by decide +kernel
theorem dX9_beenOf_22 : decode cX9_beenOf 22 = .ok (.iload_n 1, 1) := by decide +kernel
theorem dX9_beenOf_23 : decode cX9_beenOf 23 = .ok (.iadd, 1) := by decide +kernel
theorem dX9_beenOf_24 : decode cX9_beenOf 24 = .ok (.iaload, 1) := by decide +kernel
theorem dX9_beenOf_25 : decode cX9_beenOf 25 = .ok (.ishl, 1) := by decide +kernel
theorem dX9_beenOf_26 : decode cX9_beenOf 26 = .ok (.ior, 1) := by decide +kernel
theorem dX9_beenOf_27 : decode cX9_beenOf 27 = .ok (.istore_n 3, 1) := by decide +kernel
theorem dX9_beenOf_28 : decode cX9_beenOf 28 = .ok (.iinc 4 1, 3) := by decide +kernel
theorem dX9_beenOf_31 : decode cX9_beenOf 31 = .ok (.goto (-26), 3) := by decide +kernel
theorem dX9_beenOf_34 : decode cX9_beenOf 34 = .ok (.iload_n 3, 1) := by decide +kernel
theorem dX9_beenOf_35 : decode cX9_beenOf 35 = .ok (.ireturn, 1) := by decide +kernel
set_option maxRecDepth 20000 in
theorem ggX9_been_X9_isSix : GoodIn wsX9_been wsX9_isSix := goodIn_r _ [4, 5, 6, 3, 7] (by decide +kernel) (by decide +kernel)
set_option maxRecDepth 20000 in
theorem gX9_been_X9_isSix : GoodIn wsX9_been (va_wsS RX9 74 yX9_isSix wsX9_isSix) := goodIn_app (goodIn_of _ (by decide +kernel)) ggX9_been_X9_isSix
set_option maxRecDepth 20000 in
theorem ggX9_been_X9_isBehind : GoodIn wsX9_been wsX9_isBehind := goodIn_r _ [11, 12, 13, 14, 15, 3, 16, 17, 18, 19, 1, 2, 4, 5, 6, 7, 20, 21, 22, 27, 28, 29, 30, 31, 32, 33, 34, 35, 36, 37, 38, 39, 40, 41, 42, 43, 44, 45, 46, 47, 48, 49, 50] (by decide +kernel) (by decide +kernel)
set_option maxRecDepth 20000 in
theorem gX9_been_X9_isBehind : GoodIn wsX9_been (wsV RX9 113 RX9 yX9_isBehind wsX9_isBehind) := goodIn_app (goodIn_of _ (by decide +kernel)) ggX9_been_X9_isBehind
set_option maxRecDepth 20000 in
theorem ggX9_been_X9_beenOf : GoodIn wsX9_been wsX9_beenOf := goodIn_r _ [26, 19, 27, 28, 29, 30, 31, 32, 33, 34, 35, 36, 37, 38, 39, 40, 41, 42, 43, 44, 45, 46, 47, 48, 49, 50] (by decide +kernel) (by decide +kernel)
set_option maxRecDepth 20000 in
theorem gX9_been_X9_beenOf : GoodIn wsX9_been (wsV RX9 123 RX9 yX9_beenOf wsX9_beenOf) := goodIn_app (goodIn_of _ (by decide +kernel)) ggX9_been_X9_beenOf
theorem dX9_been_0 : decode cX9_been 0 = .ok (.iload_n 1, 1) := by decide +kernel
theorem dX9_been_1 : decode cX9_been 1 = .ok (.invokestatic 74, 3) := by decide +kernel
theorem dX9_been_4 : decode cX9_been 4 = .ok (.ifCond .eq 20, 3) := by decide +kernel
theorem dX9_been_7 : decode cX9_been 7 = .ok (.aload_n 0, 1) := by decide +kernel
theorem dX9_been_8 : decode cX9_been 8 = .ok (.iload_n 2, 1) := by decide +kernel
theorem dX9_been_9 : decode cX9_been 9 = .ok (.invokevirtual 113, 3) := by decide +kernel
theorem dX9_been_12 : decode cX9_been 12 = .ok (.ifCond .eq 12, 3) := by decide +kernel
theorem dX9_been_15 : decode cX9_been 15 = .ok (.aload_n 0, 1) := by decide +kernel
theorem dX9_been_16 : decode cX9_been 16 = .ok (.iload_n 1, 1) := by decide +kernel
theorem dX9_been_17 : decode cX9_been 17 = .ok (.iload_n 2, 1) := by decide +kernel
theorem dX9_been_18 : decode cX9_been 18 = .ok (.invokevirtual 123, 3) := by decide +kernel
theorem dX9_been_21 : decode cX9_been 21 = .ok (.goto 5, 3) := by decide +kernel
theorem dX9_been_24 : decode cX9_been 24 = .ok (.bipush (-2), 2) := by decide +kernel
theorem dX9_been_26 : decode cX9_been 26 = .ok (.ireturn, 1) := by decide +kernel
set_option maxRecDepth 20000 in
theorem ggX9_homeOf_X9_faultNow : GoodIn wsX9_homeOf wsX9_faultNow := goodIn_r _ [7, 1, 8, 9, 2, 10, 11, 6, 12, 13, 14, 15, 16, 17, 18, 19, 20, 21, 22, 23, 24, 25, 26, 27, 28, 29, 30, 31, 32, 33, 34, 35, 36, 37, 38, 39, 40, 41, 42] (by decide +kernel) (by decide +kernel)
set_option maxRecDepth 20000 in
theorem gX9_homeOf_X9_faultNow : GoodIn wsX9_homeOf (wsV RX9 96 RX9 yX9_faultNow wsX9_faultNow) := goodIn_app (goodIn_of _ (by decide +kernel)) ggX9_homeOf_X9_faultNow
theorem dX9_homeOf_0 : decode cX9_homeOf 0 = .ok (.aload_n 0, 1) := by decide +kernel
theorem dX9_homeOf_1 : decode cX9_homeOf 1 = .ok (.invokevirtual 96, 3) := by decide +kernel
theorem dX9_homeOf_4 : decode cX9_homeOf 4 = .ok (.istore_n 2, 1) := by decide +kernel
theorem dX9_homeOf_5 : decode cX9_homeOf 5 = .ok (.iconst 0, 1) := by decide +kernel
theorem dX9_homeOf_6 : decode cX9_homeOf 6 = .ok (.istore_n 3, 1) := by decide +kernel
theorem dX9_homeOf_7 : decode cX9_homeOf 7 = .ok (.iload_n 3, 1) := by decide +kernel
theorem dX9_homeOf_8 : decode cX9_homeOf 8 = .ok (.aload_n 0, 1) := by decide +kernel
theorem dX9_homeOf_9 : decode cX9_homeOf 9 = .ok (.getfield 90, 3) := by decide +kernel
theorem dX9_homeOf_12 : decode cX9_homeOf 12 = .ok (.if_icmp .ge 26, 3) := by decide +kernel
theorem dX9_homeOf_15 : decode cX9_homeOf 15 = .ok (.aload_n 0, 1) := by decide +kernel
theorem dX9_homeOf_16 : decode cX9_homeOf 16 = .ok (.getfield 28, 3) := by decide +kernel
theorem dX9_homeOf_19 : decode cX9_homeOf 19 = .ok (.bipush 6, 2) := by decide +kernel
theorem dX9_homeOf_21 : decode cX9_homeOf 21 = .ok (.iload_n 3, 1) := by decide +kernel
theorem dX9_homeOf_22 : decode cX9_homeOf 22 = .ok (.imul, 1) := by decide +kernel
theorem dX9_homeOf_23 : decode cX9_homeOf 23 = .ok (.iload_n 1, 1) := by decide +kernel
theorem dX9_homeOf_24 : decode cX9_homeOf 24 = .ok (.iadd, 1) := by decide +kernel
theorem dX9_homeOf_25 : decode cX9_homeOf 25 = .ok (.iaload, 1) := by decide +kernel
theorem dX9_homeOf_26 : decode cX9_homeOf 26 = .ok (.iload_n 1, 1) := by decide +kernel
theorem dX9_homeOf_27 : decode cX9_homeOf 27 = .ok (.if_icmp .ne 5, 3) := by decide +kernel
theorem dX9_homeOf_30 : decode cX9_homeOf 30 = .ok (.iload_n 3, 1) := by decide +kernel
theorem dX9_homeOf_31 : decode cX9_homeOf 31 = .ok (.ireturn, 1) := by decide +kernel
theorem dX9_homeOf_32 : decode cX9_homeOf 32 = .ok (.iinc 3 1, 3) := by decide +kernel
theorem dX9_homeOf_35 : decode cX9_homeOf 35 = .ok (.goto (-28), 3) := by decide +kernel
theorem dX9_homeOf_38 : decode cX9_homeOf 38 = .ok (.iconst (-1), 1) := by decide +kernel
theorem dX9_homeOf_39 : decode cX9_homeOf 39 = .ok (.ireturn, 1) := by decide +kernel
set_option maxRecDepth 20000 in
theorem ggX9_home_X9_isSix : GoodIn wsX9_home wsX9_isSix := goodIn_r _ [4, 5, 6, 3, 7] (by decide +kernel) (by decide +kernel)
set_option maxRecDepth 20000 in
theorem gX9_home_X9_isSix : GoodIn wsX9_home (va_wsS RX9 74 yX9_isSix wsX9_isSix) := goodIn_app (goodIn_of _ (by decide +kernel)) ggX9_home_X9_isSix
set_option maxRecDepth 20000 in
theorem ggX9_home_X9_homeOf : GoodIn wsX9_home wsX9_homeOf := goodIn_r _ [11, 12, 13, 14, 15, 16, 3, 17, 18, 19, 1, 2, 4, 5, 6, 7, 20, 21, 22, 23, 24, 25, 26, 27, 28, 29, 30, 31, 32, 33, 34, 35, 36, 37, 38, 39, 40, 41, 42, 43, 44, 45, 46] (by decide +kernel) (by decide +kernel)
set_option maxRecDepth 20000 in
theorem gX9_home_X9_homeOf : GoodIn wsX9_home (wsV RX9 126 RX9 yX9_homeOf wsX9_homeOf) := goodIn_app (goodIn_of _ (by decide +kernel)) ggX9_home_X9_homeOf
theorem dX9_home_0 : decode cX9_home 0 = .ok (.iload_n 1, 1) := by decide +kernel
theorem dX9_home_1 : decode cX9_home 1 = .ok (.invokestatic 74, 3) := by decide +kernel
theorem dX9_home_4 : decode cX9_home 4 = .ok (.ifCond .eq 11, 3) := by decide +kernel
theorem dX9_home_7 : decode cX9_home 7 = .ok (.aload_n 0, 1) := by decide +kernel
theorem dX9_home_8 : decode cX9_home 8 = .ok (.iload_n 1, 1) := by decide +kernel
theorem dX9_home_9 : decode cX9_home 9 = .ok (.invokevirtual 126, 3) := by decide +kernel
theorem dX9_home_12 : decode cX9_home 12 = .ok (.goto 5, 3) := by decide +kernel
theorem dX9_home_15 : decode cX9_home 15 = .ok (.bipush (-2), 2) := by decide +kernel
theorem dX9_home_17 : decode cX9_home 17 = .ok (.ireturn, 1) := by decide +kernel
set_option maxRecDepth 20000 in
theorem ggX9_otherOf_X9_faultNow : GoodIn wsX9_otherOf wsX9_faultNow := goodIn_r _ [7, 1, 8, 9, 2, 10, 11, 6, 12, 13, 14, 15, 16, 17, 18, 19, 20, 21, 22, 23, 24, 25, 26, 27, 28, 29, 30, 31, 32, 33, 34, 35, 36, 37, 38, 39, 40, 41, 42] (by decide +kernel) (by decide +kernel)
set_option maxRecDepth 20000 in
theorem gX9_otherOf_X9_faultNow : GoodIn wsX9_otherOf (wsV RX9 96 RX9 yX9_faultNow wsX9_faultNow) := goodIn_app (goodIn_of _ (by decide +kernel)) ggX9_otherOf_X9_faultNow
theorem dX9_otherOf_0 : decode cX9_otherOf 0 = .ok (.aload_n 0, 1) := by decide +kernel
theorem dX9_otherOf_1 : decode cX9_otherOf 1 = .ok (.invokevirtual 96, 3) := by decide +kernel
theorem dX9_otherOf_4 : decode cX9_otherOf 4 = .ok (.istore_n 3, 1) := by decide +kernel
theorem dX9_otherOf_5 : decode cX9_otherOf 5 = .ok (.iconst 0, 1) := by decide +kernel
theorem dX9_otherOf_6 : decode cX9_otherOf 6 = .ok (.istore 4, 2) := by decide +kernel
theorem dX9_otherOf_8 : decode cX9_otherOf 8 = .ok (.iload 4, 2) := by decide +kernel
theorem dX9_otherOf_10 : decode cX9_otherOf 10 = .ok (.aload_n 0, 1) := by decide +kernel
theorem dX9_otherOf_11 : decode cX9_otherOf 11 = .ok (.getfield 90, 3) := by decide +kernel
theorem dX9_otherOf_14 : decode cX9_otherOf 14 = .ok (.if_icmp .ge 44, 3) := by decide +kernel
theorem dX9_otherOf_17 : decode cX9_otherOf 17 = .ok (.aload_n 0, 1) := by decide +kernel
theorem dX9_otherOf_18 : decode cX9_otherOf 18 = .ok (.getfield 28, 3) := by decide +kernel
theorem dX9_otherOf_21 : decode cX9_otherOf 21 = .ok (.bipush 6, 2) := by decide +kernel
theorem dX9_otherOf_23 : decode cX9_otherOf 23 = .ok (.iload 4, 2) := by decide +kernel
theorem dX9_otherOf_25 : decode cX9_otherOf 25 = .ok (.imul, 1) := by decide +kernel
theorem dX9_otherOf_26 : decode cX9_otherOf 26 = .ok (.iload_n 1, 1) := by decide +kernel
theorem dX9_otherOf_27 : decode cX9_otherOf 27 = .ok (.iadd, 1) := by decide +kernel
theorem dX9_otherOf_28 : decode cX9_otherOf 28 = .ok (.iaload, 1) := by decide +kernel
theorem dX9_otherOf_29 : decode cX9_otherOf 29 = .ok (.iload_n 2, 1) := by decide +kernel
theorem dX9_otherOf_30 : decode cX9_otherOf 30 = .ok (.if_icmp .ne 22, 3) := by decide +kernel
theorem dX9_otherOf_33 : decode cX9_otherOf 33 = .ok (.aload_n 0, 1) := by decide +kernel
theorem dX9_otherOf_34 : decode cX9_otherOf 34 = .ok (.getfield 28, 3) := by decide +kernel
theorem dX9_otherOf_37 : decode cX9_otherOf 37 = .ok (.bipush 6, 2) := by decide +kernel
theorem dX9_otherOf_39 : decode cX9_otherOf 39 = .ok (.iload 4, 2) := by decide +kernel
theorem dX9_otherOf_41 : decode cX9_otherOf 41 = .ok (.imul, 1) := by decide +kernel
theorem dX9_otherOf_42 : decode cX9_otherOf 42 = .ok (.iload_n 2, 1) := by decide +kernel
theorem dX9_otherOf_43 : decode cX9_otherOf 43 = .ok (.iadd, 1) := by decide +kernel
theorem dX9_otherOf_44 : decode cX9_otherOf 44 = .ok (.iaload, 1) := by decide +kernel
theorem dX9_otherOf_45 : decode cX9_otherOf 45 = .ok (.iload_n 1, 1) := by decide +kernel
theorem dX9_otherOf_46 : decode cX9_otherOf 46 = .ok (.if_icmp .ne 6, 3) := by decide +kernel
theorem dX9_otherOf_49 : decode cX9_otherOf 49 = .ok (.iload 4, 2) := by decide +kernel
theorem dX9_otherOf_51 : decode cX9_otherOf 51 = .ok (.ireturn, 1) := by decide +kernel
theorem dX9_otherOf_52 : decode cX9_otherOf 52 = .ok (.iinc 4 1, 3) := by decide +kernel
theorem dX9_otherOf_55 : decode cX9_otherOf 55 = .ok (.goto (-47), 3) := by decide +kernel
theorem dX9_otherOf_58 : decode cX9_otherOf 58 = .ok (.iconst (-1), 1) := by decide +kernel
theorem dX9_otherOf_59 : decode cX9_otherOf 59 = .ok (.ireturn, 1) := by decide +kernel
set_option maxRecDepth 20000 in
theorem ggX9_other_X9_isSix : GoodIn wsX9_other wsX9_isSix := goodIn_r _ [4, 5, 6, 3, 7] (by decide +kernel) (by decide +kernel)
set_option maxRecDepth 20000 in
theorem gX9_other_X9_isSix : GoodIn wsX9_other (va_wsS RX9 74 yX9_isSix wsX9_isSix) := goodIn_app (goodIn_of _ (by decide +kernel)) ggX9_other_X9_isSix
set_option maxRecDepth 20000 in
theorem ggX9_other_X9_otherOf : GoodIn wsX9_other wsX9_otherOf := goodIn_r _ [11, 12, 13, 14, 15, 16, 3, 17, 18, 19, 1, 2, 4, 5, 6, 7, 20, 21, 22, 23, 24, 25, 26, 27, 28, 29, 30, 31, 32, 33, 34, 35, 36, 37, 38, 39, 40, 41, 42, 43, 44, 45, 46] (by decide +kernel) (by decide +kernel)
set_option maxRecDepth 20000 in
theorem gX9_other_X9_otherOf : GoodIn wsX9_other (wsV RX9 129 RX9 yX9_otherOf wsX9_otherOf) := goodIn_app (goodIn_of _ (by decide +kernel)) ggX9_other_X9_otherOf
theorem dX9_other_0 : decode cX9_other 0 = .ok (.iload_n 1, 1) := by decide +kernel
theorem dX9_other_1 : decode cX9_other 1 = .ok (.invokestatic 74, 3) := by decide +kernel
theorem dX9_other_4 : decode cX9_other 4 = .ok (.ifCond .eq 24, 3) := by decide +kernel
theorem dX9_other_7 : decode cX9_other 7 = .ok (.iload_n 2, 1) := by decide +kernel
theorem dX9_other_8 : decode cX9_other 8 = .ok (.invokestatic 74, 3) := by decide +kernel
theorem dX9_other_11 : decode cX9_other 11 = .ok (.ifCond .eq 17, 3) := by decide +kernel
theorem dX9_other_14 : decode cX9_other 14 = .ok (.iload_n 1, 1) := by decide +kernel
theorem dX9_other_15 : decode cX9_other 15 = .ok (.iload_n 2, 1) := by decide +kernel
theorem dX9_other_16 : decode cX9_other 16 = .ok (.if_icmp .eq 12, 3) := by decide +kernel
theorem dX9_other_19 : decode cX9_other 19 = .ok (.aload_n 0, 1) := by decide +kernel
theorem dX9_other_20 : decode cX9_other 20 = .ok (.iload_n 1, 1) := by decide +kernel
theorem dX9_other_21 : decode cX9_other 21 = .ok (.iload_n 2, 1) := by decide +kernel
theorem dX9_other_22 : decode cX9_other 22 = .ok (.invokevirtual 129, 3) := by decide +kernel
theorem dX9_other_25 : decode cX9_other 25 = .ok (.goto 5, 3) := by decide +kernel
theorem dX9_other_28 : decode cX9_other 28 = .ok (.bipush (-2), 2) := by decide +kernel
theorem dX9_other_30 : decode cX9_other 30 = .ok (.ireturn, 1) := by decide +kernel
set_option maxRecDepth 20000 in
theorem ggX9_lays_X9_isIn : GoodIn wsX9_lays wsX9_isIn := goodIn_r _ [5] (by decide +kernel) (by decide +kernel)
set_option maxRecDepth 20000 in
theorem gX9_lays_X9_isIn : GoodIn wsX9_lays (va_wsS RX9 93 yX9_isIn wsX9_isIn) := goodIn_app (goodIn_of _ (by decide +kernel)) ggX9_lays_X9_isIn
theorem dX9_lays_0 : decode cX9_lays 0 = .ok (.iload_n 1, 1) := by decide +kernel
theorem dX9_lays_1 : decode cX9_lays 1 = .ok (.istore_n 2, 1) := by decide +kernel
theorem dX9_lays_2 : decode cX9_lays 2 = .ok (.bipush 120, 2) := by decide +kernel
theorem dX9_lays_4 : decode cX9_lays 4 = .ok (.istore_n 3, 1) := by decide +kernel
theorem dX9_lays_5 : decode cX9_lays 5 = .ok (.iconst 0, 1) := by decide +kernel
theorem dX9_lays_6 : decode cX9_lays 6 = .ok (.istore 4, 2) := by decide +kernel
theorem dX9_lays_8 : decode cX9_lays 8 = .ok (.iconst 0, 1) := by decide +kernel
theorem dX9_lays_9 : decode cX9_lays 9 = .ok (.istore 5, 2) := by decide +kernel
theorem dX9_lays_11 : decode cX9_lays 11 = .ok (.iload 5, 2) := by decide +kernel
theorem dX9_lays_13 : decode cX9_lays 13 = .ok (.bipush 6, 2) := by decide +kernel
theorem dX9_lays_15 : decode cX9_lays 15 = .ok (.if_icmp .ge 97, 3) := by decide +kernel
theorem dX9_lays_18 : decode cX9_lays 18 = .ok (.iload_n 2, 1) := by decide +kernel
theorem dX9_lays_19 : decode cX9_lays 19 = .ok (.iload_n 3, 1) := by decide +kernel
theorem dX9_lays_20 : decode cX9_lays 20 = .ok (.idiv, 1) := by decide +kernel
theorem dX9_lays_21 : decode cX9_lays 21 = .ok (.istore 6, 2) := by decide +kernel
theorem dX9_lays_23 : decode cX9_lays 23 = .ok (.iload_n 2, 1) := by decide +kernel
theorem dX9_lays_24 : decode cX9_lays 24 = .ok (.iload_n 3, 1) := by decide +kernel
theorem dX9_lays_25 : decode cX9_lays 25 = .ok (.irem, 1) := by decide +kernel
theorem dX9_lays_26 : decode cX9_lays 26 = .ok (.istore_n 2, 1) := by decide +kernel
theorem dX9_lays_27 : decode cX9_lays 27 = .ok (.iload 5, 2) := by decide +kernel
theorem dX9_lays_29 : decode cX9_lays 29 = .ok (.iconst 4, 1) := by decide +kernel
theorem dX9_lays_30 : decode cX9_lays 30 = .ok (.if_icmp .ge 12, 3) := by decide +kernel
theorem dX9_lays_33 : decode cX9_lays 33 = .ok (.iload_n 3, 1) := by decide +kernel
theorem dX9_lays_34 : decode cX9_lays 34 = .ok (.iconst 5, 1) := by decide +kernel
theorem dX9_lays_35 : decode cX9_lays 35 = .ok (.iload 5, 2) := by decide +kernel
theorem dX9_lays_37 : decode cX9_lays 37 = .ok (.isub, 1) := by decide +kernel
theorem dX9_lays_38 : decode cX9_lays 38 = .ok (.idiv, 1) := by decide +kernel
theorem dX9_lays_39 : decode cX9_lays 39 = .ok (.goto 4, 3) := by decide +kernel
theorem dX9_lays_42 : decode cX9_lays 42 = .ok (.iconst 1, 1) := by decide +kernel
theorem dX9_lays_43 : decode cX9_lays 43 = .ok (.istore_n 3, 1) := by decide +kernel
theorem dX9_lays_44 : decode cX9_lays 44 = .ok (.iconst 0, 1) := by decide +kernel
theorem dX9_lays_45 : decode cX9_lays 45 = .ok (.istore 7, 2) := by decide +kernel
theorem dX9_lays_47 : decode cX9_lays 47 = .ok (.iload 4, 2) := by decide +kernel
theorem dX9_lays_49 : decode cX9_lays 49 = .ok (.iload 7, 2) := by decide +kernel
theorem dX9_lays_51 : decode cX9_lays 51 = .ok (.invokestatic 93, 3) := by decide +kernel
theorem dX9_lays_54 : decode cX9_lays 54 = .ok (.ifCond .ne 8, 3) := by decide +kernel
theorem dX9_lays_57 : decode cX9_lays 57 = .ok (.iload 6, 2) := by decide +kernel
theorem dX9_lays_59 : decode cX9_lays 59 = .ok (.ifCond .le 29, 3) := by decide +kernel
theorem dX9_lays_62 : decode cX9_lays 62 = .ok (.iload 6, 2) := by decide +kernel
theorem dX9_lays_64 : decode cX9_lays 64 = .ok (.iload 4, 2) := by decide +kernel
theorem dX9_lays_66 : decode cX9_lays 66 = .ok (.iload 7, 2) := by decide +kernel
theorem dX9_lays_68 : decode cX9_lays 68 = .ok (.invokestatic 93, 3) := by decide +kernel
theorem dX9_lays_71 : decode cX9_lays 71 = .ok (.ifCond .eq 7, 3) := by decide +kernel
theorem dX9_lays_74 : decode cX9_lays 74 = .ok (.iconst 0, 1) := by decide +kernel
theorem dX9_lays_75 : decode cX9_lays 75 = .ok (.goto 4, 3) := by decide +kernel
theorem dX9_lays_78 : decode cX9_lays 78 = .ok (.iconst 1, 1) := by decide +kernel
theorem dX9_lays_79 : decode cX9_lays 79 = .ok (.isub, 1) := by decide +kernel
theorem dX9_lays_80 : decode cX9_lays 80 = .ok (.istore 6, 2) := by decide +kernel
theorem dX9_lays_82 : decode cX9_lays 82 = .ok (.iinc 7 1, 3) := by decide +kernel
theorem dX9_lays_85 : decode cX9_lays 85 = .ok (.goto (-38), 3) := by decide +kernel
theorem dX9_lays_88 : decode cX9_lays 88 = .ok (.aload_n 0, 1) := by decide +kernel
theorem dX9_lays_89 : decode cX9_lays 89 = .ok (.getfield 31, 3) := by decide +kernel
theorem dX9_lays_92 : decode cX9_lays 92 = .ok (.iload 5, 2) := by decide +kernel
theorem dX9_lays_94 : decode cX9_lays 94 = .ok (.iload 7, 2) := by decide +kernel
theorem dX9_lays_96 : decode cX9_lays 96 = .ok (.iastore, 1) := by decide +kernel
theorem dX9_lays_97 : decode cX9_lays 97 = .ok (.iload 4, 2) := by decide +kernel
theorem dX9_lays_99 : decode cX9_lays 99 = .ok (.iconst 1, 1) := by decide +kernel
theorem dX9_lays_100 : decode cX9_lays 100 = .ok (.iload 7, 2) := by decide +kernel
theorem dX9_lays_102 : decode cX9_lays 102 = .ok (.ishl, 1) := by decide +kernel
theorem dX9_lays_103 : decode cX9_lays 103 = .ok (.ior, 1) := by decide +kernel
theorem dX9_lays_104 : decode cX9_lays 104 = .ok (.istore 4, 2) := by decide +kernel
theorem dX9_lays_106 : decode cX9_lays 106 = .ok (.iinc 5 1, 3) := by decide +kernel
theorem dX9_lays_109 : decode cX9_lays 109 = .ok (.goto (-98), 3) := by decide +kernel
theorem dX9_lays_112 : decode cX9_lays 112 = .ok (.return_, 1) := by decide +kernel
set_option maxRecDepth 20000 in
theorem ggX9_isSound_X9_doesFit : GoodIn wsX9_isSound wsX9_doesFit := goodIn_r _ [6, 7, 8, 9, 10, 11, 12, 13, 14, 15, 16, 17, 18, 19, 20, 21, 22, 23, 24, 25, 26, 27, 28, 29, 30, 31, 32, 33, 34] (by decide +kernel) (by decide +kernel)
set_option maxRecDepth 20000 in
theorem gX9_isSound_X9_doesFit : GoodIn wsX9_isSound (wsV RX9 78 RX9 yX9_doesFit wsX9_doesFit) := goodIn_app (goodIn_of _ (by decide +kernel)) ggX9_isSound_X9_doesFit
theorem dX9_isSound_0 : decode cX9_isSound 0 = .ok (.iconst 0, 1) := by decide +kernel
theorem dX9_isSound_1 : decode cX9_isSound 1 = .ok (.istore_n 1, 1) := by decide +kernel
theorem dX9_isSound_2 : decode cX9_isSound 2 = .ok (.iload_n 1, 1) := by decide +kernel
theorem dX9_isSound_3 : decode cX9_isSound 3 = .ok (.bipush 6, 2) := by decide +kernel
theorem dX9_isSound_5 : decode cX9_isSound 5 = .ok (.if_icmp .ge 25, 3) := by decide +kernel
theorem dX9_isSound_8 : decode cX9_isSound 8 = .ok (.aload_n 0, 1) := by decide +kernel
theorem dX9_isSound_9 : decode cX9_isSound 9 = .ok (.iload_n 1, 1) := by decide +kernel
theorem dX9_isSound_10 : decode cX9_isSound 10 = .ok (.aload_n 0, 1) := by decide +kernel
theorem dX9_isSound_11 : decode cX9_isSound 11 = .ok (.getfield 31, 3) := by decide +kernel
theorem dX9_isSound_14 : decode cX9_isSound 14 = .ok (.iload_n 1, 1) := by decide +kernel
theorem dX9_isSound_15 : decode cX9_isSound 15 = .ok (.iaload, 1) := by decide +kernel
theorem dX9_isSound_16 : decode cX9_isSound 16 = .ok (.invokevirtual 78, 3) := by decide +kernel
theorem dX9_isSound_19 : decode cX9_isSound 19 = .ok (.ifCond .ne 5, 3) := by decide +kernel
theorem dX9_isSound_22 : decode cX9_isSound 22 = .ok (.iconst 0, 1) := by decide +kernel
theorem dX9_isSound_23 : decode cX9_isSound 23 = .ok (.ireturn, 1) := by decide +kernel
theorem dX9_isSound_24 : decode cX9_isSound 24 = .ok (.iinc 1 1, 3) := by decide +kernel
theorem dX9_isSound_27 : decode cX9_isSound 27 = .ok (.goto (-25), 3) := by decide +kernel
theorem dX9_isSound_30 : decode cX9_isSound 30 = .ok (.iconst 1, 1) := by decide +kernel
theorem dX9_isSound_31 : decode cX9_isSound 31 = .ok (.ireturn, 1) := by decide +kernel
set_option maxRecDepth 20000 in
theorem ggX9_soundOf_X9_lays : GoodIn wsX9_soundOf wsX9_lays := goodIn_r _ [6, 1, 7, 8, 5, 9, 22, 23, 24, 25, 26, 27, 28, 29, 30, 31, 32, 33, 34, 35, 36, 37, 38, 39, 40, 41, 42, 43, 44, 45] (by decide +kernel) (by decide +kernel)
set_option maxRecDepth 20000 in
theorem gX9_soundOf_X9_lays : GoodIn wsX9_soundOf (wsV RX9 132 RX9 yX9_lays wsX9_lays) := goodIn_app (goodIn_of _ (by decide +kernel)) ggX9_soundOf_X9_lays
set_option maxRecDepth 20000 in
theorem ggX9_soundOf_X9_isSound : GoodIn wsX9_soundOf wsX9_isSound := goodIn_r _ [13, 1, 14, 15, 16, 5, 17, 18, 19, 20, 21, 22, 23, 24, 25, 26, 27, 28, 29, 30, 31, 32, 33, 34, 35, 36, 37, 38, 39, 40, 41, 42, 43, 44, 45] (by decide +kernel) (by decide +kernel)
set_option maxRecDepth 20000 in
theorem gX9_soundOf_X9_isSound : GoodIn wsX9_soundOf (wsV RX9 136 RX9 yX9_isSound wsX9_isSound) := goodIn_app (goodIn_of _ (by decide +kernel)) ggX9_soundOf_X9_isSound
theorem dX9_soundOf_0 : decode cX9_soundOf 0 = .ok (.iconst 0, 1) := by decide +kernel
theorem dX9_soundOf_1 : decode cX9_soundOf 1 = .ok (.istore_n 2, 1) := by decide +kernel
theorem dX9_soundOf_2 : decode cX9_soundOf 2 = .ok (.iconst (-1), 1) := by decide +kernel
theorem dX9_soundOf_3 : decode cX9_soundOf 3 = .ok (.istore_n 3, 1) := by decide +kernel
theorem dX9_soundOf_4 : decode cX9_soundOf 4 = .ok (.iconst 0, 1) := by decide +kernel
theorem dX9_soundOf_5 : decode cX9_soundOf 5 = .ok (.istore 4, 2) := by decide +kernel
theorem dX9_soundOf_7 : decode cX9_soundOf 7 = .ok (.iload 4, 2) := by decide +kernel
theorem dX9_soundOf_9 : decode cX9_soundOf 9 = .ok (.sipush 720, 3) := by decide +kernel
theorem dX9_soundOf_12 : decode cX9_soundOf 12 = .ok (.if_icmp .ge 45, 3) := by decide +kernel
theorem dX9_soundOf_15 : decode cX9_soundOf 15 = .ok (.aload_n 0, 1) := by decide +kernel
theorem dX9_soundOf_16 : decode cX9_soundOf 16 = .ok (.iload 4, 2) := by decide +kernel
theorem dX9_soundOf_18 : decode cX9_soundOf 18 = .ok (.invokevirtual 132, 3) := by decide +kernel
theorem dX9_soundOf_21 : decode cX9_soundOf 21 = .ok (.aload_n 0, 1) := by decide +kernel
theorem dX9_soundOf_22 : decode cX9_soundOf 22 = .ok (.invokevirtual 136, 3) := by decide +kernel
theorem dX9_soundOf_25 : decode cX9_soundOf 25 = .ok (.ifCond .eq 26, 3) := by decide +kernel
theorem dX9_soundOf_28 : decode cX9_soundOf 28 = .ok (.iload_n 2, 1) := by decide +kernel
theorem dX9_soundOf_29 : decode cX9_soundOf 29 = .ok (.ifCond .ne 17, 3) := by decide +kernel
theorem dX9_soundOf_32 : decode cX9_soundOf 32 = .ok (.iload_n 1, 1) := by decide +kernel
theorem dX9_soundOf_33 : decode cX9_soundOf 33 = .ok (.iconst (-1), 1) := by decide +kernel
theorem dX9_soundOf_34 : decode cX9_soundOf 34 = .ok (.if_icmp .eq 12, 3) := by decide +kernel
theorem dX9_soundOf_37 : decode cX9_soundOf 37 = .ok (.aload_n 0, 1) := by decide +kernel
theorem dX9_soundOf_38 : decode cX9_soundOf 38 = .ok (.getfield 31, 3) := by decide +kernel
theorem dX9_soundOf_41 : decode cX9_soundOf 41 = .ok (.iload_n 1, 1) := by decide +kernel
theorem dX9_soundOf_42 : decode cX9_soundOf 42 = .ok (.iaload, 1) := by decide +kernel
theorem dX9_soundOf_43 : decode cX9_soundOf 43 = .ok (.goto 4, 3) := by decide +kernel
theorem dX9_soundOf_46 : decode cX9_soundOf 46 = .ok (.iload_n 3, 1) := by decide +kernel
theorem dX9_soundOf_47 : decode cX9_soundOf 47 = .ok (.istore_n 3, 1) := by decide +kernel
theorem dX9_soundOf_48 : decode cX9_soundOf 48 = .ok (.iinc 2 1, 3) := by decide +kernel
theorem dX9_soundOf_51 : decode cX9_soundOf 51 = .ok (.iinc 4 1, 3) := by decide +kernel
theorem dX9_soundOf_54 : decode cX9_soundOf 54 = .ok (.goto (-47), 3) := by decide +kernel
theorem dX9_soundOf_57 : decode cX9_soundOf 57 = .ok (.iload_n 1, 1) := by decide +kernel
theorem dX9_soundOf_58 : decode cX9_soundOf 58 = .ok (.iconst (-1), 1) := by decide +kernel
theorem dX9_soundOf_59 : decode cX9_soundOf 59 = .ok (.if_icmp .ne 7, 3) := by decide +kernel
theorem dX9_soundOf_62 : decode cX9_soundOf 62 = .ok (.iload_n 2, 1) := by decide +kernel
theorem dX9_soundOf_63 : decode cX9_soundOf 63 = .ok (.goto 4, 3) := by decide +kernel
theorem dX9_soundOf_66 : decode cX9_soundOf 66 = .ok (.iload_n 3, 1) := by decide +kernel
theorem dX9_soundOf_67 : decode cX9_soundOf 67 = .ok (.ireturn, 1) := by decide +kernel
set_option maxRecDepth 20000 in
theorem ggX9_sound_X9_isSix : GoodIn wsX9_sound wsX9_isSix := goodIn_r _ [4, 5, 6, 3, 7] (by decide +kernel) (by decide +kernel)
set_option maxRecDepth 20000 in
theorem gX9_sound_X9_isSix : GoodIn wsX9_sound (va_wsS RX9 74 yX9_isSix wsX9_isSix) := goodIn_app (goodIn_of _ (by decide +kernel)) ggX9_sound_X9_isSix
set_option maxRecDepth 20000 in
theorem ggX9_sound_X9_soundOf : GoodIn wsX9_sound wsX9_soundOf := goodIn_r _ [11, 12, 13, 14, 15, 3, 16, 17, 18, 19, 20, 21, 22, 23, 24, 25, 26, 27, 28, 29, 30, 31, 32, 33, 34, 35, 36, 37, 38, 39, 40, 41, 42, 43, 44, 45, 46, 47, 48, 49, 50, 51, 52, 53, 54, 55] (by decide +kernel) (by decide +kernel)
set_option maxRecDepth 20000 in
theorem gX9_sound_X9_soundOf : GoodIn wsX9_sound (wsV RX9 140 RX9 yX9_soundOf wsX9_soundOf) := goodIn_app (goodIn_of _ (by decide +kernel)) ggX9_sound_X9_soundOf
theorem dX9_sound_0 : decode cX9_sound 0 = .ok (.iload_n 1, 1) := by decide +kernel
theorem dX9_sound_1 : decode cX9_sound 1 = .ok (.iconst (-1), 1) := by decide +kernel
theorem dX9_sound_2 : decode cX9_sound 2 = .ok (.if_icmp .eq 10, 3) := by decide +kernel
theorem dX9_sound_5 : decode cX9_sound 5 = .ok (.iload_n 1, 1) := by decide +kernel
theorem dX9_sound_6 : decode cX9_sound 6 = .ok (.invokestatic 74, 3) := by decide +kernel
theorem dX9_sound_9 : decode cX9_sound 9 = .ok (.ifCond .eq 11, 3) := by decide +kernel
theorem dX9_sound_12 : decode cX9_sound 12 = .ok (.aload_n 0, 1) := by decide +kernel
theorem dX9_sound_13 : decode cX9_sound 13 = .ok (.iload_n 1, 1) := by decide +kernel
theorem dX9_sound_14 : decode cX9_sound 14 = .ok (.invokevirtual 140, 3) := by decide +kernel
theorem dX9_sound_17 : decode cX9_sound 17 = .ok (.goto 5, 3) := by decide +kernel
theorem dX9_sound_20 : decode cX9_sound 20 = .ok (.bipush (-2), 2) := by decide +kernel
theorem dX9_sound_22 : decode cX9_sound 22 = .ok (.ireturn, 1) := by decide +kernel
set_option maxRecDepth 20000 in
theorem ggX9_chanceOf_X9_lays : GoodIn wsX9_chanceOf wsX9_lays := goodIn_r _ [6, 1, 7, 8, 5, 9, 29, 30, 31, 32, 33, 34, 35, 36, 37, 38, 39, 40, 41, 42, 43, 44, 45, 46, 47, 48, 49, 50, 51, 52] (by decide +kernel) (by decide +kernel)
set_option maxRecDepth 20000 in
theorem gX9_chanceOf_X9_lays : GoodIn wsX9_chanceOf (wsV RX9 132 RX9 yX9_lays wsX9_lays) := goodIn_app (goodIn_of _ (by decide +kernel)) ggX9_chanceOf_X9_lays
set_option maxRecDepth 20000 in
theorem ggX9_chanceOf_X9_isSound : GoodIn wsX9_chanceOf wsX9_isSound := goodIn_r _ [13, 1, 14, 15, 16, 5, 17, 18, 19, 20, 21, 29, 30, 31, 32, 33, 34, 35, 36, 37, 38, 39, 40, 41, 42, 43, 44, 45, 46, 47, 48, 49, 50, 51, 52] (by decide +kernel) (by decide +kernel)
set_option maxRecDepth 20000 in
theorem gX9_chanceOf_X9_isSound : GoodIn wsX9_chanceOf (wsV RX9 136 RX9 yX9_isSound wsX9_isSound) := goodIn_app (goodIn_of _ (by decide +kernel)) ggX9_chanceOf_X9_isSound
set_option maxRecDepth 20000 in
theorem ggX9_chanceOf_X9_no : GoodIn wsX9_chanceOf wsX9_no := goodIn_r _ [24, 25] (by decide +kernel) (by decide +kernel)
set_option maxRecDepth 20000 in
theorem gX9_chanceOf_X9_no : GoodIn wsX9_chanceOf (va_wsS RX9 143 yX9_no wsX9_no) := goodIn_app (goodIn_of _ (by decide +kernel)) ggX9_chanceOf_X9_no
set_option maxRecDepth 20000 in
theorem ggX9_chanceOf_X9_lowest : GoodIn wsX9_chanceOf wsX9_lowest := goodIn_r _ [28] (by decide +kernel) (by decide +kernel)
set_option maxRecDepth 20000 in
theorem gX9_chanceOf_X9_lowest : GoodIn wsX9_chanceOf (va_wsS RX9 147 yX9_lowest wsX9_lowest) := goodIn_app (goodIn_of _ (by decide +kernel)) ggX9_chanceOf_X9_lowest
theorem dX9_chanceOf_0 : decode cX9_chanceOf 0 = .ok (.iconst 0, 1) := by decide +kernel
theorem dX9_chanceOf_1 : decode cX9_chanceOf 1 = .ok (.istore 4, 2) := by decide +kernel
theorem dX9_chanceOf_3 : decode cX9_chanceOf 3 = .ok (.iconst 0, 1) := by decide +kernel
theorem dX9_chanceOf_4 : decode cX9_chanceOf 4 = .ok (.istore 5, 2) := by decide +kernel
theorem dX9_chanceOf_6 : decode cX9_chanceOf 6 = .ok (.iconst 0, 1) := by decide +kernel
theorem dX9_chanceOf_7 : decode cX9_chanceOf 7 = .ok (.istore 6, 2) := by decide +kernel
theorem dX9_chanceOf_9 : decode cX9_chanceOf 9 = .ok (.iload 6, 2) := by decide +kernel
theorem dX9_chanceOf_11 : decode cX9_chanceOf 11 = .ok (.sipush 720, 3) := by decide +kernel
theorem dX9_chanceOf_14 : decode cX9_chanceOf 14 = .ok (.if_icmp .ge 45, 3) := by decide +kernel
theorem dX9_chanceOf_17 : decode cX9_chanceOf 17 = .ok (.aload_n 0, 1) := by decide +kernel
theorem dX9_chanceOf_18 : decode cX9_chanceOf 18 = .ok (.iload 6, 2) := by decide +kernel
theorem dX9_chanceOf_20 : decode cX9_chanceOf 20 = .ok (.invokevirtual 132, 3) := by decide +kernel
theorem dX9_chanceOf_23 : decode cX9_chanceOf 23 = .ok (.aload_n 0, 1) := by decide +kernel
theorem dX9_chanceOf_24 : decode cX9_chanceOf 24 = .ok (.invokevirtual 136, 3) := by decide +kernel
theorem dX9_chanceOf_27 : decode cX9_chanceOf 27 = .ok (.ifCond .eq 26, 3) := by decide +kernel
theorem dX9_chanceOf_30 : decode cX9_chanceOf 30 = .ok (.iinc 4 1, 3) := by decide +kernel
theorem dX9_chanceOf_33 : decode cX9_chanceOf 33 = .ok (.iload 5, 2) := by decide +kernel
theorem dX9_chanceOf_35 : decode cX9_chanceOf 35 = .ok (.aload_n 0, 1) := by decide +kernel
theorem dX9_chanceOf_36 : decode cX9_chanceOf 36 = .ok (.getfield 31, 3) := by decide +kernel
theorem dX9_chanceOf_39 : decode cX9_chanceOf 39 = .ok (.iload_n 1, 1) := by decide +kernel
theorem dX9_chanceOf_40 : decode cX9_chanceOf 40 = .ok (.iaload, 1) := by decide +kernel
theorem dX9_chanceOf_41 : decode cX9_chanceOf 41 = .ok (.iload_n 2, 1) := by decide +kernel
theorem dX9_chanceOf_42 : decode cX9_chanceOf 42 = .ok (.if_icmp .ne 7, 3) := by decide +kernel
theorem dX9_chanceOf_45 : decode cX9_chanceOf 45 = .ok (.iconst 1, 1) := by decide +kernel
theorem dX9_chanceOf_46 : decode cX9_chanceOf 46 = .ok (.goto 4, 3) := by decide +kernel
theorem dX9_chanceOf_49 : decode cX9_chanceOf 49 = .ok (.iconst 0, 1) := by decide +kernel
theorem dX9_chanceOf_50 : decode cX9_chanceOf 50 = .ok (.iadd, 1) := by decide +kernel
theorem dX9_chanceOf_51 : decode cX9_chanceOf 51 = .ok (.istore 5, 2) := by decide +kernel
theorem dX9_chanceOf_53 : decode cX9_chanceOf 53 = .ok (.iinc 6 1, 3) := by decide +kernel
theorem dX9_chanceOf_56 : decode cX9_chanceOf 56 = .ok (.goto (-47), 3) := by decide +kernel
theorem dX9_chanceOf_59 : decode cX9_chanceOf 59 = .ok (.iload 4, 2) := by decide +kernel
theorem dX9_chanceOf_61 : decode cX9_chanceOf 61 = .ok (.ifCond .ne 11, 3) := by decide +kernel
theorem dX9_chanceOf_64 : decode cX9_chanceOf 64 = .ok (.bipush (-3), 2) := by decide +kernel
theorem dX9_chanceOf_66 : decode cX9_chanceOf 66 = .ok (.invokestatic 143, 3) := by decide +kernel
theorem dX9_chanceOf_69 : decode cX9_chanceOf 69 = .ok (.goto 13, 3) := by decide +kernel
theorem dX9_chanceOf_72 : decode cX9_chanceOf 72 = .ok (.iload 5, 2) := by decide +kernel
theorem dX9_chanceOf_74 : decode cX9_chanceOf 74 = .ok (.i2l, 1) := by decide +kernel
theorem dX9_chanceOf_75 : decode cX9_chanceOf 75 = .ok (.iload 4, 2) := by decide +kernel
theorem dX9_chanceOf_77 : decode cX9_chanceOf 77 = .ok (.i2l, 1) := by decide +kernel
theorem dX9_chanceOf_78 : decode cX9_chanceOf 78 = .ok (.iload_n 3, 1) := by decide +kernel
theorem dX9_chanceOf_79 : decode cX9_chanceOf 79 = .ok (.invokestatic 147, 3) := by decide +kernel
theorem dX9_chanceOf_82 : decode cX9_chanceOf 82 = .ok (.lreturn, 1) := by decide +kernel
set_option maxRecDepth 20000 in
theorem ggX9_chance_X9_isSix : GoodIn wsX9_chance wsX9_isSix := goodIn_r _ [4, 5, 6, 3, 7] (by decide +kernel) (by decide +kernel)
set_option maxRecDepth 20000 in
theorem gX9_chance_X9_isSix : GoodIn wsX9_chance (va_wsS RX9 74 yX9_isSix wsX9_isSix) := goodIn_app (goodIn_of _ (by decide +kernel)) ggX9_chance_X9_isSix
set_option maxRecDepth 20000 in
theorem ggX9_chance_X9_in : GoodIn wsX9_chance wsX9_in := goodIn_r _ [7] (by decide +kernel) (by decide +kernel)
set_option maxRecDepth 20000 in
theorem gX9_chance_X9_in : GoodIn wsX9_chance (va_wsS RX9 70 yX9_in wsX9_in) := goodIn_app (goodIn_of _ (by decide +kernel)) ggX9_chance_X9_in
set_option maxRecDepth 20000 in
theorem ggX9_chance_X9_chanceOf : GoodIn wsX9_chance wsX9_chanceOf := goodIn_r _ [11, 12, 13, 14, 15, 3, 16, 17, 18, 19, 20, 21, 22, 23, 24, 25, 26, 27, 28, 29, 30, 31, 32, 33, 34, 35, 36, 37, 38, 39, 40, 41, 42, 43, 44, 45, 46, 47, 48, 49, 50, 51, 52, 53, 54, 55, 56, 57, 58, 59, 60, 61, 62] (by decide +kernel) (by decide +kernel)
set_option maxRecDepth 20000 in
theorem gX9_chance_X9_chanceOf : GoodIn wsX9_chance (wsV RX9 151 RX9 yX9_chanceOf wsX9_chanceOf) := goodIn_app (goodIn_of _ (by decide +kernel)) ggX9_chance_X9_chanceOf
set_option maxRecDepth 20000 in
theorem ggX9_chance_X9_no : GoodIn wsX9_chance wsX9_no := goodIn_r _ [34, 35] (by decide +kernel) (by decide +kernel)
set_option maxRecDepth 20000 in
theorem gX9_chance_X9_no : GoodIn wsX9_chance (va_wsS RX9 143 yX9_no wsX9_no) := goodIn_app (goodIn_of _ (by decide +kernel)) ggX9_chance_X9_no
theorem dX9_chance_0 : decode cX9_chance 0 = .ok (.iload_n 1, 1) := by decide +kernel
theorem dX9_chance_1 : decode cX9_chance 1 = .ok (.invokestatic 74, 3) := by decide +kernel
theorem dX9_chance_4 : decode cX9_chance 4 = .ok (.ifCond .eq 29, 3) := by decide +kernel
theorem dX9_chance_7 : decode cX9_chance 7 = .ok (.iload_n 2, 1) := by decide +kernel
theorem dX9_chance_8 : decode cX9_chance 8 = .ok (.invokestatic 74, 3) := by decide +kernel
theorem dX9_chance_11 : decode cX9_chance 11 = .ok (.ifCond .eq 22, 3) := by decide +kernel
theorem dX9_chance_14 : decode cX9_chance 14 = .ok (.iload_n 3, 1) := by decide +kernel
theorem dX9_chance_15 : decode cX9_chance 15 = .ok (.iconst 0, 1) := by decide +kernel
theorem dX9_chance_16 : decode cX9_chance 16 = .ok (.iconst 1, 1) := by decide +kernel
theorem dX9_chance_17 : decode cX9_chance 17 = .ok (.invokestatic 70, 3) := by decide +kernel
theorem dX9_chance_20 : decode cX9_chance 20 = .ok (.ifCond .eq 13, 3) := by decide +kernel
theorem dX9_chance_23 : decode cX9_chance 23 = .ok (.aload_n 0, 1) := by decide +kernel
theorem dX9_chance_24 : decode cX9_chance 24 = .ok (.iload_n 1, 1) := by decide +kernel
theorem dX9_chance_25 : decode cX9_chance 25 = .ok (.iload_n 2, 1) := by decide +kernel
theorem dX9_chance_26 : decode cX9_chance 26 = .ok (.iload_n 3, 1) := by decide +kernel
theorem dX9_chance_27 : decode cX9_chance 27 = .ok (.invokevirtual 151, 3) := by decide +kernel
theorem dX9_chance_30 : decode cX9_chance 30 = .ok (.goto 8, 3) := by decide +kernel
theorem dX9_chance_33 : decode cX9_chance 33 = .ok (.bipush (-2), 2) := by decide +kernel
theorem dX9_chance_35 : decode cX9_chance 35 = .ok (.invokestatic 143, 3) := by decide +kernel
theorem dX9_chance_38 : decode cX9_chance 38 = .ok (.lreturn, 1) := by decide +kernel
set_option maxRecDepth 20000 in
theorem ggX9_aheadOf_X9_earns : GoodIn wsX9_aheadOf wsX9_earns := goodIn_r _ [6, 7, 8, 9, 10, 5, 11, 12, 13, 14, 15, 19, 20, 21, 22, 23, 24, 25, 26, 27, 28, 29, 30, 31, 32, 33, 34, 35, 36, 37, 38, 39, 40, 41, 42] (by decide +kernel) (by decide +kernel)
set_option maxRecDepth 20000 in
theorem gX9_aheadOf_X9_earns : GoodIn wsX9_aheadOf (wsV RX9 109 RX9 yX9_earns wsX9_earns) := goodIn_app (goodIn_of _ (by decide +kernel)) ggX9_aheadOf_X9_earns
set_option maxRecDepth 20000 in
theorem ggX9_aheadOf_X9_lowest : GoodIn wsX9_aheadOf wsX9_lowest := goodIn_r _ [18] (by decide +kernel) (by decide +kernel)
set_option maxRecDepth 20000 in
theorem gX9_aheadOf_X9_lowest : GoodIn wsX9_aheadOf (va_wsS RX9 147 yX9_lowest wsX9_lowest) := goodIn_app (goodIn_of _ (by decide +kernel)) ggX9_aheadOf_X9_lowest
theorem dX9_aheadOf_0 : decode cX9_aheadOf 0 = .ok (.iconst 0, 1) := by decide +kernel
theorem dX9_aheadOf_1 : decode cX9_aheadOf 1 = .ok (.istore_n 3, 1) := by decide +kernel
theorem dX9_aheadOf_2 : decode cX9_aheadOf 2 = .ok (.iconst 0, 1) := by decide +kernel
theorem dX9_aheadOf_3 : decode cX9_aheadOf 3 = .ok (.istore 4, 2) := by decide +kernel
theorem dX9_aheadOf_5 : decode cX9_aheadOf 5 = .ok (.iload 4, 2) := by decide +kernel
theorem dX9_aheadOf_7 : decode cX9_aheadOf 7 = .ok (.bipush 6, 2) := by decide +kernel
theorem dX9_aheadOf_9 : decode cX9_aheadOf 9 = .ok (.if_icmp .ge 19, 3) := by decide +kernel
theorem dX9_aheadOf_12 : decode cX9_aheadOf 12 = .ok (.iload_n 3, 1) := by decide +kernel
theorem dX9_aheadOf_13 : decode cX9_aheadOf 13 = .ok (.aload_n 0, 1) := by decide +kernel
theorem dX9_aheadOf_14 : decode cX9_aheadOf 14 = .ok (.iload_n 1, 1) := by decide +kernel
theorem dX9_aheadOf_15 : decode cX9_aheadOf 15 = .ok (.iload 4, 2) := by decide +kernel
theorem dX9_aheadOf_17 : decode cX9_aheadOf 17 = .ok (.invokevirtual 109, 3) := by decide +kernel
theorem dX9_aheadOf_20 : decode cX9_aheadOf 20 = .ok (.iadd, 1) := by decide +kernel
theorem dX9_aheadOf_21 : decode cX9_aheadOf 21 = .ok (.istore_n 3, 1) := by decide +kernel
theorem dX9_aheadOf_22 : decode cX9_aheadOf 22 = .ok (.iinc 4 1, 3) := by decide +kernel
theorem dX9_aheadOf_25 : decode cX9_aheadOf 25 = .ok (.goto (-20), 3) := by decide +kernel
theorem dX9_aheadOf_28 : decode cX9_aheadOf 28 = .ok (.iload_n 3, 1) := by decide +kernel
theorem dX9_aheadOf_29 : decode cX9_aheadOf 29 = .ok (.i2l, 1) := by decide +kernel
theorem dX9_aheadOf_30 : decode cX9_aheadOf 30 = .ok (.ldc2_w 155, 3) := by decide +kernel
theorem dX9_aheadOf_33 : decode cX9_aheadOf 33 = .ok (.iload_n 2, 1) := by decide +kernel
theorem dX9_aheadOf_34 : decode cX9_aheadOf 34 = .ok (.invokestatic 147, 3) := by decide +kernel
theorem dX9_aheadOf_37 : decode cX9_aheadOf 37 = .ok (.lreturn, 1) := by decide +kernel
set_option maxRecDepth 20000 in
theorem ggX9_ahead_X9_isSix : GoodIn wsX9_ahead wsX9_isSix := goodIn_r _ [4, 5, 6, 3, 7] (by decide +kernel) (by decide +kernel)
set_option maxRecDepth 20000 in
theorem gX9_ahead_X9_isSix : GoodIn wsX9_ahead (va_wsS RX9 74 yX9_isSix wsX9_isSix) := goodIn_app (goodIn_of _ (by decide +kernel)) ggX9_ahead_X9_isSix
set_option maxRecDepth 20000 in
theorem ggX9_ahead_X9_in : GoodIn wsX9_ahead wsX9_in := goodIn_r _ [7] (by decide +kernel) (by decide +kernel)
set_option maxRecDepth 20000 in
theorem gX9_ahead_X9_in : GoodIn wsX9_ahead (va_wsS RX9 70 yX9_in wsX9_in) := goodIn_app (goodIn_of _ (by decide +kernel)) ggX9_ahead_X9_in
set_option maxRecDepth 20000 in
theorem ggX9_ahead_X9_aheadOf : GoodIn wsX9_ahead wsX9_aheadOf := goodIn_r _ [11, 12, 13, 14, 15, 3, 16, 17, 18, 19, 20, 21, 22, 23, 24, 25, 26, 27, 28, 33, 34, 35, 36, 37, 38, 39, 40, 41, 42, 43, 44, 45, 46, 47, 48, 49, 50, 51, 52, 53, 54, 55, 56] (by decide +kernel) (by decide +kernel)
set_option maxRecDepth 20000 in
theorem gX9_ahead_X9_aheadOf : GoodIn wsX9_ahead (wsV RX9 157 RX9 yX9_aheadOf wsX9_aheadOf) := goodIn_app (goodIn_of _ (by decide +kernel)) ggX9_ahead_X9_aheadOf
set_option maxRecDepth 20000 in
theorem ggX9_ahead_X9_no : GoodIn wsX9_ahead wsX9_no := goodIn_r _ [31, 32] (by decide +kernel) (by decide +kernel)
set_option maxRecDepth 20000 in
theorem gX9_ahead_X9_no : GoodIn wsX9_ahead (va_wsS RX9 143 yX9_no wsX9_no) := goodIn_app (goodIn_of _ (by decide +kernel)) ggX9_ahead_X9_no
theorem dX9_ahead_0 : decode cX9_ahead 0 = .ok (.iload_n 1, 1) := by decide +kernel
theorem dX9_ahead_1 : decode cX9_ahead 1 = .ok (.invokestatic 74, 3) := by decide +kernel
theorem dX9_ahead_4 : decode cX9_ahead 4 = .ok (.ifCond .eq 21, 3) := by decide +kernel
theorem dX9_ahead_7 : decode cX9_ahead 7 = .ok (.iload_n 2, 1) := by decide +kernel
theorem dX9_ahead_8 : decode cX9_ahead 8 = .ok (.iconst 0, 1) := by decide +kernel
theorem dX9_ahead_9 : decode cX9_ahead 9 = .ok (.iconst 1, 1) := by decide +kernel
theorem dX9_ahead_10 : decode cX9_ahead 10 = .ok (.invokestatic 70, 3) := by decide +kernel
theorem dX9_ahead_13 : decode cX9_ahead 13 = .ok (.ifCond .eq 12, 3) := by decide +kernel
theorem dX9_ahead_16 : decode cX9_ahead 16 = .ok (.aload_n 0, 1) := by decide +kernel
theorem dX9_ahead_17 : decode cX9_ahead 17 = .ok (.iload_n 1, 1) := by decide +kernel
theorem dX9_ahead_18 : decode cX9_ahead 18 = .ok (.iload_n 2, 1) := by decide +kernel
theorem dX9_ahead_19 : decode cX9_ahead 19 = .ok (.invokevirtual 157, 3) := by decide +kernel
theorem dX9_ahead_22 : decode cX9_ahead 22 = .ok (.goto 8, 3) := by decide +kernel
theorem dX9_ahead_25 : decode cX9_ahead 25 = .ok (.bipush (-2), 2) := by decide +kernel
theorem dX9_ahead_27 : decode cX9_ahead 27 = .ok (.invokestatic 143, 3) := by decide +kernel
theorem dX9_ahead_30 : decode cX9_ahead 30 = .ok (.lreturn, 1) := by decide +kernel
set_option maxRecDepth 20000 in
theorem ggX9_bestOf_X9_lays : GoodIn wsX9_bestOf wsX9_lays := goodIn_r _ [6, 1, 7, 8, 5, 9, 23, 24, 25, 26, 27, 28, 29, 30, 31, 32, 33, 34, 35, 36, 37, 38, 39, 40, 41, 42, 43, 44, 45, 46] (by decide +kernel) (by decide +kernel)
set_option maxRecDepth 20000 in
theorem gX9_bestOf_X9_lays : GoodIn wsX9_bestOf (wsV RX9 132 RX9 yX9_lays wsX9_lays) := goodIn_app (goodIn_of _ (by decide +kernel)) ggX9_bestOf_X9_lays
set_option maxRecDepth 20000 in
theorem ggX9_bestOf_X9_earns : GoodIn wsX9_bestOf wsX9_earns := goodIn_r _ [13, 14, 15, 16, 17, 5, 18, 19, 20, 21, 22, 23, 24, 25, 26, 27, 28, 29, 30, 31, 32, 33, 34, 35, 36, 37, 38, 39, 40, 41, 42, 43, 44, 45, 46] (by decide +kernel) (by decide +kernel)
set_option maxRecDepth 20000 in
theorem gX9_bestOf_X9_earns : GoodIn wsX9_bestOf (wsV RX9 109 RX9 yX9_earns wsX9_earns) := goodIn_app (goodIn_of _ (by decide +kernel)) ggX9_bestOf_X9_earns
theorem dX9_bestOf_0 : decode cX9_bestOf 0 = .ok (.iconst (-1), 1) := by decide +kernel
theorem dX9_bestOf_1 : decode cX9_bestOf 1 = .ok (.istore_n 2, 1) := by decide +kernel
theorem dX9_bestOf_2 : decode cX9_bestOf 2 = .ok (.iconst 0, 1) := by decide +kernel
theorem dX9_bestOf_3 : decode cX9_bestOf 3 = .ok (.istore_n 3, 1) := by decide +kernel
theorem dX9_bestOf_4 : decode cX9_bestOf 4 = .ok (.iconst 0, 1) := by decide +kernel
theorem dX9_bestOf_5 : decode cX9_bestOf 5 = .ok (.istore 4, 2) := by decide +kernel
theorem dX9_bestOf_7 : decode cX9_bestOf 7 = .ok (.iload 4, 2) := by decide +kernel
theorem dX9_bestOf_9 : decode cX9_bestOf 9 = .ok (.sipush 720, 3) := by decide +kernel
theorem dX9_bestOf_12 : decode cX9_bestOf 12 = .ok (.if_icmp .ge 78, 3) := by decide +kernel
theorem dX9_bestOf_15 : decode cX9_bestOf 15 = .ok (.aload_n 0, 1) := by decide +kernel
theorem dX9_bestOf_16 : decode cX9_bestOf 16 = .ok (.iload 4, 2) := by decide +kernel
theorem dX9_bestOf_18 : decode cX9_bestOf 18 = .ok (.invokevirtual 132, 3) := by decide +kernel
theorem dX9_bestOf_21 : decode cX9_bestOf 21 = .ok (.iconst 0, 1) := by decide +kernel
theorem dX9_bestOf_22 : decode cX9_bestOf 22 = .ok (.istore 5, 2) := by decide +kernel
theorem dX9_bestOf_24 : decode cX9_bestOf 24 = .ok (.iconst 0, 1) := by decide +kernel
theorem dX9_bestOf_25 : decode cX9_bestOf 25 = .ok (.istore 6, 2) := by decide +kernel
theorem dX9_bestOf_27 : decode cX9_bestOf 27 = .ok (.iload 6, 2) := by decide +kernel
theorem dX9_bestOf_29 : decode cX9_bestOf 29 = .ok (.bipush 6, 2) := by decide +kernel
theorem dX9_bestOf_31 : decode cX9_bestOf 31 = .ok (.if_icmp .ge 27, 3) := by decide +kernel
theorem dX9_bestOf_34 : decode cX9_bestOf 34 = .ok (.iload 5, 2) := by decide +kernel
theorem dX9_bestOf_36 : decode cX9_bestOf 36 = .ok (.aload_n 0, 1) := by decide +kernel
theorem dX9_bestOf_37 : decode cX9_bestOf 37 = .ok (.iload 6, 2) := by decide +kernel
theorem dX9_bestOf_39 : decode cX9_bestOf 39 = .ok (.aload_n 0, 1) := by decide +kernel
theorem dX9_bestOf_40 : decode cX9_bestOf 40 = .ok (.getfield 31, 3) := by decide +kernel
theorem dX9_bestOf_43 : decode cX9_bestOf 43 = .ok (.iload 6, 2) := by decide +kernel
theorem dX9_bestOf_45 : decode cX9_bestOf 45 = .ok (.iaload, 1) := by decide +kernel
theorem dX9_bestOf_46 : decode cX9_bestOf 46 = .ok (.invokevirtual 109, 3) := by decide +kernel
theorem dX9_bestOf_49 : decode cX9_bestOf 49 = .ok (.iadd, 1) := by decide +kernel
theorem dX9_bestOf_50 : decode cX9_bestOf 50 = .ok (.istore 5, 2) := by decide +kernel
theorem dX9_bestOf_52 : decode cX9_bestOf 52 = .ok (.iinc 6 1, 3) := by decide +kernel
theorem dX9_bestOf_55 : decode cX9_bestOf 55 = .ok (.goto (-28), 3) := by decide +kernel
theorem dX9_bestOf_58 : decode cX9_bestOf 58 = .ok (.iload 5, 2) := by decide +kernel
theorem dX9_bestOf_60 : decode cX9_bestOf 60 = .ok (.iload_n 2, 1) := by decide +kernel
theorem dX9_bestOf_61 : decode cX9_bestOf 61 = .ok (.if_icmp .le 8, 3) := by decide +kernel
theorem dX9_bestOf_64 : decode cX9_bestOf 64 = .ok (.iload 4, 2) := by decide +kernel
theorem dX9_bestOf_66 : decode cX9_bestOf 66 = .ok (.goto 4, 3) := by decide +kernel
theorem dX9_bestOf_69 : decode cX9_bestOf 69 = .ok (.iload_n 3, 1) := by decide +kernel
theorem dX9_bestOf_70 : decode cX9_bestOf 70 = .ok (.istore_n 3, 1) := by decide +kernel
theorem dX9_bestOf_71 : decode cX9_bestOf 71 = .ok (.iload 5, 2) := by decide +kernel
theorem dX9_bestOf_73 : decode cX9_bestOf 73 = .ok (.iload_n 2, 1) := by decide +kernel
theorem dX9_bestOf_74 : decode cX9_bestOf 74 = .ok (.if_icmp .le 8, 3) := by decide +kernel
theorem dX9_bestOf_77 : decode cX9_bestOf 77 = .ok (.iload 5, 2) := by decide +kernel
theorem dX9_bestOf_79 : decode cX9_bestOf 79 = .ok (.goto 4, 3) := by decide +kernel
theorem dX9_bestOf_82 : decode cX9_bestOf 82 = .ok (.iload_n 2, 1) := by decide +kernel
theorem dX9_bestOf_83 : decode cX9_bestOf 83 = .ok (.istore_n 2, 1) := by decide +kernel
theorem dX9_bestOf_84 : decode cX9_bestOf 84 = .ok (.iinc 4 1, 3) := by decide +kernel
theorem dX9_bestOf_87 : decode cX9_bestOf 87 = .ok (.goto (-80), 3) := by decide +kernel
theorem dX9_bestOf_90 : decode cX9_bestOf 90 = .ok (.aload_n 0, 1) := by decide +kernel
theorem dX9_bestOf_91 : decode cX9_bestOf 91 = .ok (.iload_n 3, 1) := by decide +kernel
theorem dX9_bestOf_92 : decode cX9_bestOf 92 = .ok (.invokevirtual 132, 3) := by decide +kernel
theorem dX9_bestOf_95 : decode cX9_bestOf 95 = .ok (.iload_n 1, 1) := by decide +kernel
theorem dX9_bestOf_96 : decode cX9_bestOf 96 = .ok (.iconst (-1), 1) := by decide +kernel
theorem dX9_bestOf_97 : decode cX9_bestOf 97 = .ok (.if_icmp .ne 7, 3) := by decide +kernel
theorem dX9_bestOf_100 : decode cX9_bestOf 100 = .ok (.iload_n 2, 1) := by decide +kernel
theorem dX9_bestOf_101 : decode cX9_bestOf 101 = .ok (.goto 9, 3) := by decide +kernel
theorem dX9_bestOf_104 : decode cX9_bestOf 104 = .ok (.aload_n 0, 1) := by decide +kernel
theorem dX9_bestOf_105 : decode cX9_bestOf 105 = .ok (.getfield 31, 3) := by decide +kernel
theorem dX9_bestOf_108 : decode cX9_bestOf 108 = .ok (.iload_n 1, 1) := by decide +kernel
theorem dX9_bestOf_109 : decode cX9_bestOf 109 = .ok (.iaload, 1) := by decide +kernel
theorem dX9_bestOf_110 : decode cX9_bestOf 110 = .ok (.ireturn, 1) := by decide +kernel
set_option maxRecDepth 20000 in
theorem ggX9_best_X9_isSix : GoodIn wsX9_best wsX9_isSix := goodIn_r _ [4, 5, 6, 3, 7] (by decide +kernel) (by decide +kernel)
set_option maxRecDepth 20000 in
theorem gX9_best_X9_isSix : GoodIn wsX9_best (va_wsS RX9 74 yX9_isSix wsX9_isSix) := goodIn_app (goodIn_of _ (by decide +kernel)) ggX9_best_X9_isSix
set_option maxRecDepth 20000 in
theorem ggX9_best_X9_bestOf : GoodIn wsX9_best wsX9_bestOf := goodIn_r _ [11, 12, 13, 14, 15, 3, 16, 17, 18, 19, 20, 21, 22, 23, 24, 25, 26, 27, 28, 29, 30, 31, 32, 33, 34, 35, 36, 37, 38, 39, 40, 41, 42, 43, 44, 45, 46, 47, 48, 49, 50, 51, 52, 53, 54, 55, 56] (by decide +kernel) (by decide +kernel)
set_option maxRecDepth 20000 in
theorem gX9_best_X9_bestOf : GoodIn wsX9_best (wsV RX9 161 RX9 yX9_bestOf wsX9_bestOf) := goodIn_app (goodIn_of _ (by decide +kernel)) ggX9_best_X9_bestOf
theorem dX9_best_0 : decode cX9_best 0 = .ok (.iload_n 1, 1) := by decide +kernel
theorem dX9_best_1 : decode cX9_best 1 = .ok (.iconst (-1), 1) := by decide +kernel
theorem dX9_best_2 : decode cX9_best 2 = .ok (.if_icmp .eq 10, 3) := by decide +kernel
theorem dX9_best_5 : decode cX9_best 5 = .ok (.iload_n 1, 1) := by decide +kernel
theorem dX9_best_6 : decode cX9_best 6 = .ok (.invokestatic 74, 3) := by decide +kernel
theorem dX9_best_9 : decode cX9_best 9 = .ok (.ifCond .eq 11, 3) := by decide +kernel
theorem dX9_best_12 : decode cX9_best 12 = .ok (.aload_n 0, 1) := by decide +kernel
theorem dX9_best_13 : decode cX9_best 13 = .ok (.iload_n 1, 1) := by decide +kernel
theorem dX9_best_14 : decode cX9_best 14 = .ok (.invokevirtual 161, 3) := by decide +kernel
theorem dX9_best_17 : decode cX9_best 17 = .ok (.goto 5, 3) := by decide +kernel
theorem dX9_best_20 : decode cX9_best 20 = .ok (.bipush (-2), 2) := by decide +kernel
theorem dX9_best_22 : decode cX9_best 22 = .ok (.ireturn, 1) := by decide +kernel
set_option maxRecDepth 20000 in
theorem ggX9_ratherOf_X9_earns : GoodIn wsX9_ratherOf wsX9_earns := goodIn_r _ [6, 7, 8, 9, 10, 5, 11, 12, 13, 14, 15, 16, 17, 18, 19, 20, 21, 22, 23, 24, 25, 26, 27, 28, 29, 30, 31, 32, 33, 34, 35, 36, 37, 38, 39] (by decide +kernel) (by decide +kernel)
set_option maxRecDepth 20000 in
theorem gX9_ratherOf_X9_earns : GoodIn wsX9_ratherOf (wsV RX9 109 RX9 yX9_earns wsX9_earns) := goodIn_app (goodIn_of _ (by decide +kernel)) ggX9_ratherOf_X9_earns
theorem dX9_ratherOf_0 : decode cX9_ratherOf 0 = .ok (.iconst 0, 1) := by decide +kernel
theorem dX9_ratherOf_1 : decode cX9_ratherOf 1 = .ok (.istore_n 2, 1) := by decide +kernel
theorem dX9_ratherOf_2 : decode cX9_ratherOf 2 = .ok (.iconst 0, 1) := by decide +kernel
theorem dX9_ratherOf_3 : decode cX9_ratherOf 3 = .ok (.istore_n 3, 1) := by decide +kernel
theorem dX9_ratherOf_4 : decode cX9_ratherOf 4 = .ok (.iload_n 3, 1) := by decide +kernel
theorem dX9_ratherOf_5 : decode cX9_ratherOf 5 = .ok (.bipush 6, 2) := by decide +kernel
theorem dX9_ratherOf_7 : decode cX9_ratherOf 7 = .ok (.if_icmp .ge 95, 3) := by decide +kernel
theorem dX9_ratherOf_10 : decode cX9_ratherOf 10 = .ok (.iconst 0, 1) := by decide +kernel
theorem dX9_ratherOf_11 : decode cX9_ratherOf 11 = .ok (.istore 4, 2) := by decide +kernel
theorem dX9_ratherOf_13 : decode cX9_ratherOf 13 = .ok (.iload 4, 2) := by decide +kernel
theorem dX9_ratherOf_15 : decode cX9_ratherOf 15 = .ok (.iload_n 3, 1) := by decide +kernel
theorem dX9_ratherOf_16 : decode cX9_ratherOf 16 = .ok (.if_icmp .ge 80, 3) := by decide +kernel
theorem dX9_ratherOf_19 : decode cX9_ratherOf 19 = .ok (.aload_n 0, 1) := by decide +kernel
theorem dX9_ratherOf_20 : decode cX9_ratherOf 20 = .ok (.getfield 28, 3) := by decide +kernel
theorem dX9_ratherOf_23 : decode cX9_ratherOf 23 = .ok (.bipush 6, 2) := by decide +kernel
theorem dX9_ratherOf_25 : decode cX9_ratherOf 25 = .ok (.iload_n 1, 1) := by decide +kernel
theorem dX9_ratherOf_26 : decode cX9_ratherOf 26 = .ok (.imul, 1) := by decide +kernel
theorem dX9_ratherOf_27 : decode cX9_ratherOf 27 = .ok (.iload_n 3, 1) := by decide +kernel
theorem dX9_ratherOf_28 : decode cX9_ratherOf 28 = .ok (.iadd, 1) := by decide +kernel
theorem dX9_ratherOf_29 : decode cX9_ratherOf 29 = .ok (.iaload, 1) := by decide +kernel
theorem dX9_ratherOf_30 : decode cX9_ratherOf 30 = .ok (.istore 5, 2) := by decide +kernel
theorem dX9_ratherOf_32 : decode cX9_ratherOf 32 = .ok (.aload_n 0, 1) := by decide +kernel
theorem dX9_ratherOf_33 : decode cX9_ratherOf 33 = .ok (.getfield 28, 3) := by decide +kernel
theorem dX9_ratherOf_36 : decode cX9_ratherOf 36 = .ok (.bipush 6, 2) := by decide +kernel
theorem dX9_ratherOf_38 : decode cX9_ratherOf 38 = .ok (.iload_n 1, 1) := by decide +kernel
theorem dX9_ratherOf_39 : decode cX9_ratherOf 39 = .ok (.imul, 1) := by decide +kernel
theorem dX9_ratherOf_40 : decode cX9_ratherOf 40 = .ok (.iload 4, 2) := by decide +kernel
theorem dX9_ratherOf_42 : decode cX9_ratherOf 42 = .ok (.iadd, 1) := by decide +kernel
theorem dX9_ratherOf_43 : decode cX9_ratherOf 43 = .ok (.iaload, 1) := by decide +kernel
theorem dX9_ratherOf_44 : decode cX9_ratherOf 44 = .ok (.istore 6, 2) := by decide +kernel
theorem dX9_ratherOf_46 : decode cX9_ratherOf 46 = .ok (.iload_n 2, 1) := by decide +kernel
theorem dX9_ratherOf_47 : decode cX9_ratherOf 47 = .ok (.aload_n 0, 1) := by decide +kernel
theorem dX9_ratherOf_48 : decode cX9_ratherOf 48 = .ok (.iload_n 3, 1) := by decide +kernel
theorem dX9_ratherOf_49 : decode cX9_ratherOf 49 = .ok (.iload 6, 2) := by decide +kernel
theorem dX9_ratherOf_51 : decode cX9_ratherOf 51 = .ok (.invokevirtual 109, 3) := by decide +kernel
theorem dX9_ratherOf_54 : decode cX9_ratherOf 54 = .ok (.aload_n 0, 1) := by decide +kernel
theorem dX9_ratherOf_55 : decode cX9_ratherOf 55 = .ok (.iload_n 3, 1) := by decide +kernel
theorem dX9_ratherOf_56 : decode cX9_ratherOf 56 = .ok (.iload 5, 2) := by decide +kernel
theorem dX9_ratherOf_58 : decode cX9_ratherOf 58 = .ok (.invokevirtual 109, 3) := by decide +kernel
theorem dX9_ratherOf_61 : decode cX9_ratherOf 61 = .ok (.if_icmp .le 26, 3) := by decide +kernel
theorem dX9_ratherOf_64 : decode cX9_ratherOf 64 = .ok (.aload_n 0, 1) := by decide +kernel
theorem dX9_ratherOf_65 : decode cX9_ratherOf 65 = .ok (.iload 4, 2) := by decide +kernel
theorem dX9_ratherOf_67 : decode cX9_ratherOf 67 = .ok (.iload 5, 2) := by decide +kernel
theorem dX9_ratherOf_69 : decode cX9_ratherOf 69 = .ok (.invokevirtual 109, 3) := by decide +kernel
theorem dX9_ratherOf_72 : decode cX9_ratherOf 72 = .ok (.aload_n 0, 1) := by decide +kernel
theorem dX9_ratherOf_73 : decode cX9_ratherOf 73 = .ok (.iload 4, 2) := by decide +kernel
theorem dX9_ratherOf_75 : decode cX9_ratherOf 75 = .ok (.iload 6, 2) := by decide +kernel
theorem dX9_ratherOf_77 : decode cX9_ratherOf 77 = .ok (.invokevirtual 109, 3) := by decide +kernel
theorem dX9_ratherOf_80 : decode cX9_ratherOf 80 = .ok (.if_icmp .le 7, 3) := by decide +kernel
theorem dX9_ratherOf_83 : decode cX9_ratherOf 83 = .ok (.iconst 1, 1) := by decide +kernel
theorem dX9_ratherOf_84 : decode cX9_ratherOf 84 = .ok (.goto 4, 3) := by decide +kernel
theorem dX9_ratherOf_87 : decode cX9_ratherOf 87 = .ok (.iconst 0, 1) := by decide +kernel
theorem dX9_ratherOf_88 : decode cX9_ratherOf 88 = .ok (.iadd, 1) := by decide +kernel
theorem dX9_ratherOf_89 : decode cX9_ratherOf 89 = .ok (.istore_n 2, 1) := by decide +kernel
theorem dX9_ratherOf_90 : decode cX9_ratherOf 90 = .ok (.iinc 4 1, 3) := by decide +kernel
theorem dX9_ratherOf_93 : decode cX9_ratherOf 93 = .ok (.goto (-80), 3) := by decide +kernel
theorem dX9_ratherOf_96 : decode cX9_ratherOf 96 = .ok (.iinc 3 1, 3) := by decide +kernel
theorem dX9_ratherOf_99 : decode cX9_ratherOf 99 = .ok (.goto (-95), 3) := by decide +kernel
theorem dX9_ratherOf_102 : decode cX9_ratherOf 102 = .ok (.iload_n 2, 1) := by decide +kernel
theorem dX9_ratherOf_103 : decode cX9_ratherOf 103 = .ok (.ireturn, 1) := by decide +kernel
set_option maxRecDepth 20000 in
theorem ggX9_rather_X9_isYear : GoodIn wsX9_rather wsX9_isYear := goodIn_r _ [5, 6, 7, 8, 9, 4, 10, 11, 12, 13, 14, 15, 16, 17, 18, 19, 20, 21, 22, 40, 41, 42, 43, 44, 45, 46, 47, 48, 49, 50, 51, 52, 53, 54, 55, 56, 57, 58, 59, 60, 61, 62, 63] (by decide +kernel) (by decide +kernel)
set_option maxRecDepth 20000 in
theorem gX9_rather_X9_isYear : GoodIn wsX9_rather (wsV RX9 106 RX9 yX9_isYear wsX9_isYear) := goodIn_app (goodIn_of _ (by decide +kernel)) ggX9_rather_X9_isYear
set_option maxRecDepth 20000 in
theorem ggX9_rather_X9_ratherOf : GoodIn wsX9_rather wsX9_ratherOf := goodIn_r _ [26, 13, 27, 28, 29, 4, 30, 31, 32, 33, 34, 35, 36, 37, 38, 39, 40, 41, 42, 43, 44, 45, 46, 47, 48, 49, 50, 51, 52, 53, 54, 55, 56, 57, 58, 59, 60, 61, 62, 63] (by decide +kernel) (by decide +kernel)
set_option maxRecDepth 20000 in
theorem gX9_rather_X9_ratherOf : GoodIn wsX9_rather (wsV RX9 164 RX9 yX9_ratherOf wsX9_ratherOf) := goodIn_app (goodIn_of _ (by decide +kernel)) ggX9_rather_X9_ratherOf
theorem dX9_rather_0 : decode cX9_rather 0 = .ok (.aload_n 0, 1) := by decide +kernel
theorem dX9_rather_1 : decode cX9_rather 1 = .ok (.iload_n 1, 1) := by decide +kernel
theorem dX9_rather_2 : decode cX9_rather 2 = .ok (.invokevirtual 106, 3) := by decide +kernel
theorem dX9_rather_5 : decode cX9_rather 5 = .ok (.ifCond .eq 11, 3) := by decide +kernel
theorem dX9_rather_8 : decode cX9_rather 8 = .ok (.aload_n 0, 1) := by decide +kernel
theorem dX9_rather_9 : decode cX9_rather 9 = .ok (.iload_n 1, 1) := by decide +kernel
theorem dX9_rather_10 : decode cX9_rather 10 = .ok (.invokevirtual 164, 3) := by decide +kernel
theorem dX9_rather_13 : decode cX9_rather 13 = .ok (.goto 5, 3) := by decide +kernel
theorem dX9_rather_16 : decode cX9_rather 16 = .ok (.bipush (-2), 2) := by decide +kernel
theorem dX9_rather_18 : decode cX9_rather 18 = .ok (.ireturn, 1) := by decide +kernel
theorem dX9_onOf_0 : decode cX9_onOf 0 = .ok (.iload_n 2, 1) := by decide +kernel
theorem dX9_onOf_1 : decode cX9_onOf 1 = .ok (.istore 4, 2) := by decide +kernel
theorem dX9_onOf_3 : decode cX9_onOf 3 = .ok (.iconst 0, 1) := by decide +kernel
theorem dX9_onOf_4 : decode cX9_onOf 4 = .ok (.istore 5, 2) := by decide +kernel
theorem dX9_onOf_6 : decode cX9_onOf 6 = .ok (.iload 5, 2) := by decide +kernel
theorem dX9_onOf_8 : decode cX9_onOf 8 = .ok (.iload_n 3, 1) := by decide +kernel
theorem dX9_onOf_9 : decode cX9_onOf 9 = .ok (.if_icmp .ge 23, 3) := by decide +kernel
theorem dX9_onOf_12 : decode cX9_onOf 12 = .ok (.aload_n 0, 1) := by decide +kernel
theorem dX9_onOf_13 : decode cX9_onOf 13 = .ok (.getfield 28, 3) := by decide +kernel
theorem dX9_onOf_16 : decode cX9_onOf 16 = .ok (.bipush 6, 2) := by decide +kernel
theorem dX9_onOf_18 : decode cX9_onOf 18 = .ok (.iload_n 1, 1) := by decide +kernel
theorem dX9_onOf_19 : decode cX9_onOf 19 = .ok (.imul, 1) := by decide +kernel
theorem dX9_onOf_20 : decode cX9_onOf 20 = .ok (.iload 4, 2) := by decide +kernel
theorem dX9_onOf_22 : decode cX9_onOf 22 = .ok (.iadd, 1) := by decide +kernel
theorem dX9_onOf_23 : decode cX9_onOf 23 = .ok (.iaload, 1) := by decide +kernel
theorem dX9_onOf_24 : decode cX9_onOf 24 = .ok (.istore 4, 2) := by decide +kernel
theorem dX9_onOf_26 : decode cX9_onOf 26 = .ok (.iinc 5 1, 3) := by decide +kernel
theorem dX9_onOf_29 : decode cX9_onOf 29 = .ok (.goto (-23), 3) := by decide +kernel
theorem dX9_onOf_32 : decode cX9_onOf 32 = .ok (.iload 4, 2) := by decide +kernel
theorem dX9_onOf_34 : decode cX9_onOf 34 = .ok (.ireturn, 1) := by decide +kernel
set_option maxRecDepth 20000 in
theorem ggX9_on_X9_isYear : GoodIn wsX9_on wsX9_isYear := goodIn_r _ [5, 6, 7, 8, 9, 4, 10, 11, 12, 13, 14, 15, 16, 17, 18, 19, 20, 21, 22, 27, 28, 29, 30, 31, 32, 33, 34, 35, 36, 37, 38, 39, 40, 41, 42, 43, 44, 45, 46, 47, 48, 49, 50] (by decide +kernel) (by decide +kernel)
set_option maxRecDepth 20000 in
theorem gX9_on_X9_isYear : GoodIn wsX9_on (wsV RX9 106 RX9 yX9_isYear wsX9_isYear) := goodIn_app (goodIn_of _ (by decide +kernel)) ggX9_on_X9_isYear
set_option maxRecDepth 20000 in
theorem ggX9_on_X9_isSix : GoodIn wsX9_on wsX9_isSix := goodIn_r _ [16, 17, 18, 4, 19] (by decide +kernel) (by decide +kernel)
set_option maxRecDepth 20000 in
theorem gX9_on_X9_isSix : GoodIn wsX9_on (va_wsS RX9 74 yX9_isSix wsX9_isSix) := goodIn_app (goodIn_of _ (by decide +kernel)) ggX9_on_X9_isSix
set_option maxRecDepth 20000 in
theorem ggX9_on_X9_in : GoodIn wsX9_on wsX9_in := goodIn_r _ [19] (by decide +kernel) (by decide +kernel)
set_option maxRecDepth 20000 in
theorem gX9_on_X9_in : GoodIn wsX9_on (va_wsS RX9 70 yX9_in wsX9_in) := goodIn_app (goodIn_of _ (by decide +kernel)) ggX9_on_X9_in
set_option maxRecDepth 20000 in
theorem ggX9_on_X9_onOf : GoodIn wsX9_on wsX9_onOf := goodIn_r _ [26, 13, 27, 28, 29, 30, 31, 32, 33, 34, 35, 36, 37, 38, 39, 40, 41, 42, 43, 44, 45, 46, 47, 48, 49, 50] (by decide +kernel) (by decide +kernel)
set_option maxRecDepth 20000 in
theorem gX9_on_X9_onOf : GoodIn wsX9_on (wsV RX9 167 RX9 yX9_onOf wsX9_onOf) := goodIn_app (goodIn_of _ (by decide +kernel)) ggX9_on_X9_onOf
theorem dX9_on_0 : decode cX9_on 0 = .ok (.aload_n 0, 1) := by decide +kernel
theorem dX9_on_1 : decode cX9_on 1 = .ok (.iload_n 1, 1) := by decide +kernel
theorem dX9_on_2 : decode cX9_on 2 = .ok (.invokevirtual 106, 3) := by decide +kernel
theorem dX9_on_5 : decode cX9_on 5 = .ok (.ifCond .eq 31, 3) := by decide +kernel
theorem dX9_on_8 : decode cX9_on 8 = .ok (.iload_n 2, 1) := by decide +kernel
theorem dX9_on_9 : decode cX9_on 9 = .ok (.invokestatic 74, 3) := by decide +kernel
theorem dX9_on_12 : decode cX9_on 12 = .ok (.ifCond .eq 24, 3) := by decide +kernel
theorem dX9_on_15 : decode cX9_on 15 = .ok (.iload_n 3, 1) := by decide +kernel
theorem dX9_on_16 : decode cX9_on 16 = .ok (.iconst 0, 1) := by decide +kernel
theorem dX9_on_17 : decode cX9_on 17 = .ok (.sipush 999, 3) := by decide +kernel
theorem dX9_on_20 : decode cX9_on 20 = .ok (.invokestatic 70, 3) := by decide +kernel
theorem dX9_on_23 : decode cX9_on 23 = .ok (.ifCond .eq 13, 3) := by decide +kernel
theorem dX9_on_26 : decode cX9_on 26 = .ok (.aload_n 0, 1) := by decide +kernel
theorem dX9_on_27 : decode cX9_on 27 = .ok (.iload_n 1, 1) := by decide +kernel
theorem dX9_on_28 : decode cX9_on 28 = .ok (.iload_n 2, 1) := by decide +kernel
theorem dX9_on_29 : decode cX9_on 29 = .ok (.iload_n 3, 1) := by decide +kernel
theorem dX9_on_30 : decode cX9_on 30 = .ok (.invokevirtual 167, 3) := by decide +kernel
theorem dX9_on_33 : decode cX9_on 33 = .ok (.goto 5, 3) := by decide +kernel
theorem dX9_on_36 : decode cX9_on 36 = .ok (.bipush (-2), 2) := by decide +kernel
theorem dX9_on_38 : decode cX9_on 38 = .ok (.ireturn, 1) := by decide +kernel
set_option maxRecDepth 20000 in
theorem ggX9_returnsOf_X9_onOf : GoodIn wsX9_returnsOf wsX9_onOf := goodIn_r _ [5, 6, 7, 8, 9, 10, 11, 12, 13, 14, 15, 16, 17, 18, 19, 20, 21, 22, 23, 24, 25, 26, 27, 28, 29, 30] (by decide +kernel) (by decide +kernel)
set_option maxRecDepth 20000 in
theorem gX9_returnsOf_X9_onOf : GoodIn wsX9_returnsOf (wsV RX9 167 RX9 yX9_onOf wsX9_onOf) := goodIn_app (goodIn_of _ (by decide +kernel)) ggX9_returnsOf_X9_onOf
theorem dX9_returnsOf_0 : decode cX9_returnsOf 0 = .ok (.iconst 1, 1) := by decide +kernel
theorem dX9_returnsOf_1 : decode cX9_returnsOf 1 = .ok (.istore_n 3, 1) := by decide +kernel
theorem dX9_returnsOf_2 : decode cX9_returnsOf 2 = .ok (.iconst 0, 1) := by decide +kernel
theorem dX9_returnsOf_3 : decode cX9_returnsOf 3 = .ok (.istore 4, 2) := by decide +kernel
theorem dX9_returnsOf_5 : decode cX9_returnsOf 5 = .ok (.iload 4, 2) := by decide +kernel
theorem dX9_returnsOf_7 : decode cX9_returnsOf 7 = .ok (.ifCond .ne 74, 3) := by decide +kernel
theorem dX9_returnsOf_10 : decode cX9_returnsOf 10 = .ok (.iconst 1, 1) := by decide +kernel
theorem dX9_returnsOf_11 : decode cX9_returnsOf 11 = .ok (.istore 4, 2) := by decide +kernel
theorem dX9_returnsOf_13 : decode cX9_returnsOf 13 = .ok (.iconst 0, 1) := by decide +kernel
theorem dX9_returnsOf_14 : decode cX9_returnsOf 14 = .ok (.istore 5, 2) := by decide +kernel
theorem dX9_returnsOf_16 : decode cX9_returnsOf 16 = .ok (.iload 5, 2) := by decide +kernel
theorem dX9_returnsOf_18 : decode cX9_returnsOf 18 = .ok (.bipush 6, 2) := by decide +kernel
theorem dX9_returnsOf_20 : decode cX9_returnsOf 20 = .ok (.if_icmp .ge 45, 3) := by decide +kernel
theorem dX9_returnsOf_23 : decode cX9_returnsOf 23 = .ok (.iload 4, 2) := by decide +kernel
theorem dX9_returnsOf_25 : decode cX9_returnsOf 25 = .ok (.ifCond .eq 31, 3) := by decide +kernel
theorem dX9_returnsOf_28 : decode cX9_returnsOf 28 = .ok (.iload_n 2, 1) := by decide +kernel
theorem dX9_returnsOf_29 : decode cX9_returnsOf 29 = .ok (.iconst (-1), 1) := by decide +kernel
theorem dX9_returnsOf_30 : decode cX9_returnsOf 30 = .ok (.if_icmp .eq 9, 3) := by decide +kernel
theorem dX9_returnsOf_33 : decode cX9_returnsOf 33 = .ok (.iload 5, 2) := by decide +kernel
theorem dX9_returnsOf_35 : decode cX9_returnsOf 35 = .ok (.iload_n 2, 1) := by decide +kernel
theorem dX9_returnsOf_36 : decode cX9_returnsOf 36 = .ok (.if_icmp .ne 16, 3) := by decide +kernel
theorem dX9_returnsOf_39 : decode cX9_returnsOf 39 = .ok (.aload_n 0, 1) := by decide +kernel
theorem dX9_returnsOf_40 : decode cX9_returnsOf 40 = .ok (.iload_n 1, 1) := by decide +kernel
theorem dX9_returnsOf_41 : decode cX9_returnsOf 41 = .ok (.iload 5, 2) := by decide +kernel
theorem dX9_returnsOf_43 : decode cX9_returnsOf 43 = .ok (.iload_n 3, 1) := by decide +kernel
theorem dX9_returnsOf_44 : decode cX9_returnsOf 44 = .ok (.invokevirtual 167, 3) := by decide +kernel
theorem dX9_returnsOf_47 : decode cX9_returnsOf 47 = .ok (.iload 5, 2) := by decide +kernel
theorem dX9_returnsOf_49 : decode cX9_returnsOf 49 = .ok (.if_icmp .ne 7, 3) := by decide +kernel
theorem dX9_returnsOf_52 : decode cX9_returnsOf 52 = .ok (.iconst 1, 1) := by decide +kernel
theorem dX9_returnsOf_53 : decode cX9_returnsOf 53 = .ok (.goto 4, 3) := by decide +kernel
theorem dX9_returnsOf_56 : decode cX9_returnsOf 56 = .ok (.iconst 0, 1) := by decide +kernel
theorem dX9_returnsOf_57 : decode cX9_returnsOf 57 = .ok (.istore 4, 2) := by decide +kernel
theorem dX9_returnsOf_59 : decode cX9_returnsOf 59 = .ok (.iinc 5 1, 3) := by decide +kernel
theorem dX9_returnsOf_62 : decode cX9_returnsOf 62 = .ok (.goto (-46), 3) := by decide +kernel
theorem dX9_returnsOf_65 : decode cX9_returnsOf 65 = .ok (.iload_n 3, 1) := by decide +kernel
theorem dX9_returnsOf_66 : decode cX9_returnsOf 66 = .ok (.iload 4, 2) := by decide +kernel
theorem dX9_returnsOf_68 : decode cX9_returnsOf 68 = .ok (.ifCond .eq 7, 3) := by decide +kernel
theorem dX9_returnsOf_71 : decode cX9_returnsOf 71 = .ok (.iconst 0, 1) := by decide +kernel
theorem dX9_returnsOf_72 : decode cX9_returnsOf 72 = .ok (.goto 4, 3) := by decide +kernel
theorem dX9_returnsOf_75 : decode cX9_returnsOf 75 = .ok (.iconst 1, 1) := by decide +kernel
theorem dX9_returnsOf_76 : decode cX9_returnsOf 76 = .ok (.iadd, 1) := by decide +kernel
theorem dX9_returnsOf_77 : decode cX9_returnsOf 77 = .ok (.istore_n 3, 1) := by decide +kernel
theorem dX9_returnsOf_78 : decode cX9_returnsOf 78 = .ok (.goto (-73), 3) := by decide +kernel
theorem dX9_returnsOf_81 : decode cX9_returnsOf 81 = .ok (.iload_n 3, 1) := by decide +kernel
theorem dX9_returnsOf_82 : decode cX9_returnsOf 82 = .ok (.ireturn, 1) := by decide +kernel
set_option maxRecDepth 20000 in
theorem ggX9_returns_X9_isYear : GoodIn wsX9_returns wsX9_isYear := goodIn_r _ [5, 6, 7, 8, 9, 4, 10, 11, 12, 13, 14, 15, 16, 17, 18, 19, 20, 21, 22, 31, 32, 33, 34, 35, 36, 37, 38, 39, 40, 41, 42, 43, 44, 45, 46, 47, 48, 49, 50, 51, 52, 53, 54] (by decide +kernel) (by decide +kernel)
set_option maxRecDepth 20000 in
theorem gX9_returns_X9_isYear : GoodIn wsX9_returns (wsV RX9 106 RX9 yX9_isYear wsX9_isYear) := goodIn_app (goodIn_of _ (by decide +kernel)) ggX9_returns_X9_isYear
set_option maxRecDepth 20000 in
theorem ggX9_returns_X9_isSix : GoodIn wsX9_returns wsX9_isSix := goodIn_r _ [16, 17, 18, 4, 19] (by decide +kernel) (by decide +kernel)
set_option maxRecDepth 20000 in
theorem gX9_returns_X9_isSix : GoodIn wsX9_returns (va_wsS RX9 74 yX9_isSix wsX9_isSix) := goodIn_app (goodIn_of _ (by decide +kernel)) ggX9_returns_X9_isSix
set_option maxRecDepth 20000 in
theorem ggX9_returns_X9_returnsOf : GoodIn wsX9_returns wsX9_returnsOf := goodIn_r _ [26, 27, 28, 29, 4, 30, 13, 31, 32, 33, 34, 35, 36, 37, 38, 39, 40, 41, 42, 43, 44, 45, 46, 47, 48, 49, 50, 51, 52, 53, 54] (by decide +kernel) (by decide +kernel)
set_option maxRecDepth 20000 in
theorem gX9_returns_X9_returnsOf : GoodIn wsX9_returns (wsV RX9 170 RX9 yX9_returnsOf wsX9_returnsOf) := goodIn_app (goodIn_of _ (by decide +kernel)) ggX9_returns_X9_returnsOf
theorem dX9_returns_0 : decode cX9_returns 0 = .ok (.aload_n 0, 1) := by decide +kernel
theorem dX9_returns_1 : decode cX9_returns 1 = .ok (.iload_n 1, 1) := by decide +kernel
theorem dX9_returns_2 : decode cX9_returns 2 = .ok (.invokevirtual 106, 3) := by decide +kernel
theorem dX9_returns_5 : decode cX9_returns 5 = .ok (.ifCond .eq 24, 3) := by decide +kernel
theorem dX9_returns_8 : decode cX9_returns 8 = .ok (.iload_n 2, 1) := by decide +kernel
theorem dX9_returns_9 : decode cX9_returns 9 = .ok (.iconst (-1), 1) := by decide +kernel
theorem dX9_returns_10 : decode cX9_returns 10 = .ok (.if_icmp .eq 10, 3) := by decide +kernel
theorem dX9_returns_13 : decode cX9_returns 13 = .ok (.iload_n 2, 1) := by decide +kernel
theorem dX9_returns_14 : decode cX9_returns 14 = .ok (.invokestatic 74, 3) := by decide +kernel
theorem dX9_returns_17 : decode cX9_returns 17 = .ok (.ifCond .eq 12, 3) := by decide +kernel
theorem dX9_returns_20 : decode cX9_returns 20 = .ok (.aload_n 0, 1) := by decide +kernel
theorem dX9_returns_21 : decode cX9_returns 21 = .ok (.iload_n 1, 1) := by decide +kernel
theorem dX9_returns_22 : decode cX9_returns 22 = .ok (.iload_n 2, 1) := by decide +kernel
theorem dX9_returns_23 : decode cX9_returns 23 = .ok (.invokevirtual 170, 3) := by decide +kernel
theorem dX9_returns_26 : decode cX9_returns 26 = .ok (.goto 5, 3) := by decide +kernel
theorem dX9_returns_29 : decode cX9_returns 29 = .ok (.bipush (-2), 2) := by decide +kernel
theorem dX9_returns_31 : decode cX9_returns 31 = .ok (.ireturn, 1) := by decide +kernel
set_option maxRecDepth 20000 in
theorem ggX9_lotOf_X9_isIn : GoodIn wsX9_lotOf wsX9_isIn := goodIn_r _ [6] (by decide +kernel) (by decide +kernel)
set_option maxRecDepth 20000 in
theorem gX9_lotOf_X9_isIn : GoodIn wsX9_lotOf (va_wsS RX9 93 yX9_isIn wsX9_isIn) := goodIn_app (goodIn_of _ (by decide +kernel)) ggX9_lotOf_X9_isIn
theorem dX9_lotOf_0 : decode cX9_lotOf 0 = .ok (.iload_n 1, 1) := by decide +kernel
theorem dX9_lotOf_1 : decode cX9_lotOf 1 = .ok (.istore_n 3, 1) := by decide +kernel
theorem dX9_lotOf_2 : decode cX9_lotOf 2 = .ok (.iconst 0, 1) := by decide +kernel
theorem dX9_lotOf_3 : decode cX9_lotOf 3 = .ok (.istore 4, 2) := by decide +kernel
theorem dX9_lotOf_5 : decode cX9_lotOf 5 = .ok (.iconst 0, 1) := by decide +kernel
theorem dX9_lotOf_6 : decode cX9_lotOf 6 = .ok (.istore 5, 2) := by decide +kernel
theorem dX9_lotOf_8 : decode cX9_lotOf 8 = .ok (.iload 5, 2) := by decide +kernel
theorem dX9_lotOf_10 : decode cX9_lotOf 10 = .ok (.bipush 6, 2) := by decide +kernel
theorem dX9_lotOf_12 : decode cX9_lotOf 12 = .ok (.if_icmp .ge 92, 3) := by decide +kernel
theorem dX9_lotOf_15 : decode cX9_lotOf 15 = .ok (.ldc 173, 2) := by decide +kernel
theorem dX9_lotOf_17 : decode cX9_lotOf 17 = .ok (.iload_n 3, 1) := by decide +kernel
theorem dX9_lotOf_18 : decode cX9_lotOf 18 = .ok (.imul, 1) := by decide +kernel
theorem dX9_lotOf_19 : decode cX9_lotOf 19 = .ok (.sipush 12345, 3) := by decide +kernel
theorem dX9_lotOf_22 : decode cX9_lotOf 22 = .ok (.iadd, 1) := by decide +kernel
theorem dX9_lotOf_23 : decode cX9_lotOf 23 = .ok (.istore_n 3, 1) := by decide +kernel
theorem dX9_lotOf_24 : decode cX9_lotOf 24 = .ok (.iload_n 3, 1) := by decide +kernel
theorem dX9_lotOf_25 : decode cX9_lotOf 25 = .ok (.bipush 16, 2) := by decide +kernel
theorem dX9_lotOf_27 : decode cX9_lotOf 27 = .ok (.iushr, 1) := by decide +kernel
theorem dX9_lotOf_28 : decode cX9_lotOf 28 = .ok (.bipush 6, 2) := by decide +kernel
theorem dX9_lotOf_30 : decode cX9_lotOf 30 = .ok (.iload 5, 2) := by decide +kernel
theorem dX9_lotOf_32 : decode cX9_lotOf 32 = .ok (.isub, 1) := by decide +kernel
theorem dX9_lotOf_33 : decode cX9_lotOf 33 = .ok (.irem, 1) := by decide +kernel
