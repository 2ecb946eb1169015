theorem dX9_lotOf_34 : decode cX9_lotOf 34 = .ok (.istore 6, 2) := by decide +kernel
theorem dX9_lotOf_36 : decode cX9_lotOf 36 = .ok (.iconst 0, 1) := by decide +kernel
theorem dX9_lotOf_37 : decode cX9_lotOf 37 = .ok (.istore 7, 2) := by decide +kernel
theorem dX9_lotOf_39 : decode cX9_lotOf 39 = .ok (.iload 4, 2) := by decide +kernel
theorem dX9_lotOf_41 : decode cX9_lotOf 41 = .ok (.iload 7, 2) := by decide +kernel
theorem dX9_lotOf_43 : decode cX9_lotOf 43 = .ok (.invokestatic 93, 3) := by decide +kernel
theorem dX9_lotOf_46 : decode cX9_lotOf 46 = .ok (.ifCond .ne 8, 3) := by decide +kernel
theorem dX9_lotOf_49 : decode cX9_lotOf 49 = .ok (.iload 6, 2) := by decide +kernel
theorem dX9_lotOf_51 : decode cX9_lotOf 51 = .ok (.ifCond .le 29, 3) := by decide +kernel
theorem dX9_lotOf_54 : decode cX9_lotOf 54 = .ok (.iload 6, 2) := by decide +kernel
theorem dX9_lotOf_56 : decode cX9_lotOf 56 = .ok (.iload 4, 2) := by decide +kernel
theorem dX9_lotOf_58 : decode cX9_lotOf 58 = .ok (.iload 7, 2) := by decide +kernel
theorem dX9_lotOf_60 : decode cX9_lotOf 60 = .ok (.invokestatic 93, 3) := by decide +kernel
theorem dX9_lotOf_63 : decode cX9_lotOf 63 = .ok (.ifCond .eq 7, 3) := by decide +kernel
theorem dX9_lotOf_66 : decode cX9_lotOf 66 = .ok (.iconst 0, 1) := by decide +kernel
theorem dX9_lotOf_67 : decode cX9_lotOf 67 = .ok (.goto 4, 3) := by decide +kernel
theorem dX9_lotOf_70 : decode cX9_lotOf 70 = .ok (.iconst 1, 1) := by decide +kernel
theorem dX9_lotOf_71 : decode cX9_lotOf 71 = .ok (.isub, 1) := by decide +kernel
theorem dX9_lotOf_72 : decode cX9_lotOf 72 = .ok (.istore 6, 2) := by decide +kernel
theorem dX9_lotOf_74 : decode cX9_lotOf 74 = .ok (.iinc 7 1, 3) := by decide +kernel
theorem dX9_lotOf_77 : decode cX9_lotOf 77 = .ok (.goto (-38), 3) := by decide +kernel
theorem dX9_lotOf_80 : decode cX9_lotOf 80 = .ok (.aload_n 0, 1) := by decide +kernel
theorem dX9_lotOf_81 : decode cX9_lotOf 81 = .ok (.getfield 31, 3) := by decide +kernel
theorem dX9_lotOf_84 : decode cX9_lotOf 84 = .ok (.iload 5, 2) := by decide +kernel
theorem dX9_lotOf_86 : decode cX9_lotOf 86 = .ok (.iload 7, 2) := by decide +kernel
theorem dX9_lotOf_88 : decode cX9_lotOf 88 = .ok (.iastore, 1) := by decide +kernel
theorem dX9_lotOf_89 : decode cX9_lotOf 89 = .ok (.iload 4, 2) := by decide +kernel
theorem dX9_lotOf_91 : decode cX9_lotOf 91 = .ok (.iconst 1, 1) := by decide +kernel
theorem dX9_lotOf_92 : decode cX9_lotOf 92 = .ok (.iload 7, 2) := by decide +kernel
theorem dX9_lotOf_94 : decode cX9_lotOf 94 = .ok (.ishl, 1) := by decide +kernel
theorem dX9_lotOf_95 : decode cX9_lotOf 95 = .ok (.ior, 1) := by decide +kernel
theorem dX9_lotOf_96 : decode cX9_lotOf 96 = .ok (.istore 4, 2) := by decide +kernel
theorem dX9_lotOf_98 : decode cX9_lotOf 98 = .ok (.iinc 5 1, 3) := by decide +kernel
theorem dX9_lotOf_101 : decode cX9_lotOf 101 = .ok (.goto (-93), 3) := by decide +kernel
theorem dX9_lotOf_104 : decode cX9_lotOf 104 = .ok (.aload_n 0, 1) := by decide +kernel
theorem dX9_lotOf_105 : decode cX9_lotOf 105 = .ok (.getfield 31, 3) := by decide +kernel
theorem dX9_lotOf_108 : decode cX9_lotOf 108 = .ok (.iload_n 2, 1) := by decide +kernel
theorem dX9_lotOf_109 : decode cX9_lotOf 109 = .ok (.iaload, 1) := by decide +kernel
theorem dX9_lotOf_110 : decode cX9_lotOf 110 = .ok (.ireturn, 1) := by decide +kernel
set_option maxRecDepth 20000 in
theorem ggX9_lot_X9_isSix : GoodIn wsX9_lot wsX9_isSix := goodIn_r _ [4, 5, 6, 3, 7] (by decide +kernel) (by decide +kernel)
set_option maxRecDepth 20000 in
theorem gX9_lot_X9_isSix : GoodIn wsX9_lot (va_wsS RX9 74 yX9_isSix wsX9_isSix) := goodIn_app (goodIn_of _ (by decide +kernel)) ggX9_lot_X9_isSix
set_option maxRecDepth 20000 in
theorem ggX9_lot_X9_lotOf : GoodIn wsX9_lot wsX9_lotOf := goodIn_r _ [11, 12, 13, 14, 15, 3, 16, 17, 18, 19, 20, 21, 22, 23, 24, 25, 26, 27, 28, 29, 30, 31, 32, 33, 34, 35, 36, 37, 38, 39, 40] (by decide +kernel) (by decide +kernel)
set_option maxRecDepth 20000 in
theorem gX9_lot_X9_lotOf : GoodIn wsX9_lot (wsV RX9 174 RX9 yX9_lotOf wsX9_lotOf) := goodIn_app (goodIn_of _ (by decide +kernel)) ggX9_lot_X9_lotOf
theorem dX9_lot_0 : decode cX9_lot 0 = .ok (.iload_n 2, 1) := by decide +kernel
theorem dX9_lot_1 : decode cX9_lot 1 = .ok (.invokestatic 74, 3) := by decide +kernel
theorem dX9_lot_4 : decode cX9_lot 4 = .ok (.ifCond .eq 12, 3) := by decide +kernel
theorem dX9_lot_7 : decode cX9_lot 7 = .ok (.aload_n 0, 1) := by decide +kernel
theorem dX9_lot_8 : decode cX9_lot 8 = .ok (.iload_n 1, 1) := by decide +kernel
theorem dX9_lot_9 : decode cX9_lot 9 = .ok (.iload_n 2, 1) := by decide +kernel
theorem dX9_lot_10 : decode cX9_lot 10 = .ok (.invokevirtual 174, 3) := by decide +kernel
theorem dX9_lot_13 : decode cX9_lot 13 = .ok (.goto 5, 3) := by decide +kernel
theorem dX9_lot_16 : decode cX9_lot 16 = .ok (.bipush (-2), 2) := by decide +kernel
theorem dX9_lot_18 : decode cX9_lot 18 = .ok (.ireturn, 1) := by decide +kernel
set_option maxRecDepth 20000 in
theorem ggX9_claim_X9_isSix : GoodIn wsX9_claim wsX9_isSix := goodIn_r _ [8, 9, 10, 7, 11] (by decide +kernel) (by decide +kernel)
set_option maxRecDepth 20000 in
theorem gX9_claim_X9_isSix : GoodIn wsX9_claim (va_wsS RX9 74 yX9_isSix wsX9_isSix) := goodIn_app (goodIn_of _ (by decide +kernel)) ggX9_claim_X9_isSix
set_option maxRecDepth 20000 in
theorem ggX9_claim_X9_in : GoodIn wsX9_claim wsX9_in := goodIn_r _ [11] (by decide +kernel) (by decide +kernel)
set_option maxRecDepth 20000 in
theorem gX9_claim_X9_in : GoodIn wsX9_claim (va_wsS RX9 70 yX9_in wsX9_in) := goodIn_app (goodIn_of _ (by decide +kernel)) ggX9_claim_X9_in
theorem dX9_claim_0 : decode cX9_claim 0 = .ok (.iload_n 1, 1) := by decide +kernel
theorem dX9_claim_1 : decode cX9_claim 1 = .ok (.invokestatic 74, 3) := by decide +kernel
theorem dX9_claim_4 : decode cX9_claim 4 = .ok (.ifCond .eq 23, 3) := by decide +kernel
theorem dX9_claim_7 : decode cX9_claim 7 = .ok (.iload_n 2, 1) := by decide +kernel
theorem dX9_claim_8 : decode cX9_claim 8 = .ok (.iconst 0, 1) := by decide +kernel
theorem dX9_claim_9 : decode cX9_claim 9 = .ok (.bipush 11, 2) := by decide +kernel
theorem dX9_claim_11 : decode cX9_claim 11 = .ok (.invokestatic 70, 3) := by decide +kernel
theorem dX9_claim_14 : decode cX9_claim 14 = .ok (.ifCond .eq 13, 3) := by decide +kernel
theorem dX9_claim_17 : decode cX9_claim 17 = .ok (.iload_n 3, 1) := by decide +kernel
theorem dX9_claim_18 : decode cX9_claim 18 = .ok (.iconst 1, 1) := by decide +kernel
theorem dX9_claim_19 : decode cX9_claim 19 = .ok (.bipush 99, 2) := by decide +kernel
theorem dX9_claim_21 : decode cX9_claim 21 = .ok (.invokestatic 70, 3) := by decide +kernel
theorem dX9_claim_24 : decode cX9_claim 24 = .ok (.ifCond .ne 6, 3) := by decide +kernel
theorem dX9_claim_27 : decode cX9_claim 27 = .ok (.bipush (-2), 2) := by decide +kernel
theorem dX9_claim_29 : decode cX9_claim 29 = .ok (.ireturn, 1) := by decide +kernel
theorem dX9_claim_30 : decode cX9_claim 30 = .ok (.aload_n 0, 1) := by decide +kernel
theorem dX9_claim_31 : decode cX9_claim 31 = .ok (.getfield 177, 3) := by decide +kernel
theorem dX9_claim_34 : decode cX9_claim 34 = .ok (.bipush 12, 2) := by decide +kernel
theorem dX9_claim_36 : decode cX9_claim 36 = .ok (.if_icmp .ne 6, 3) := by decide +kernel
theorem dX9_claim_39 : decode cX9_claim 39 = .ok (.bipush (-4), 2) := by decide +kernel
theorem dX9_claim_41 : decode cX9_claim 41 = .ok (.ireturn, 1) := by decide +kernel
theorem dX9_claim_42 : decode cX9_claim 42 = .ok (.aload_n 0, 1) := by decide +kernel
theorem dX9_claim_43 : decode cX9_claim 43 = .ok (.getfield 34, 3) := by decide +kernel
theorem dX9_claim_46 : decode cX9_claim 46 = .ok (.aload_n 0, 1) := by decide +kernel
theorem dX9_claim_47 : decode cX9_claim 47 = .ok (.getfield 177, 3) := by decide +kernel
theorem dX9_claim_50 : decode cX9_claim 50 = .ok (.iload_n 1, 1) := by decide +kernel
theorem dX9_claim_51 : decode cX9_claim 51 = .ok (.iastore, 1) := by decide +kernel
theorem dX9_claim_52 : decode cX9_claim 52 = .ok (.aload_n 0, 1) := by decide +kernel
theorem dX9_claim_53 : decode cX9_claim 53 = .ok (.getfield 37, 3) := by decide +kernel
theorem dX9_claim_56 : decode cX9_claim 56 = .ok (.aload_n 0, 1) := by decide +kernel
theorem dX9_claim_57 : decode cX9_claim 57 = .ok (.getfield 177, 3) := by decide +kernel
theorem dX9_claim_60 : decode cX9_claim 60 = .ok (.iload_n 2, 1) := by decide +kernel
theorem dX9_claim_61 : decode cX9_claim 61 = .ok (.iastore, 1) := by decide +kernel
theorem dX9_claim_62 : decode cX9_claim 62 = .ok (.aload_n 0, 1) := by decide +kernel
theorem dX9_claim_63 : decode cX9_claim 63 = .ok (.getfield 40, 3) := by decide +kernel
theorem dX9_claim_66 : decode cX9_claim 66 = .ok (.aload_n 0, 1) := by decide +kernel
theorem dX9_claim_67 : decode cX9_claim 67 = .ok (.getfield 177, 3) := by decide +kernel
theorem dX9_claim_70 : decode cX9_claim 70 = .ok (.iload_n 3, 1) := by decide +kernel
theorem dX9_claim_71 : decode cX9_claim 71 = .ok (.iastore, 1) := by decide +kernel
theorem dX9_claim_72 : decode cX9_claim 72 = .ok (.aload_n 0, 1) := by decide +kernel
theorem dX9_claim_73 : decode cX9_claim 73 = .ok (.dup, 1) := by decide +kernel
theorem dX9_claim_74 : decode cX9_claim 74 = .ok (.getfield 177, 3) := by decide +kernel
theorem dX9_claim_77 : decode cX9_claim 77 = .ok (.iconst 1, 1) := by decide +kernel
theorem dX9_claim_78 : decode cX9_claim 78 = .ok (.iadd, 1) := by decide +kernel
theorem dX9_claim_79 : decode cX9_claim 79 = .ok (.putfield 177, 3) := by decide +kernel
theorem dX9_claim_82 : decode cX9_claim 82 = .ok (.aload_n 0, 1) := by decide +kernel
theorem dX9_claim_83 : decode cX9_claim 83 = .ok (.getfield 177, 3) := by decide +kernel
theorem dX9_claim_86 : decode cX9_claim 86 = .ok (.ireturn, 1) := by decide +kernel
set_option maxRecDepth 20000 in
theorem ggX9_owedOf_X9_faultNow : GoodIn wsX9_owedOf wsX9_faultNow := goodIn_r _ [11, 3, 12, 13, 6, 14, 15, 10, 16, 17, 18, 19, 20, 21, 22, 23, 24, 25, 26, 27, 28, 29, 30, 31, 32, 33, 34, 35, 36, 37, 38, 39, 40, 41, 42, 43, 44, 45, 46] (by decide +kernel) (by decide +kernel)
set_option maxRecDepth 20000 in
theorem gX9_owedOf_X9_faultNow : GoodIn wsX9_owedOf (wsV RX9 96 RX9 yX9_faultNow wsX9_faultNow) := goodIn_app (goodIn_of _ (by decide +kernel)) ggX9_owedOf_X9_faultNow
theorem dX9_owedOf_0 : decode cX9_owedOf 0 = .ok (.aload_n 0, 1) := by decide +kernel
theorem dX9_owedOf_1 : decode cX9_owedOf 1 = .ok (.invokevirtual 96, 3) := by decide +kernel
theorem dX9_owedOf_4 : decode cX9_owedOf 4 = .ok (.istore_n 3, 1) := by decide +kernel
theorem dX9_owedOf_5 : decode cX9_owedOf 5 = .ok (.iconst 0, 1) := by decide +kernel
theorem dX9_owedOf_6 : decode cX9_owedOf 6 = .ok (.istore 4, 2) := by decide +kernel
theorem dX9_owedOf_8 : decode cX9_owedOf 8 = .ok (.iconst 0, 1) := by decide +kernel
theorem dX9_owedOf_9 : decode cX9_owedOf 9 = .ok (.istore 5, 2) := by decide +kernel
theorem dX9_owedOf_11 : decode cX9_owedOf 11 = .ok (.iload 5, 2) := by decide +kernel
theorem dX9_owedOf_13 : decode cX9_owedOf 13 = .ok (.aload_n 0, 1) := by decide +kernel
theorem dX9_owedOf_14 : decode cX9_owedOf 14 = .ok (.getfield 177, 3) := by decide +kernel
theorem dX9_owedOf_17 : decode cX9_owedOf 17 = .ok (.if_icmp .ge 125, 3) := by decide +kernel
theorem dX9_owedOf_20 : decode cX9_owedOf 20 = .ok (.aload_n 0, 1) := by decide +kernel
theorem dX9_owedOf_21 : decode cX9_owedOf 21 = .ok (.getfield 37, 3) := by decide +kernel
theorem dX9_owedOf_24 : decode cX9_owedOf 24 = .ok (.iload 5, 2) := by decide +kernel
theorem dX9_owedOf_26 : decode cX9_owedOf 26 = .ok (.iaload, 1) := by decide +kernel
theorem dX9_owedOf_27 : decode cX9_owedOf 27 = .ok (.aload_n 0, 1) := by decide +kernel
theorem dX9_owedOf_28 : decode cX9_owedOf 28 = .ok (.getfield 90, 3) := by decide +kernel
theorem dX9_owedOf_31 : decode cX9_owedOf 31 = .ok (.if_icmp .ge 105, 3) := by decide +kernel
theorem dX9_owedOf_34 : decode cX9_owedOf 34 = .ok (.iload_n 2, 1) := by decide +kernel
theorem dX9_owedOf_35 : decode cX9_owedOf 35 = .ok (.ifCond .ne 13, 3) := by decide +kernel
theorem dX9_owedOf_38 : decode cX9_owedOf 38 = .ok (.aload_n 0, 1) := by decide +kernel
theorem dX9_owedOf_39 : decode cX9_owedOf 39 = .ok (.getfield 40, 3) := by decide +kernel
theorem dX9_owedOf_42 : decode cX9_owedOf 42 = .ok (.iload 5, 2) := by decide +kernel
theorem dX9_owedOf_44 : decode cX9_owedOf 44 = .ok (.iaload, 1) := by decide +kernel
theorem dX9_owedOf_45 : decode cX9_owedOf 45 = .ok (.goto 21, 3) := by decide +kernel
theorem dX9_owedOf_48 : decode cX9_owedOf 48 = .ok (.iload_n 2, 1) := by decide +kernel
theorem dX9_owedOf_49 : decode cX9_owedOf 49 = .ok (.iconst 1, 1) := by decide +kernel
theorem dX9_owedOf_50 : decode cX9_owedOf 50 = .ok (.if_icmp .ne 7, 3) := by decide +kernel
theorem dX9_owedOf_53 : decode cX9_owedOf 53 = .ok (.iconst 0, 1) := by decide +kernel
theorem dX9_owedOf_54 : decode cX9_owedOf 54 = .ok (.goto 12, 3) := by decide +kernel
theorem dX9_owedOf_57 : decode cX9_owedOf 57 = .ok (.aload_n 0, 1) := by decide +kernel
theorem dX9_owedOf_58 : decode cX9_owedOf 58 = .ok (.getfield 40, 3) := by decide +kernel
theorem dX9_owedOf_61 : decode cX9_owedOf 61 = .ok (.iload 5, 2) := by decide +kernel
theorem dX9_owedOf_63 : decode cX9_owedOf 63 = .ok (.iaload, 1) := by decide +kernel
theorem dX9_owedOf_64 : decode cX9_owedOf 64 = .ok (.iconst 2, 1) := by decide +kernel
theorem dX9_owedOf_65 : decode cX9_owedOf 65 = .ok (.idiv, 1) := by decide +kernel
theorem dX9_owedOf_66 : decode cX9_owedOf 66 = .ok (.istore 6, 2) := by decide +kernel
theorem dX9_owedOf_68 : decode cX9_owedOf 68 = .ok (.iload 4, 2) := by decide +kernel
theorem dX9_owedOf_70 : decode cX9_owedOf 70 = .ok (.aload_n 0, 1) := by decide +kernel
theorem dX9_owedOf_71 : decode cX9_owedOf 71 = .ok (.getfield 34, 3) := by decide +kernel
theorem dX9_owedOf_74 : decode cX9_owedOf 74 = .ok (.iload 5, 2) := by decide +kernel
theorem dX9_owedOf_76 : decode cX9_owedOf 76 = .ok (.iaload, 1) := by decide +kernel
theorem dX9_owedOf_77 : decode cX9_owedOf 77 = .ok (.iload_n 1, 1) := by decide +kernel
theorem dX9_owedOf_78 : decode cX9_owedOf 78 = .ok (.if_icmp .ne 8, 3) := by decide +kernel
theorem dX9_owedOf_81 : decode cX9_owedOf 81 = .ok (.iload 6, 2) := by decide +kernel
theorem dX9_owedOf_83 : decode cX9_owedOf 83 = .ok (.goto 4, 3) := by decide +kernel
theorem dX9_owedOf_86 : decode cX9_owedOf 86 = .ok (.iconst 0, 1) := by decide +kernel
theorem dX9_owedOf_87 : decode cX9_owedOf 87 = .ok (.iadd, 1) := by decide +kernel
theorem dX9_owedOf_88 : decode cX9_owedOf 88 = .ok (.istore 4, 2) := by decide +kernel
theorem dX9_owedOf_90 : decode cX9_owedOf 90 = .ok (.iload 4, 2) := by decide +kernel
theorem dX9_owedOf_92 : decode cX9_owedOf 92 = .ok (.aload_n 0, 1) := by decide +kernel
theorem dX9_owedOf_93 : decode cX9_owedOf 93 = .ok (.getfield 28, 3) := by decide +kernel
theorem dX9_owedOf_96 : decode cX9_owedOf 96 = .ok (.bipush 6, 2) := by decide +kernel
theorem dX9_owedOf_98 : decode cX9_owedOf 98 = .ok (.aload_n 0, 1) := by decide +kernel
theorem dX9_owedOf_99 : decode cX9_owedOf 99 = .ok (.getfield 37, 3) := by decide +kernel
theorem dX9_owedOf_102 : decode cX9_owedOf 102 = .ok (.iload 5, 2) := by decide +kernel
theorem dX9_owedOf_104 : decode cX9_owedOf 104 = .ok (.iaload, 1) := by decide +kernel
theorem dX9_owedOf_105 : decode cX9_owedOf 105 = .ok (.imul, 1) := by decide +kernel
theorem dX9_owedOf_106 : decode cX9_owedOf 106 = .ok (.aload_n 0, 1) := by decide +kernel
theorem dX9_owedOf_107 : decode cX9_owedOf 107 = .ok (.getfield 34, 3) := by decide +kernel
theorem dX9_owedOf_110 : decode cX9_owedOf 110 = .ok (.iload 5, 2) := by decide +kernel
theorem dX9_owedOf_112 : decode cX9_owedOf 112 = .ok (.iaload, 1) := by decide +kernel
theorem dX9_owedOf_113 : decode cX9_owedOf 113 = .ok (.iadd, 1) := by decide +kernel
theorem dX9_owedOf_114 : decode cX9_owedOf 114 = .ok (.iaload, 1) := by decide +kernel
theorem dX9_owedOf_115 : decode cX9_owedOf 115 = .ok (.iload_n 1, 1) := by decide +kernel
theorem dX9_owedOf_116 : decode cX9_owedOf 116 = .ok (.if_icmp .ne 16, 3) := by decide +kernel
theorem dX9_owedOf_119 : decode cX9_owedOf 119 = .ok (.aload_n 0, 1) := by decide +kernel
theorem dX9_owedOf_120 : decode cX9_owedOf 120 = .ok (.getfield 40, 3) := by decide +kernel
theorem dX9_owedOf_123 : decode cX9_owedOf 123 = .ok (.iload 5, 2) := by decide +kernel
theorem dX9_owedOf_125 : decode cX9_owedOf 125 = .ok (.iaload, 1) := by decide +kernel
theorem dX9_owedOf_126 : decode cX9_owedOf 126 = .ok (.iload 6, 2) := by decide +kernel
theorem dX9_owedOf_128 : decode cX9_owedOf 128 = .ok (.isub, 1) := by decide +kernel
theorem dX9_owedOf_129 : decode cX9_owedOf 129 = .ok (.goto 4, 3) := by decide +kernel
theorem dX9_owedOf_132 : decode cX9_owedOf 132 = .ok (.iconst 0, 1) := by decide +kernel
theorem dX9_owedOf_133 : decode cX9_owedOf 133 = .ok (.iadd, 1) := by decide +kernel
theorem dX9_owedOf_134 : decode cX9_owedOf 134 = .ok (.istore 4, 2) := by decide +kernel
theorem dX9_owedOf_136 : decode cX9_owedOf 136 = .ok (.iinc 5 1, 3) := by decide +kernel
theorem dX9_owedOf_139 : decode cX9_owedOf 139 = .ok (.goto (-128), 3) := by decide +kernel
theorem dX9_owedOf_142 : decode cX9_owedOf 142 = .ok (.iload 4, 2) := by decide +kernel
theorem dX9_owedOf_144 : decode cX9_owedOf 144 = .ok (.ireturn, 1) := by decide +kernel
set_option maxRecDepth 20000 in
theorem ggX9_owed_X9_isSix : GoodIn wsX9_owed wsX9_isSix := goodIn_r _ [4, 5, 6, 3, 7] (by decide +kernel) (by decide +kernel)
set_option maxRecDepth 20000 in
theorem gX9_owed_X9_isSix : GoodIn wsX9_owed (va_wsS RX9 74 yX9_isSix wsX9_isSix) := goodIn_app (goodIn_of _ (by decide +kernel)) ggX9_owed_X9_isSix
set_option maxRecDepth 20000 in
theorem ggX9_owed_X9_in : GoodIn wsX9_owed wsX9_in := goodIn_r _ [7] (by decide +kernel) (by decide +kernel)
set_option maxRecDepth 20000 in
theorem gX9_owed_X9_in : GoodIn wsX9_owed (va_wsS RX9 70 yX9_in wsX9_in) := goodIn_app (goodIn_of _ (by decide +kernel)) ggX9_owed_X9_in
set_option maxRecDepth 20000 in
theorem ggX9_owed_X9_owedOf : GoodIn wsX9_owed wsX9_owedOf := goodIn_r _ [11, 12, 13, 14, 15, 16, 17, 18, 19, 20, 3, 21, 22, 23, 1, 2, 4, 5, 6, 7, 24, 25, 26, 27, 28, 29, 30, 31, 32, 33, 34, 35, 36, 37, 38, 39, 40, 41, 42, 43, 44, 45, 46, 47, 48, 49, 50] (by decide +kernel) (by decide +kernel)
set_option maxRecDepth 20000 in
theorem gX9_owed_X9_owedOf : GoodIn wsX9_owed (wsV RX9 180 RX9 yX9_owedOf wsX9_owedOf) := goodIn_app (goodIn_of _ (by decide +kernel)) ggX9_owed_X9_owedOf
theorem dX9_owed_0 : decode cX9_owed 0 = .ok (.iload_n 1, 1) := by decide +kernel
theorem dX9_owed_1 : decode cX9_owed 1 = .ok (.invokestatic 74, 3) := by decide +kernel
theorem dX9_owed_4 : decode cX9_owed 4 = .ok (.ifCond .eq 21, 3) := by decide +kernel
theorem dX9_owed_7 : decode cX9_owed 7 = .ok (.iload_n 2, 1) := by decide +kernel
theorem dX9_owed_8 : decode cX9_owed 8 = .ok (.iconst 0, 1) := by decide +kernel
theorem dX9_owed_9 : decode cX9_owed 9 = .ok (.iconst 2, 1) := by decide +kernel
theorem dX9_owed_10 : decode cX9_owed 10 = .ok (.invokestatic 70, 3) := by decide +kernel
theorem dX9_owed_13 : decode cX9_owed 13 = .ok (.ifCond .eq 12, 3) := by decide +kernel
theorem dX9_owed_16 : decode cX9_owed 16 = .ok (.aload_n 0, 1) := by decide +kernel
theorem dX9_owed_17 : decode cX9_owed 17 = .ok (.iload_n 1, 1) := by decide +kernel
theorem dX9_owed_18 : decode cX9_owed 18 = .ok (.iload_n 2, 1) := by decide +kernel
theorem dX9_owed_19 : decode cX9_owed 19 = .ok (.invokevirtual 180, 3) := by decide +kernel
theorem dX9_owed_22 : decode cX9_owed 22 = .ok (.goto 5, 3) := by decide +kernel
theorem dX9_owed_25 : decode cX9_owed 25 = .ok (.bipush (-2), 2) := by decide +kernel
theorem dX9_owed_27 : decode cX9_owed 27 = .ok (.ireturn, 1) := by decide +kernel
set_option maxRecDepth 20000 in
theorem ggX9_lightest_X9_isSix : GoodIn wsX9_lightest wsX9_isSix := goodIn_r _ [4, 5, 6, 3, 7] (by decide +kernel) (by decide +kernel)
set_option maxRecDepth 20000 in
theorem gX9_lightest_X9_isSix : GoodIn wsX9_lightest (va_wsS RX9 74 yX9_isSix wsX9_isSix) := goodIn_app (goodIn_of _ (by decide +kernel)) ggX9_lightest_X9_isSix
set_option maxRecDepth 20000 in
theorem ggX9_lightest_X9_owedOf : GoodIn wsX9_lightest wsX9_owedOf := goodIn_r _ [11, 12, 13, 14, 15, 16, 17, 18, 19, 20, 3, 21, 22, 23, 1, 2, 4, 5, 6, 7, 24, 25, 26, 27, 28, 29, 30, 31, 32, 33, 34, 35, 36, 37, 38, 39, 40, 41, 42, 43, 44, 45, 46, 47, 48, 49, 50] (by decide +kernel) (by decide +kernel)
set_option maxRecDepth 20000 in
theorem gX9_lightest_X9_owedOf : GoodIn wsX9_lightest (wsV RX9 180 RX9 yX9_owedOf wsX9_owedOf) := goodIn_app (goodIn_of _ (by decide +kernel)) ggX9_lightest_X9_owedOf
theorem dX9_lightest_0 : decode cX9_lightest 0 = .ok (.iload_n 1, 1) := by decide +kernel
theorem dX9_lightest_1 : decode cX9_lightest 1 = .ok (.invokestatic 74, 3) := by decide +kernel
theorem dX9_lightest_4 : decode cX9_lightest 4 = .ok (.ifCond .ne 6, 3) := by decide +kernel
theorem dX9_lightest_7 : decode cX9_lightest 7 = .ok (.bipush (-2), 2) := by decide +kernel
theorem dX9_lightest_9 : decode cX9_lightest 9 = .ok (.ireturn, 1) := by decide +kernel
theorem dX9_lightest_10 : decode cX9_lightest 10 = .ok (.aload_n 0, 1) := by decide +kernel
theorem dX9_lightest_11 : decode cX9_lightest 11 = .ok (.iload_n 1, 1) := by decide +kernel
theorem dX9_lightest_12 : decode cX9_lightest 12 = .ok (.iconst 1, 1) := by decide +kernel
theorem dX9_lightest_13 : decode cX9_lightest 13 = .ok (.invokevirtual 180, 3) := by decide +kernel
theorem dX9_lightest_16 : decode cX9_lightest 16 = .ok (.aload_n 0, 1) := by decide +kernel
theorem dX9_lightest_17 : decode cX9_lightest 17 = .ok (.iload_n 1, 1) := by decide +kernel
theorem dX9_lightest_18 : decode cX9_lightest 18 = .ok (.iconst 0, 1) := by decide +kernel
theorem dX9_lightest_19 : decode cX9_lightest 19 = .ok (.invokevirtual 180, 3) := by decide +kernel
theorem dX9_lightest_22 : decode cX9_lightest 22 = .ok (.if_icmp .ge 7, 3) := by decide +kernel
theorem dX9_lightest_25 : decode cX9_lightest 25 = .ok (.iconst 1, 1) := by decide +kernel
theorem dX9_lightest_26 : decode cX9_lightest 26 = .ok (.goto 4, 3) := by decide +kernel
theorem dX9_lightest_29 : decode cX9_lightest 29 = .ok (.iconst 0, 1) := by decide +kernel
theorem dX9_lightest_30 : decode cX9_lightest 30 = .ok (.istore_n 2, 1) := by decide +kernel
theorem dX9_lightest_31 : decode cX9_lightest 31 = .ok (.aload_n 0, 1) := by decide +kernel
theorem dX9_lightest_32 : decode cX9_lightest 32 = .ok (.iload_n 1, 1) := by decide +kernel
theorem dX9_lightest_33 : decode cX9_lightest 33 = .ok (.iconst 2, 1) := by decide +kernel
theorem dX9_lightest_34 : decode cX9_lightest 34 = .ok (.invokevirtual 180, 3) := by decide +kernel
theorem dX9_lightest_37 : decode cX9_lightest 37 = .ok (.aload_n 0, 1) := by decide +kernel
theorem dX9_lightest_38 : decode cX9_lightest 38 = .ok (.iload_n 1, 1) := by decide +kernel
theorem dX9_lightest_39 : decode cX9_lightest 39 = .ok (.iload_n 2, 1) := by decide +kernel
theorem dX9_lightest_40 : decode cX9_lightest 40 = .ok (.invokevirtual 180, 3) := by decide +kernel
theorem dX9_lightest_43 : decode cX9_lightest 43 = .ok (.if_icmp .ge 7, 3) := by decide +kernel
theorem dX9_lightest_46 : decode cX9_lightest 46 = .ok (.iconst 2, 1) := by decide +kernel
theorem dX9_lightest_47 : decode cX9_lightest 47 = .ok (.goto 4, 3) := by decide +kernel
theorem dX9_lightest_50 : decode cX9_lightest 50 = .ok (.iload_n 2, 1) := by decide +kernel
theorem dX9_lightest_51 : decode cX9_lightest 51 = .ok (.ireturn, 1) := by decide +kernel
set_option maxRecDepth 20000 in
theorem ggX9_disputedNow_X9_faultNow : GoodIn wsX9_disputedNow wsX9_faultNow := goodIn_r _ [10, 3, 11, 12, 4, 13, 14, 9, 15, 16, 17, 18, 19, 20, 21, 22, 23, 24, 25, 26, 27, 28, 29, 30, 31, 32, 33, 34, 35, 36, 37, 38, 39, 40, 41, 42, 43, 44, 45] (by decide +kernel) (by decide +kernel)
set_option maxRecDepth 20000 in
theorem gX9_disputedNow_X9_faultNow : GoodIn wsX9_disputedNow (wsV RX9 96 RX9 yX9_faultNow wsX9_faultNow) := goodIn_app (goodIn_of _ (by decide +kernel)) ggX9_disputedNow_X9_faultNow
theorem dX9_disputedNow_0 : decode cX9_disputedNow 0 = .ok (.aload_n 0, 1) := by decide +kernel
theorem dX9_disputedNow_1 : decode cX9_disputedNow 1 = .ok (.invokevirtual 96, 3) := by decide +kernel
theorem dX9_disputedNow_4 : decode cX9_disputedNow 4 = .ok (.istore_n 1, 1) := by decide +kernel
theorem dX9_disputedNow_5 : decode cX9_disputedNow 5 = .ok (.iconst 0, 1) := by decide +kernel
theorem dX9_disputedNow_6 : decode cX9_disputedNow 6 = .ok (.istore_n 2, 1) := by decide +kernel
theorem dX9_disputedNow_7 : decode cX9_disputedNow 7 = .ok (.iconst 0, 1) := by decide +kernel
theorem dX9_disputedNow_8 : decode cX9_disputedNow 8 = .ok (.istore_n 3, 1) := by decide +kernel
theorem dX9_disputedNow_9 : decode cX9_disputedNow 9 = .ok (.iload_n 3, 1) := by decide +kernel
theorem dX9_disputedNow_10 : decode cX9_disputedNow 10 = .ok (.aload_n 0, 1) := by decide +kernel
theorem dX9_disputedNow_11 : decode cX9_disputedNow 11 = .ok (.getfield 177, 3) := by decide +kernel
theorem dX9_disputedNow_14 : decode cX9_disputedNow 14 = .ok (.if_icmp .ge 60, 3) := by decide +kernel
theorem dX9_disputedNow_17 : decode cX9_disputedNow 17 = .ok (.iload_n 2, 1) := by decide +kernel
theorem dX9_disputedNow_18 : decode cX9_disputedNow 18 = .ok (.aload_n 0, 1) := by decide +kernel
theorem dX9_disputedNow_19 : decode cX9_disputedNow 19 = .ok (.getfield 37, 3) := by decide +kernel
theorem dX9_disputedNow_22 : decode cX9_disputedNow 22 = .ok (.iload_n 3, 1) := by decide +kernel
theorem dX9_disputedNow_23 : decode cX9_disputedNow 23 = .ok (.iaload, 1) := by decide +kernel
theorem dX9_disputedNow_24 : decode cX9_disputedNow 24 = .ok (.aload_n 0, 1) := by decide +kernel
theorem dX9_disputedNow_25 : decode cX9_disputedNow 25 = .ok (.getfield 90, 3) := by decide +kernel
theorem dX9_disputedNow_28 : decode cX9_disputedNow 28 = .ok (.if_icmp .ge 37, 3) := by decide +kernel
theorem dX9_disputedNow_31 : decode cX9_disputedNow 31 = .ok (.aload_n 0, 1) := by decide +kernel
theorem dX9_disputedNow_32 : decode cX9_disputedNow 32 = .ok (.getfield 28, 3) := by decide +kernel
theorem dX9_disputedNow_35 : decode cX9_disputedNow 35 = .ok (.bipush 6, 2) := by decide +kernel
theorem dX9_disputedNow_37 : decode cX9_disputedNow 37 = .ok (.aload_n 0, 1) := by decide +kernel
theorem dX9_disputedNow_38 : decode cX9_disputedNow 38 = .ok (.getfield 37, 3) := by decide +kernel
theorem dX9_disputedNow_41 : decode cX9_disputedNow 41 = .ok (.iload_n 3, 1) := by decide +kernel
theorem dX9_disputedNow_42 : decode cX9_disputedNow 42 = .ok (.iaload, 1) := by decide +kernel
theorem dX9_disputedNow_43 : decode cX9_disputedNow 43 = .ok (.imul, 1) := by decide +kernel
theorem dX9_disputedNow_44 : decode cX9_disputedNow 44 = .ok (.aload_n 0, 1) := by decide +kernel
theorem dX9_disputedNow_45 : decode cX9_disputedNow 45 = .ok (.getfield 34, 3) := by decide +kernel
theorem dX9_disputedNow_48 : decode cX9_disputedNow 48 = .ok (.iload_n 3, 1) := by decide +kernel
theorem dX9_disputedNow_49 : decode cX9_disputedNow 49 = .ok (.iaload, 1) := by decide +kernel
theorem dX9_disputedNow_50 : decode cX9_disputedNow 50 = .ok (.iadd, 1) := by decide +kernel
theorem dX9_disputedNow_51 : decode cX9_disputedNow 51 = .ok (.iaload, 1) := by decide +kernel
theorem dX9_disputedNow_52 : decode cX9_disputedNow 52 = .ok (.aload_n 0, 1) := by decide +kernel
theorem dX9_disputedNow_53 : decode cX9_disputedNow 53 = .ok (.getfield 34, 3) := by decide +kernel
theorem dX9_disputedNow_56 : decode cX9_disputedNow 56 = .ok (.iload_n 3, 1) := by decide +kernel
theorem dX9_disputedNow_57 : decode cX9_disputedNow 57 = .ok (.iaload, 1) := by decide +kernel
theorem dX9_disputedNow_58 : decode cX9_disputedNow 58 = .ok (.if_icmp .eq 7, 3) := by decide +kernel
theorem dX9_disputedNow_61 : decode cX9_disputedNow 61 = .ok (.iconst 1, 1) := by decide +kernel
theorem dX9_disputedNow_62 : decode cX9_disputedNow 62 = .ok (.goto 4, 3) := by decide +kernel
theorem dX9_disputedNow_65 : decode cX9_disputedNow 65 = .ok (.iconst 0, 1) := by decide +kernel
theorem dX9_disputedNow_66 : decode cX9_disputedNow 66 = .ok (.iadd, 1) := by decide +kernel
theorem dX9_disputedNow_67 : decode cX9_disputedNow 67 = .ok (.istore_n 2, 1) := by decide +kernel
theorem dX9_disputedNow_68 : decode cX9_disputedNow 68 = .ok (.iinc 3 1, 3) := by decide +kernel
theorem dX9_disputedNow_71 : decode cX9_disputedNow 71 = .ok (.goto (-62), 3) := by decide +kernel
theorem dX9_disputedNow_74 : decode cX9_disputedNow 74 = .ok (.iload_n 2, 1) := by decide +kernel
theorem dX9_disputedNow_75 : decode cX9_disputedNow 75 = .ok (.ireturn, 1) := by decide +kernel
set_option maxRecDepth 20000 in
theorem ggX9_disputed_X9_disputedNow : GoodIn wsX9_disputed wsX9_disputedNow := goodIn_r _ [5, 6, 7, 8, 9, 10, 11, 12, 13, 4, 14, 15, 16, 17, 18, 19, 20, 21, 22, 23, 24, 25, 26, 27, 28, 29, 30, 31, 32, 33, 34, 35, 36, 37, 38, 39, 40, 41, 42, 43, 44, 45, 46, 47, 48, 49] (by decide +kernel) (by decide +kernel)
set_option maxRecDepth 20000 in
theorem gX9_disputed_X9_disputedNow : GoodIn wsX9_disputed (wsV RX9 183 RX9 yX9_disputedNow wsX9_disputedNow) := goodIn_app (goodIn_of _ (by decide +kernel)) ggX9_disputed_X9_disputedNow
theorem dX9_disputed_0 : decode cX9_disputed 0 = .ok (.aload_n 0, 1) := by decide +kernel
theorem dX9_disputed_1 : decode cX9_disputed 1 = .ok (.invokevirtual 183, 3) := by decide +kernel
theorem dX9_disputed_4 : decode cX9_disputed 4 = .ok (.ireturn, 1) := by decide +kernel
set_option maxRecDepth 20000 in
theorem ggX9_seen_X9_isSix : GoodIn wsX9_seen wsX9_isSix := goodIn_r _ [8, 9, 10, 7, 11] (by decide +kernel) (by decide +kernel)
set_option maxRecDepth 20000 in
theorem gX9_seen_X9_isSix : GoodIn wsX9_seen (va_wsS RX9 74 yX9_isSix wsX9_isSix) := goodIn_app (goodIn_of _ (by decide +kernel)) ggX9_seen_X9_isSix
set_option maxRecDepth 20000 in
theorem ggX9_seen_X9_in : GoodIn wsX9_seen wsX9_in := goodIn_r _ [11] (by decide +kernel) (by decide +kernel)
set_option maxRecDepth 20000 in
theorem gX9_seen_X9_in : GoodIn wsX9_seen (va_wsS RX9 70 yX9_in wsX9_in) := goodIn_app (goodIn_of _ (by decide +kernel)) ggX9_seen_X9_in
theorem dX9_seen_0 : decode cX9_seen 0 = .ok (.iload_n 1, 1) := by decide +kernel
theorem dX9_seen_1 : decode cX9_seen 1 = .ok (.invokestatic 74, 3) := by decide +kernel
theorem dX9_seen_4 : decode cX9_seen 4 = .ok (.ifCond .eq 24, 3) := by decide +kernel
theorem dX9_seen_7 : decode cX9_seen 7 = .ok (.iload_n 2, 1) := by decide +kernel
theorem dX9_seen_8 : decode cX9_seen 8 = .ok (.iconst 0, 1) := by decide +kernel
theorem dX9_seen_9 : decode cX9_seen 9 = .ok (.iconst 1, 1) := by decide +kernel
theorem dX9_seen_10 : decode cX9_seen 10 = .ok (.invokestatic 70, 3) := by decide +kernel
theorem dX9_seen_13 : decode cX9_seen 13 = .ok (.ifCond .eq 15, 3) := by decide +kernel
theorem dX9_seen_16 : decode cX9_seen 16 = .ok (.iload_n 3, 1) := by decide +kernel
theorem dX9_seen_17 : decode cX9_seen 17 = .ok (.iconst 1, 1) := by decide +kernel
theorem dX9_seen_18 : decode cX9_seen 18 = .ok (.iload_n 2, 1) := by decide +kernel
theorem dX9_seen_19 : decode cX9_seen 19 = .ok (.isub, 1) := by decide +kernel
theorem dX9_seen_20 : decode cX9_seen 20 = .ok (.bipush 9, 2) := by decide +kernel
theorem dX9_seen_22 : decode cX9_seen 22 = .ok (.invokestatic 70, 3) := by decide +kernel
theorem dX9_seen_25 : decode cX9_seen 25 = .ok (.ifCond .ne 6, 3) := by decide +kernel
theorem dX9_seen_28 : decode cX9_seen 28 = .ok (.bipush (-2), 2) := by decide +kernel
theorem dX9_seen_30 : decode cX9_seen 30 = .ok (.ireturn, 1) := by decide +kernel
theorem dX9_seen_31 : decode cX9_seen 31 = .ok (.aload_n 0, 1) := by decide +kernel
theorem dX9_seen_32 : decode cX9_seen 32 = .ok (.getfield 186, 3) := by decide +kernel
theorem dX9_seen_35 : decode cX9_seen 35 = .ok (.bipush 8, 2) := by decide +kernel
theorem dX9_seen_37 : decode cX9_seen 37 = .ok (.if_icmp .ne 6, 3) := by decide +kernel
theorem dX9_seen_40 : decode cX9_seen 40 = .ok (.bipush (-4), 2) := by decide +kernel
theorem dX9_seen_42 : decode cX9_seen 42 = .ok (.ireturn, 1) := by decide +kernel
theorem dX9_seen_43 : decode cX9_seen 43 = .ok (.aload_n 0, 1) := by decide +kernel
theorem dX9_seen_44 : decode cX9_seen 44 = .ok (.getfield 43, 3) := by decide +kernel
theorem dX9_seen_47 : decode cX9_seen 47 = .ok (.aload_n 0, 1) := by decide +kernel
theorem dX9_seen_48 : decode cX9_seen 48 = .ok (.getfield 186, 3) := by decide +kernel
theorem dX9_seen_51 : decode cX9_seen 51 = .ok (.iload_n 1, 1) := by decide +kernel
theorem dX9_seen_52 : decode cX9_seen 52 = .ok (.iastore, 1) := by decide +kernel
theorem dX9_seen_53 : decode cX9_seen 53 = .ok (.aload_n 0, 1) := by decide +kernel
theorem dX9_seen_54 : decode cX9_seen 54 = .ok (.getfield 46, 3) := by decide +kernel
theorem dX9_seen_57 : decode cX9_seen 57 = .ok (.aload_n 0, 1) := by decide +kernel
theorem dX9_seen_58 : decode cX9_seen 58 = .ok (.getfield 186, 3) := by decide +kernel
theorem dX9_seen_61 : decode cX9_seen 61 = .ok (.iload_n 2, 1) := by decide +kernel
theorem dX9_seen_62 : decode cX9_seen 62 = .ok (.iastore, 1) := by decide +kernel
theorem dX9_seen_63 : decode cX9_seen 63 = .ok (.aload_n 0, 1) := by decide +kernel
theorem dX9_seen_64 : decode cX9_seen 64 = .ok (.getfield 49, 3) := by decide +kernel
theorem dX9_seen_67 : decode cX9_seen 67 = .ok (.aload_n 0, 1) := by decide +kernel
theorem dX9_seen_68 : decode cX9_seen 68 = .ok (.getfield 186, 3) := by decide +kernel
theorem dX9_seen_71 : decode cX9_seen 71 = .ok (.iload_n 3, 1) := by decide +kernel
theorem dX9_seen_72 : decode cX9_seen 72 = .ok (.iastore, 1) := by decide +kernel
theorem dX9_seen_73 : decode cX9_seen 73 = .ok (.aload_n 0, 1) := by decide +kernel
theorem dX9_seen_74 : decode cX9_seen 74 = .ok (.dup, 1) := by decide +kernel
theorem dX9_seen_75 : decode cX9_seen 75 = .ok (.getfield 186, 3) := by decide +kernel
theorem dX9_seen_78 : decode cX9_seen 78 = .ok (.iconst 1, 1) := by decide +kernel
theorem dX9_seen_79 : decode cX9_seen 79 = .ok (.iadd, 1) := by decide +kernel
theorem dX9_seen_80 : decode cX9_seen 80 = .ok (.putfield 186, 3) := by decide +kernel
theorem dX9_seen_83 : decode cX9_seen 83 = .ok (.aload_n 0, 1) := by decide +kernel
theorem dX9_seen_84 : decode cX9_seen 84 = .ok (.getfield 186, 3) := by decide +kernel
theorem dX9_seen_87 : decode cX9_seen 87 = .ok (.ireturn, 1) := by decide +kernel
set_option maxRecDepth 20000 in
theorem ggX9_forget_X9_in : GoodIn wsX9_forget wsX9_in := goodIn_r _ [6] (by decide +kernel) (by decide +kernel)
set_option maxRecDepth 20000 in
theorem gX9_forget_X9_in : GoodIn wsX9_forget (va_wsS RX9 70 yX9_in wsX9_in) := goodIn_app (goodIn_of _ (by decide +kernel)) ggX9_forget_X9_in
theorem dX9_forget_0 : decode cX9_forget 0 = .ok (.iload_n 1, 1) := by decide +kernel
theorem dX9_forget_1 : decode cX9_forget 1 = .ok (.iconst 0, 1) := by decide +kernel
theorem dX9_forget_2 : decode cX9_forget 2 = .ok (.iconst 1, 1) := by decide +kernel
theorem dX9_forget_3 : decode cX9_forget 3 = .ok (.invokestatic 70, 3) := by decide +kernel
theorem dX9_forget_6 : decode cX9_forget 6 = .ok (.ifCond .ne 6, 3) := by decide +kernel
theorem dX9_forget_9 : decode cX9_forget 9 = .ok (.bipush (-2), 2) := by decide +kernel
theorem dX9_forget_11 : decode cX9_forget 11 = .ok (.ireturn, 1) := by decide +kernel
theorem dX9_forget_12 : decode cX9_forget 12 = .ok (.iload_n 1, 1) := by decide +kernel
theorem dX9_forget_13 : decode cX9_forget 13 = .ok (.ifCond .ne 10, 3) := by decide +kernel
theorem dX9_forget_16 : decode cX9_forget 16 = .ok (.aload_n 0, 1) := by decide +kernel
theorem dX9_forget_17 : decode cX9_forget 17 = .ok (.getfield 177, 3) := by decide +kernel
theorem dX9_forget_20 : decode cX9_forget 20 = .ok (.goto 7, 3) := by decide +kernel
theorem dX9_forget_23 : decode cX9_forget 23 = .ok (.aload_n 0, 1) := by decide +kernel
theorem dX9_forget_24 : decode cX9_forget 24 = .ok (.getfield 186, 3) := by decide +kernel
theorem dX9_forget_27 : decode cX9_forget 27 = .ok (.istore_n 2, 1) := by decide +kernel
theorem dX9_forget_28 : decode cX9_forget 28 = .ok (.aload_n 0, 1) := by decide +kernel
theorem dX9_forget_29 : decode cX9_forget 29 = .ok (.iload_n 1, 1) := by decide +kernel
theorem dX9_forget_30 : decode cX9_forget 30 = .ok (.ifCond .ne 7, 3) := by decide +kernel
theorem dX9_forget_33 : decode cX9_forget 33 = .ok (.iconst 0, 1) := by decide +kernel
theorem dX9_forget_34 : decode cX9_forget 34 = .ok (.goto 7, 3) := by decide +kernel
theorem dX9_forget_37 : decode cX9_forget 37 = .ok (.aload_n 0, 1) := by decide +kernel
theorem dX9_forget_38 : decode cX9_forget 38 = .ok (.getfield 177, 3) := by decide +kernel
theorem dX9_forget_41 : decode cX9_forget 41 = .ok (.putfield 177, 3) := by decide +kernel
theorem dX9_forget_44 : decode cX9_forget 44 = .ok (.aload_n 0, 1) := by decide +kernel
theorem dX9_forget_45 : decode cX9_forget 45 = .ok (.iload_n 1, 1) := by decide +kernel
theorem dX9_forget_46 : decode cX9_forget 46 = .ok (.iconst 1, 1) := by decide +kernel
theorem dX9_forget_47 : decode cX9_forget 47 = .ok (.if_icmp .ne 7, 3) := by decide +kernel
theorem dX9_forget_50 : decode cX9_forget 50 = .ok (.iconst 0, 1) := by decide +kernel
theorem dX9_forget_51 : decode cX9_forget 51 = .ok (.goto 7, 3) := by decide +kernel
theorem dX9_forget_54 : decode cX9_forget 54 = .ok (.aload_n 0, 1) := by decide +kernel
theorem dX9_forget_55 : decode cX9_forget 55 = .ok (.getfield 186, 3) := by decide +kernel
theorem dX9_forget_58 : decode cX9_forget 58 = .ok (.putfield 186, 3) := by decide +kernel
theorem dX9_forget_61 : decode cX9_forget 61 = .ok (.iload_n 2, 1) := by decide +kernel
theorem dX9_forget_62 : decode cX9_forget 62 = .ok (.ireturn, 1) := by decide +kernel
theorem dX9_isSeen_0 : decode cX9_isSeen 0 = .ok (.iconst 0, 1) := by decide +kernel
theorem dX9_isSeen_1 : decode cX9_isSeen 1 = .ok (.istore_n 3, 1) := by decide +kernel
theorem dX9_isSeen_2 : decode cX9_isSeen 2 = .ok (.iload_n 3, 1) := by decide +kernel
theorem dX9_isSeen_3 : decode cX9_isSeen 3 = .ok (.aload_n 0, 1) := by decide +kernel
theorem dX9_isSeen_4 : decode cX9_isSeen 4 = .ok (.getfield 186, 3) := by decide +kernel
theorem dX9_isSeen_7 : decode cX9_isSeen 7 = .ok (.if_icmp .ge 58, 3) := by decide +kernel
theorem dX9_isSeen_10 : decode cX9_isSeen 10 = .ok (.aload_n 0, 1) := by decide +kernel
theorem dX9_isSeen_11 : decode cX9_isSeen 11 = .ok (.getfield 46, 3) := by decide +kernel
theorem dX9_isSeen_14 : decode cX9_isSeen 14 = .ok (.iload_n 3, 1) := by decide +kernel
theorem dX9_isSeen_15 : decode cX9_isSeen 15 = .ok (.iaload, 1) := by decide +kernel
theorem dX9_isSeen_16 : decode cX9_isSeen 16 = .ok (.ifCond .ne 12, 3) := by decide +kernel
theorem dX9_isSeen_19 : decode cX9_isSeen 19 = .ok (.aload_n 0, 1) := by decide +kernel
theorem dX9_isSeen_20 : decode cX9_isSeen 20 = .ok (.getfield 7, 3) := by decide +kernel
theorem dX9_isSeen_23 : decode cX9_isSeen 23 = .ok (.iload_n 1, 1) := by decide +kernel
theorem dX9_isSeen_24 : decode cX9_isSeen 24 = .ok (.iaload, 1) := by decide +kernel
theorem dX9_isSeen_25 : decode cX9_isSeen 25 = .ok (.goto 9, 3) := by decide +kernel
theorem dX9_isSeen_28 : decode cX9_isSeen 28 = .ok (.aload_n 0, 1) := by decide +kernel
theorem dX9_isSeen_29 : decode cX9_isSeen 29 = .ok (.getfield 13, 3) := by decide +kernel
theorem dX9_isSeen_32 : decode cX9_isSeen 32 = .ok (.iload_n 1, 1) := by decide +kernel
theorem dX9_isSeen_33 : decode cX9_isSeen 33 = .ok (.iaload, 1) := by decide +kernel
theorem dX9_isSeen_34 : decode cX9_isSeen 34 = .ok (.istore 4, 2) := by decide +kernel
theorem dX9_isSeen_36 : decode cX9_isSeen 36 = .ok (.aload_n 0, 1) := by decide +kernel
theorem dX9_isSeen_37 : decode cX9_isSeen 37 = .ok (.getfield 43, 3) := by decide +kernel
theorem dX9_isSeen_40 : decode cX9_isSeen 40 = .ok (.iload_n 3, 1) := by decide +kernel
theorem dX9_isSeen_41 : decode cX9_isSeen 41 = .ok (.iaload, 1) := by decide +kernel
theorem dX9_isSeen_42 : decode cX9_isSeen 42 = .ok (.iload_n 2, 1) := by decide +kernel
theorem dX9_isSeen_43 : decode cX9_isSeen 43 = .ok (.if_icmp .ne 16, 3) := by decide +kernel
theorem dX9_isSeen_46 : decode cX9_isSeen 46 = .ok (.iload 4, 2) := by decide +kernel
theorem dX9_isSeen_48 : decode cX9_isSeen 48 = .ok (.aload_n 0, 1) := by decide +kernel
theorem dX9_isSeen_49 : decode cX9_isSeen 49 = .ok (.getfield 49, 3) := by decide +kernel
theorem dX9_isSeen_52 : decode cX9_isSeen 52 = .ok (.iload_n 3, 1) := by decide +kernel
theorem dX9_isSeen_53 : decode cX9_isSeen 53 = .ok (.iaload, 1) := by decide +kernel
theorem dX9_isSeen_54 : decode cX9_isSeen 54 = .ok (.if_icmp .eq 5, 3) := by decide +kernel
theorem dX9_isSeen_57 : decode cX9_isSeen 57 = .ok (.iconst 0, 1) := by decide +kernel
theorem dX9_isSeen_58 : decode cX9_isSeen 58 = .ok (.ireturn, 1) := by decide +kernel
theorem dX9_isSeen_59 : decode cX9_isSeen 59 = .ok (.iinc 3 1, 3) := by decide +kernel
theorem dX9_isSeen_62 : decode cX9_isSeen 62 = .ok (.goto (-60), 3) := by decide +kernel
theorem dX9_isSeen_65 : decode cX9_isSeen 65 = .ok (.iconst 1, 1) := by decide +kernel
theorem dX9_isSeen_66 : decode cX9_isSeen 66 = .ok (.ireturn, 1) := by decide +kernel
set_option maxRecDepth 20000 in
theorem ggX9_couldOf_X9_lays : GoodIn wsX9_couldOf wsX9_lays := goodIn_r _ [6, 1, 7, 8, 5, 9, 20, 21, 22, 23, 24, 25, 26, 27, 28, 29, 30, 31, 32, 33, 34, 35, 36, 37, 38, 39, 40, 41, 42, 43] (by decide +kernel) (by decide +kernel)
set_option maxRecDepth 20000 in
theorem gX9_couldOf_X9_lays : GoodIn wsX9_couldOf (wsV RX9 132 RX9 yX9_lays wsX9_lays) := goodIn_app (goodIn_of _ (by decide +kernel)) ggX9_couldOf_X9_lays
set_option maxRecDepth 20000 in
theorem ggX9_couldOf_X9_isSeen : GoodIn wsX9_couldOf wsX9_isSeen := goodIn_r _ [13, 14, 15, 16, 17, 18, 19, 20, 21, 22, 23, 24, 25, 26, 27, 28, 29, 30, 31, 32, 33, 34, 35, 36, 37, 38, 39, 40, 41, 42, 43] (by decide +kernel) (by decide +kernel)
set_option maxRecDepth 20000 in
theorem gX9_couldOf_X9_isSeen : GoodIn wsX9_couldOf (wsV RX9 189 RX9 yX9_isSeen wsX9_isSeen) := goodIn_app (goodIn_of _ (by decide +kernel)) ggX9_couldOf_X9_isSeen
theorem dX9_couldOf_0 : decode cX9_couldOf 0 = .ok (.iconst 0, 1) := by decide +kernel
theorem dX9_couldOf_1 : decode cX9_couldOf 1 = .ok (.istore_n 2, 1) := by decide +kernel
theorem dX9_couldOf_2 : decode cX9_couldOf 2 = .ok (.iconst 0, 1) := by decide +kernel
theorem dX9_couldOf_3 : decode cX9_couldOf 3 = .ok (.istore_n 3, 1) := by decide +kernel
theorem dX9_couldOf_4 : decode cX9_couldOf 4 = .ok (.iconst 0, 1) := by decide +kernel
theorem dX9_couldOf_5 : decode cX9_couldOf 5 = .ok (.istore 4, 2) := by decide +kernel
theorem dX9_couldOf_7 : decode cX9_couldOf 7 = .ok (.iload 4, 2) := by decide +kernel
theorem dX9_couldOf_9 : decode cX9_couldOf 9 = .ok (.sipush 720, 3) := by decide +kernel
theorem dX9_couldOf_12 : decode cX9_couldOf 12 = .ok (.if_icmp .ge 92, 3) := by decide +kernel
theorem dX9_couldOf_15 : decode cX9_couldOf 15 = .ok (.aload_n 0, 1) := by decide +kernel
theorem dX9_couldOf_16 : decode cX9_couldOf 16 = .ok (.iload 4, 2) := by decide +kernel
theorem dX9_couldOf_18 : decode cX9_couldOf 18 = .ok (.invokevirtual 132, 3) := by decide +kernel
theorem dX9_couldOf_21 : decode cX9_couldOf 21 = .ok (.iconst 1, 1) := by decide +kernel
theorem dX9_couldOf_22 : decode cX9_couldOf 22 = .ok (.istore 5, 2) := by decide +kernel
theorem dX9_couldOf_24 : decode cX9_couldOf 24 = .ok (.iconst 0, 1) := by decide +kernel
theorem dX9_couldOf_25 : decode cX9_couldOf 25 = .ok (.istore 6, 2) := by decide +kernel
theorem dX9_couldOf_27 : decode cX9_couldOf 27 = .ok (.iload 6, 2) := by decide +kernel
theorem dX9_couldOf_29 : decode cX9_couldOf 29 = .ok (.bipush 6, 2) := by decide +kernel
theorem dX9_couldOf_31 : decode cX9_couldOf 31 = .ok (.if_icmp .ge 29, 3) := by decide +kernel
theorem dX9_couldOf_34 : decode cX9_couldOf 34 = .ok (.iload 5, 2) := by decide +kernel
theorem dX9_couldOf_36 : decode cX9_couldOf 36 = .ok (.ifCond .eq 24, 3) := by decide +kernel
theorem dX9_couldOf_39 : decode cX9_couldOf 39 = .ok (.aload_n 0, 1) := by decide +kernel
theorem dX9_couldOf_40 : decode cX9_couldOf 40 = .ok (.iload 6, 2) := by decide +kernel
theorem dX9_couldOf_42 : decode cX9_couldOf 42 = .ok (.aload_n 0, 1) := by decide +kernel
theorem dX9_couldOf_43 : decode cX9_couldOf 43 = .ok (.getfield 31, 3) := by decide +kernel
theorem dX9_couldOf_46 : decode cX9_couldOf 46 = .ok (.iload 6, 2) := by decide +kernel
theorem dX9_couldOf_48 : decode cX9_couldOf 48 = .ok (.iaload, 1) := by decide +kernel
theorem dX9_couldOf_49 : decode cX9_couldOf 49 = .ok (.invokevirtual 189, 3) := by decide +kernel
theorem dX9_couldOf_52 : decode cX9_couldOf 52 = .ok (.istore 5, 2) := by decide +kernel
theorem dX9_couldOf_54 : decode cX9_couldOf 54 = .ok (.iinc 6 1, 3) := by decide +kernel
theorem dX9_couldOf_57 : decode cX9_couldOf 57 = .ok (.goto (-30), 3) := by decide +kernel
theorem dX9_couldOf_60 : decode cX9_couldOf 60 = .ok (.iload_n 2, 1) := by decide +kernel
theorem dX9_couldOf_61 : decode cX9_couldOf 61 = .ok (.iload 5, 2) := by decide +kernel
theorem dX9_couldOf_63 : decode cX9_couldOf 63 = .ok (.ifCond .eq 7, 3) := by decide +kernel
theorem dX9_couldOf_66 : decode cX9_couldOf 66 = .ok (.iconst 1, 1) := by decide +kernel
theorem dX9_couldOf_67 : decode cX9_couldOf 67 = .ok (.goto 4, 3) := by decide +kernel
theorem dX9_couldOf_70 : decode cX9_couldOf 70 = .ok (.iconst 0, 1) := by decide +kernel
theorem dX9_couldOf_71 : decode cX9_couldOf 71 = .ok (.iadd, 1) := by decide +kernel
theorem dX9_couldOf_72 : decode cX9_couldOf 72 = .ok (.istore_n 2, 1) := by decide +kernel
theorem dX9_couldOf_73 : decode cX9_couldOf 73 = .ok (.iload_n 3, 1) := by decide +kernel
theorem dX9_couldOf_74 : decode cX9_couldOf 74 = .ok (.iload 5, 2) := by decide +kernel
theorem dX9_couldOf_76 : decode cX9_couldOf 76 = .ok (.ifCond .eq 19, 3) := by decide +kernel
theorem dX9_couldOf_79 : decode cX9_couldOf 79 = .ok (.iload_n 1, 1) := by decide +kernel
theorem dX9_couldOf_80 : decode cX9_couldOf 80 = .ok (.iconst (-1), 1) := by decide +kernel
theorem dX9_couldOf_81 : decode cX9_couldOf 81 = .ok (.if_icmp .eq 14, 3) := by decide +kernel
theorem dX9_couldOf_84 : decode cX9_couldOf 84 = .ok (.iconst 1, 1) := by decide +kernel
theorem dX9_couldOf_85 : decode cX9_couldOf 85 = .ok (.aload_n 0, 1) := by decide +kernel
theorem dX9_couldOf_86 : decode cX9_couldOf 86 = .ok (.getfield 31, 3) := by decide +kernel
theorem dX9_couldOf_89 : decode cX9_couldOf 89 = .ok (.iload_n 1, 1) := by decide +kernel
theorem dX9_couldOf_90 : decode cX9_couldOf 90 = .ok (.iaload, 1) := by decide +kernel
theorem dX9_couldOf_91 : decode cX9_couldOf 91 = .ok (.ishl, 1) := by decide +kernel
theorem dX9_couldOf_92 : decode cX9_couldOf 92 = .ok (.goto 4, 3) := by decide +kernel
theorem dX9_couldOf_95 : decode cX9_couldOf 95 = .ok (.iconst 0, 1) := by decide +kernel
theorem dX9_couldOf_96 : decode cX9_couldOf 96 = .ok (.ior, 1) := by decide +kernel
theorem dX9_couldOf_97 : decode cX9_couldOf 97 = .ok (.istore_n 3, 1) := by decide +kernel
theorem dX9_couldOf_98 : decode cX9_couldOf 98 = .ok (.iinc 4 1, 3) := by decide +kernel
theorem dX9_couldOf_101 : decode cX9_couldOf 101 = .ok (.goto (-94), 3) := by decide +kernel
theorem dX9_couldOf_104 : decode cX9_couldOf 104 = .ok (.iload_n 1, 1) := by decide +kernel
theorem dX9_couldOf_105 : decode cX9_couldOf 105 = .ok (.iconst (-1), 1) := by decide +kernel
theorem dX9_couldOf_106 : decode cX9_couldOf 106 = .ok (.if_icmp .ne 7, 3) := by decide +kernel
theorem dX9_couldOf_109 : decode cX9_couldOf 109 = .ok (.iload_n 2, 1) := by decide +kernel
theorem dX9_couldOf_110 : decode cX9_couldOf 110 = .ok (.goto 4, 3) := by decide +kernel
theorem dX9_couldOf_113 : decode cX9_couldOf 113 = .ok (.iload_n 3, 1) := by decide +kernel
theorem dX9_couldOf_114 : decode cX9_couldOf 114 = .ok (.ireturn, 1) := by decide +kernel
set_option maxRecDepth 20000 in
theorem ggX9_could_X9_isSix : GoodIn wsX9_could wsX9_isSix := goodIn_r _ [4, 5, 6, 3, 7] (by decide +kernel) (by decide +kernel)
set_option maxRecDepth 20000 in
theorem gX9_could_X9_isSix : GoodIn wsX9_could (va_wsS RX9 74 yX9_isSix wsX9_isSix) := goodIn_app (goodIn_of _ (by decide +kernel)) ggX9_could_X9_isSix
set_option maxRecDepth 20000 in
theorem ggX9_could_X9_couldOf : GoodIn wsX9_could wsX9_couldOf := goodIn_r _ [11, 12, 13, 14, 15, 3, 16, 17, 18, 19, 20, 21, 22, 23, 24, 25, 26, 27, 28, 29, 30, 31, 32, 33, 34, 35, 36, 37, 38, 39, 40, 41, 42, 43, 44, 45, 46, 47, 48, 49, 50, 51, 52, 53] (by decide +kernel) (by decide +kernel)
set_option maxRecDepth 20000 in
theorem gX9_could_X9_couldOf : GoodIn wsX9_could (wsV RX9 192 RX9 yX9_couldOf wsX9_couldOf) := goodIn_app (goodIn_of _ (by decide +kernel)) ggX9_could_X9_couldOf
theorem dX9_could_0 : decode cX9_could 0 = .ok (.iload_n 1, 1) := by decide +kernel
theorem dX9_could_1 : decode cX9_could 1 = .ok (.iconst (-1), 1) := by decide +kernel
theorem dX9_could_2 : decode cX9_could 2 = .ok (.if_icmp .eq 10, 3) := by decide +kernel
theorem dX9_could_5 : decode cX9_could 5 = .ok (.iload_n 1, 1) := by decide +kernel
theorem dX9_could_6 : decode cX9_could 6 = .ok (.invokestatic 74, 3) := by decide +kernel
theorem dX9_could_9 : decode cX9_could 9 = .ok (.ifCond .eq 11, 3) := by decide +kernel
theorem dX9_could_12 : decode cX9_could 12 = .ok (.aload_n 0, 1) := by decide +kernel
theorem dX9_could_13 : decode cX9_could 13 = .ok (.iload_n 1, 1) := by decide +kernel
theorem dX9_could_14 : decode cX9_could 14 = .ok (.invokevirtual 192, 3) := by decide +kernel
theorem dX9_could_17 : decode cX9_could 17 = .ok (.goto 5, 3) := by decide +kernel
theorem dX9_could_20 : decode cX9_could 20 = .ok (.bipush (-2), 2) := by decide +kernel
theorem dX9_could_22 : decode cX9_could 22 = .ok (.ireturn, 1) := by decide +kernel
set_option maxRecDepth 20000 in
theorem ggX9_falseNow_X9_isSeen : GoodIn wsX9_falseNow wsX9_isSeen := goodIn_r _ [5, 6, 7, 8, 9, 10, 11, 12, 13, 14, 15, 16, 17, 18, 19, 20, 21, 22, 23, 24, 25, 26, 27, 28, 29, 30, 31, 32, 33, 34, 35] (by decide +kernel) (by decide +kernel)
set_option maxRecDepth 20000 in
theorem gX9_falseNow_X9_isSeen : GoodIn wsX9_falseNow (wsV RX9 189 RX9 yX9_isSeen wsX9_isSeen) := goodIn_app (goodIn_of _ (by decide +kernel)) ggX9_falseNow_X9_isSeen
theorem dX9_falseNow_0 : decode cX9_falseNow 0 = .ok (.iconst 0, 1) := by decide +kernel
theorem dX9_falseNow_1 : decode cX9_falseNow 1 = .ok (.istore_n 1, 1) := by decide +kernel
theorem dX9_falseNow_2 : decode cX9_falseNow 2 = .ok (.iconst 0, 1) := by decide +kernel
theorem dX9_falseNow_3 : decode cX9_falseNow 3 = .ok (.istore_n 2, 1) := by decide +kernel
theorem dX9_falseNow_4 : decode cX9_falseNow 4 = .ok (.iload_n 2, 1) := by decide +kernel
theorem dX9_falseNow_5 : decode cX9_falseNow 5 = .ok (.bipush 6, 2) := by decide +kernel
theorem dX9_falseNow_7 : decode cX9_falseNow 7 = .ok (.if_icmp .ge 61, 3) := by decide +kernel
theorem dX9_falseNow_10 : decode cX9_falseNow 10 = .ok (.iconst 0, 1) := by decide +kernel
theorem dX9_falseNow_11 : decode cX9_falseNow 11 = .ok (.istore_n 3, 1) := by decide +kernel
theorem dX9_falseNow_12 : decode cX9_falseNow 12 = .ok (.iconst 0, 1) := by decide +kernel
theorem dX9_falseNow_13 : decode cX9_falseNow 13 = .ok (.istore 4, 2) := by decide +kernel
theorem dX9_falseNow_15 : decode cX9_falseNow 15 = .ok (.iload 4, 2) := by decide +kernel
theorem dX9_falseNow_17 : decode cX9_falseNow 17 = .ok (.bipush 6, 2) := by decide +kernel
theorem dX9_falseNow_19 : decode cX9_falseNow 19 = .ok (.if_icmp .ge 29, 3) := by decide +kernel
theorem dX9_falseNow_22 : decode cX9_falseNow 22 = .ok (.iload_n 3, 1) := by decide +kernel
theorem dX9_falseNow_23 : decode cX9_falseNow 23 = .ok (.ifCond .ne 13, 3) := by decide +kernel
theorem dX9_falseNow_26 : decode cX9_falseNow 26 = .ok (.aload_n 0, 1) := by decide +kernel
theorem dX9_falseNow_27 : decode cX9_falseNow 27 = .ok (.iload 4, 2) := by decide +kernel
theorem dX9_falseNow_29 : decode cX9_falseNow 29 = .ok (.iload_n 2, 1) := by decide +kernel
theorem dX9_falseNow_30 : decode cX9_falseNow 30 = .ok (.invokevirtual 189, 3) := by decide +kernel
theorem dX9_falseNow_33 : decode cX9_falseNow 33 = .ok (.ifCond .eq 7, 3) := by decide +kernel
theorem dX9_falseNow_36 : decode cX9_falseNow 36 = .ok (.iconst 1, 1) := by decide +kernel
theorem dX9_falseNow_37 : decode cX9_falseNow 37 = .ok (.goto 4, 3) := by decide +kernel
theorem dX9_falseNow_40 : decode cX9_falseNow 40 = .ok (.iconst 0, 1) := by decide +kernel
theorem dX9_falseNow_41 : decode cX9_falseNow 41 = .ok (.istore_n 3, 1) := by decide +kernel
theorem dX9_falseNow_42 : decode cX9_falseNow 42 = .ok (.iinc 4 1, 3) := by decide +kernel
theorem dX9_falseNow_45 : decode cX9_falseNow 45 = .ok (.goto (-30), 3) := by decide +kernel
theorem dX9_falseNow_48 : decode cX9_falseNow 48 = .ok (.iload_n 1, 1) := by decide +kernel
theorem dX9_falseNow_49 : decode cX9_falseNow 49 = .ok (.iload_n 3, 1) := by decide +kernel
theorem dX9_falseNow_50 : decode cX9_falseNow 50 = .ok (.ifCond .eq 7, 3) := by decide +kernel
theorem dX9_falseNow_53 : decode cX9_falseNow 53 = .ok (.iconst 0, 1) := by decide +kernel
theorem dX9_falseNow_54 : decode cX9_falseNow 54 = .ok (.goto 6, 3) := by decide +kernel
theorem dX9_falseNow_57 : decode cX9_falseNow 57 = .ok (.iconst 1, 1) := by decide +kernel
theorem dX9_falseNow_58 : decode cX9_falseNow 58 = .ok (.iload_n 2, 1) := by decide +kernel
theorem dX9_falseNow_59 : decode cX9_falseNow 59 = .ok (.ishl, 1) := by decide +kernel
theorem dX9_falseNow_60 : decode cX9_falseNow 60 = .ok (.ior, 1) := by decide +kernel
theorem dX9_falseNow_61 : decode cX9_falseNow 61 = .ok (.istore_n 1, 1) := by decide +kernel
theorem dX9_falseNow_62 : decode cX9_falseNow 62 = .ok (.iinc 2 1, 3) := by decide +kernel
theorem dX9_falseNow_65 : decode cX9_falseNow 65 = .ok (.goto (-61), 3) := by decide +kernel
theorem dX9_falseNow_68 : decode cX9_falseNow 68 = .ok (.iload_n 1, 1) := by decide +kernel
theorem dX9_falseNow_69 : decode cX9_falseNow 69 = .ok (.ireturn, 1) := by decide +kernel
set_option maxRecDepth 20000 in
theorem ggX9_isFalse_X9_falseNow : GoodIn wsX9_isFalse wsX9_falseNow := goodIn_r _ [5, 6, 7, 8, 4, 9, 10, 11, 12, 13, 14, 15, 16, 17, 18, 19, 20, 21, 22, 23, 24, 25, 26, 27, 28, 29, 30, 31, 32, 33, 34, 35, 36, 37, 38, 39] (by decide +kernel) (by decide +kernel)
set_option maxRecDepth 20000 in
theorem gX9_isFalse_X9_falseNow : GoodIn wsX9_isFalse (wsV RX9 195 RX9 yX9_falseNow wsX9_falseNow) := goodIn_app (goodIn_of _ (by decide +kernel)) ggX9_isFalse_X9_falseNow
theorem dX9_isFalse_0 : decode cX9_isFalse 0 = .ok (.aload_n 0, 1) := by decide +kernel
theorem dX9_isFalse_1 : decode cX9_isFalse 1 = .ok (.invokevirtual 195, 3) := by decide +kernel
theorem dX9_isFalse_4 : decode cX9_isFalse 4 = .ok (.ireturn, 1) := by decide +kernel
theorem dX9_meets_0 : decode cX9_meets 0 = .ok (.aload_n 0, 1) := by decide +kernel
theorem dX9_meets_1 : decode cX9_meets 1 = .ok (.iload_n 1, 1) := by decide +kernel
theorem dX9_meets_2 : decode cX9_meets 2 = .ok (.putfield 198, 3) := by decide +kernel
theorem dX9_meets_5 : decode cX9_meets 5 = .ok (.bipush (-10), 2) := by decide +kernel
theorem dX9_meets_7 : decode cX9_meets 7 = .ok (.iload_n 1, 1) := by decide +kernel
theorem dX9_meets_8 : decode cX9_meets 8 = .ok (.isub, 1) := by decide +kernel
theorem dX9_meets_9 : decode cX9_meets 9 = .ok (.ireturn, 1) := by decide +kernel
set_option maxRecDepth 20000 in
theorem ggX9_isSheet_X9_in : GoodIn wsX9_isSheet wsX9_in := goodIn_r _ [4] (by decide +kernel) (by decide +kernel)
set_option maxRecDepth 20000 in
theorem gX9_isSheet_X9_in : GoodIn wsX9_isSheet (va_wsS RX9 70 yX9_in wsX9_in) := goodIn_app (goodIn_of _ (by decide +kernel)) ggX9_isSheet_X9_in
theorem dX9_isSheet_0 : decode cX9_isSheet 0 = .ok (.iload_n 0, 1) := by decide +kernel
theorem dX9_isSheet_1 : decode cX9_isSheet 1 = .ok (.iconst 0, 1) := by decide +kernel
theorem dX9_isSheet_2 : decode cX9_isSheet 2 = .ok (.iconst 3, 1) := by decide +kernel
theorem dX9_isSheet_3 : decode cX9_isSheet 3 = .ok (.invokestatic 70, 3) := by decide +kernel
theorem dX9_isSheet_6 : decode cX9_isSheet 6 = .ok (.ireturn, 1) := by decide +kernel
set_option maxRecDepth 20000 in
theorem ggX9_sheet_X9_isSheet : GoodIn wsX9_sheet wsX9_isSheet := goodIn_r _ [8, 9, 10, 7, 11] (by decide +kernel) (by decide +kernel)
set_option maxRecDepth 20000 in
theorem gX9_sheet_X9_isSheet : GoodIn wsX9_sheet (va_wsS RX9 100 yX9_isSheet wsX9_isSheet) := goodIn_app (goodIn_of _ (by decide +kernel)) ggX9_sheet_X9_isSheet
set_option maxRecDepth 20000 in
theorem ggX9_sheet_X9_in : GoodIn wsX9_sheet wsX9_in := goodIn_r _ [11] (by decide +kernel) (by decide +kernel)
set_option maxRecDepth 20000 in
theorem gX9_sheet_X9_in : GoodIn wsX9_sheet (va_wsS RX9 70 yX9_in wsX9_in) := goodIn_app (goodIn_of _ (by decide +kernel)) ggX9_sheet_X9_in
set_option maxRecDepth 20000 in
theorem ggX9_sheet_X9_meets : GoodIn wsX9_sheet wsX9_meets := goodIn_r _ [15, 16, 17, 18, 19, 20, 21, 22, 23, 24, 25, 26, 27, 28, 29, 30, 31, 32, 33, 34, 35, 36, 37, 38, 39, 40] (by decide +kernel) (by decide +kernel)
set_option maxRecDepth 20000 in
theorem gX9_sheet_X9_meets : GoodIn wsX9_sheet (wsV RX9 103 RX9 yX9_meets wsX9_meets) := goodIn_app (goodIn_of _ (by decide +kernel)) ggX9_sheet_X9_meets
theorem dX9_sheet_0 : decode cX9_sheet 0 = .ok (.iload_n 1, 1) := by decide +kernel
theorem dX9_sheet_1 : decode cX9_sheet 1 = .ok (.invokestatic 100, 3) := by decide +kernel
theorem dX9_sheet_4 : decode cX9_sheet 4 = .ok (.ifCond .eq 18, 3) := by decide +kernel
theorem dX9_sheet_7 : decode cX9_sheet 7 = .ok (.iload_n 2, 1) := by decide +kernel
theorem dX9_sheet_8 : decode cX9_sheet 8 = .ok (.iconst 0, 1) := by decide +kernel
theorem dX9_sheet_9 : decode cX9_sheet 9 = .ok (.iconst 2, 1) := by decide +kernel
theorem dX9_sheet_10 : decode cX9_sheet 10 = .ok (.invokestatic 70, 3) := by decide +kernel
theorem dX9_sheet_13 : decode cX9_sheet 13 = .ok (.ifCond .eq 9, 3) := by decide +kernel
theorem dX9_sheet_16 : decode cX9_sheet 16 = .ok (.iload_n 3, 1) := by decide +kernel
theorem dX9_sheet_17 : decode cX9_sheet 17 = .ok (.bipush 48, 2) := by decide +kernel
theorem dX9_sheet_19 : decode cX9_sheet 19 = .ok (.if_icmp .le 6, 3) := by decide +kernel
theorem dX9_sheet_22 : decode cX9_sheet 22 = .ok (.bipush (-2), 2) := by decide +kernel
theorem dX9_sheet_24 : decode cX9_sheet 24 = .ok (.ireturn, 1) := by decide +kernel
theorem dX9_sheet_25 : decode cX9_sheet 25 = .ok (.iload_n 3, 1) := by decide +kernel
theorem dX9_sheet_26 : decode cX9_sheet 26 = .ok (.ifCond .ge 9, 3) := by decide +kernel
theorem dX9_sheet_29 : decode cX9_sheet 29 = .ok (.aload_n 0, 1) := by decide +kernel
theorem dX9_sheet_30 : decode cX9_sheet 30 = .ok (.iconst 5, 1) := by decide +kernel
theorem dX9_sheet_31 : decode cX9_sheet 31 = .ok (.invokevirtual 103, 3) := by decide +kernel
theorem dX9_sheet_34 : decode cX9_sheet 34 = .ok (.ireturn, 1) := by decide +kernel
theorem dX9_sheet_35 : decode cX9_sheet 35 = .ok (.aload_n 0, 1) := by decide +kernel
theorem dX9_sheet_36 : decode cX9_sheet 36 = .ok (.getfield 52, 3) := by decide +kernel
theorem dX9_sheet_39 : decode cX9_sheet 39 = .ok (.iload_n 1, 1) := by decide +kernel
theorem dX9_sheet_40 : decode cX9_sheet 40 = .ok (.iconst 1, 1) := by decide +kernel
theorem dX9_sheet_41 : decode cX9_sheet 41 = .ok (.bastore, 1) := by decide +kernel
theorem dX9_sheet_42 : decode cX9_sheet 42 = .ok (.aload_n 0, 1) := by decide +kernel
theorem dX9_sheet_43 : decode cX9_sheet 43 = .ok (.getfield 56, 3) := by decide +kernel
theorem dX9_sheet_46 : decode cX9_sheet 46 = .ok (.iload_n 1, 1) := by decide +kernel
theorem dX9_sheet_47 : decode cX9_sheet 47 = .ok (.iload_n 2, 1) := by decide +kernel
theorem dX9_sheet_48 : decode cX9_sheet 48 = .ok (.iastore, 1) := by decide +kernel
theorem dX9_sheet_49 : decode cX9_sheet 49 = .ok (.aload_n 0, 1) := by decide +kernel
theorem dX9_sheet_50 : decode cX9_sheet 50 = .ok (.getfield 59, 3) := by decide +kernel
theorem dX9_sheet_53 : decode cX9_sheet 53 = .ok (.iload_n 1, 1) := by decide +kernel
theorem dX9_sheet_54 : decode cX9_sheet 54 = .ok (.iload_n 3, 1) := by decide +kernel
theorem dX9_sheet_55 : decode cX9_sheet 55 = .ok (.iastore, 1) := by decide +kernel
theorem dX9_sheet_56 : decode cX9_sheet 56 = .ok (.iconst 0, 1) := by decide +kernel
theorem dX9_sheet_57 : decode cX9_sheet 57 = .ok (.istore 4, 2) := by decide +kernel
theorem dX9_sheet_59 : decode cX9_sheet 59 = .ok (.iload 4, 2) := by decide +kernel
theorem dX9_sheet_61 : decode cX9_sheet 61 = .ok (.bipush 48, 2) := by decide +kernel
theorem dX9_sheet_63 : decode cX9_sheet 63 = .ok (.if_icmp .ge 22, 3) := by decide +kernel
theorem dX9_sheet_66 : decode cX9_sheet 66 = .ok (.aload_n 0, 1) := by decide +kernel
theorem dX9_sheet_67 : decode cX9_sheet 67 = .ok (.getfield 62, 3) := by decide +kernel
theorem dX9_sheet_70 : decode cX9_sheet 70 = .ok (.bipush 48, 2) := by decide +kernel
theorem dX9_sheet_72 : decode cX9_sheet 72 = .ok (.iload_n 1, 1) := by decide +kernel
theorem dX9_sheet_73 : decode cX9_sheet 73 = .ok (.imul, 1) := by decide +kernel
theorem dX9_sheet_74 : decode cX9_sheet 74 = .ok (.iload 4, 2) := by decide +kernel
theorem dX9_sheet_76 : decode cX9_sheet 76 = .ok (.iadd, 1) := by decide +kernel
theorem dX9_sheet_77 : decode cX9_sheet 77 = .ok (.iconst 0, 1) := by decide +kernel
theorem dX9_sheet_78 : decode cX9_sheet 78 = .ok (.iastore, 1) := by decide +kernel
theorem dX9_sheet_79 : decode cX9_sheet 79 = .ok (.iinc 4 1, 3) := by decide +kernel
theorem dX9_sheet_82 : decode cX9_sheet 82 = .ok (.goto (-23), 3) := by decide +kernel
theorem dX9_sheet_85 : decode cX9_sheet 85 = .ok (.iload_n 3, 1) := by decide +kernel
theorem dX9_sheet_86 : decode cX9_sheet 86 = .ok (.ireturn, 1) := by decide +kernel
set_option maxRecDepth 20000 in
theorem ggX9_lose_X9_isSheet : GoodIn wsX9_lose wsX9_isSheet := goodIn_r _ [6, 7, 8, 5, 9] (by decide +kernel) (by decide +kernel)
set_option maxRecDepth 20000 in
theorem gX9_lose_X9_isSheet : GoodIn wsX9_lose (va_wsS RX9 100 yX9_isSheet wsX9_isSheet) := goodIn_app (goodIn_of _ (by decide +kernel)) ggX9_lose_X9_isSheet
set_option maxRecDepth 20000 in
theorem ggX9_lose_X9_meets : GoodIn wsX9_lose wsX9_meets := goodIn_r _ [13, 14, 15, 16, 17, 18, 19, 20, 21, 22, 23, 24, 25, 26, 27, 28, 29, 30, 31, 32, 33, 34, 35, 36, 37, 38] (by decide +kernel) (by decide +kernel)
set_option maxRecDepth 20000 in
theorem gX9_lose_X9_meets : GoodIn wsX9_lose (wsV RX9 103 RX9 yX9_meets wsX9_meets) := goodIn_app (goodIn_of _ (by decide +kernel)) ggX9_lose_X9_meets
theorem dX9_lose_0 : decode cX9_lose 0 = .ok (.iload_n 1, 1) := by decide +kernel
theorem dX9_lose_1 : decode cX9_lose 1 = .ok (.invokestatic 100, 3) := by decide +kernel
theorem dX9_lose_4 : decode cX9_lose 4 = .ok (.ifCond .ne 6, 3) := by decide +kernel
theorem dX9_lose_7 : decode cX9_lose 7 = .ok (.bipush (-2), 2) := by decide +kernel
theorem dX9_lose_9 : decode cX9_lose 9 = .ok (.ireturn, 1) := by decide +kernel
theorem dX9_lose_10 : decode cX9_lose 10 = .ok (.aload_n 0, 1) := by decide +kernel
theorem dX9_lose_11 : decode cX9_lose 11 = .ok (.getfield 52, 3) := by decide +kernel
theorem dX9_lose_14 : decode cX9_lose 14 = .ok (.iload_n 1, 1) := by decide +kernel
theorem dX9_lose_15 : decode cX9_lose 15 = .ok (.baload, 1) := by decide +kernel
theorem dX9_lose_16 : decode cX9_lose 16 = .ok (.ifCond .ne 9, 3) := by decide +kernel
theorem dX9_lose_19 : decode cX9_lose 19 = .ok (.aload_n 0, 1) := by decide +kernel
theorem dX9_lose_20 : decode cX9_lose 20 = .ok (.iconst 1, 1) := by decide +kernel
theorem dX9_lose_21 : decode cX9_lose 21 = .ok (.invokevirtual 103, 3) := by decide +kernel
theorem dX9_lose_24 : decode cX9_lose 24 = .ok (.ireturn, 1) := by decide +kernel
theorem dX9_lose_25 : decode cX9_lose 25 = .ok (.aload_n 0, 1) := by decide +kernel
theorem dX9_lose_26 : decode cX9_lose 26 = .ok (.getfield 52, 3) := by decide +kernel
theorem dX9_lose_29 : decode cX9_lose 29 = .ok (.iload_n 1, 1) := by decide +kernel
theorem dX9_lose_30 : decode cX9_lose 30 = .ok (.iconst 0, 1) := by decide +kernel
theorem dX9_lose_31 : decode cX9_lose 31 = .ok (.bastore, 1) := by decide +kernel
theorem dX9_lose_32 : decode cX9_lose 32 = .ok (.aload_n 0, 1) := by decide +kernel
theorem dX9_lose_33 : decode cX9_lose 33 = .ok (.getfield 59, 3) := by decide +kernel
theorem dX9_lose_36 : decode cX9_lose 36 = .ok (.iload_n 1, 1) := by decide +kernel
theorem dX9_lose_37 : decode cX9_lose 37 = .ok (.iaload, 1) := by decide +kernel
theorem dX9_lose_38 : decode cX9_lose 38 = .ok (.ireturn, 1) := by decide +kernel
set_option maxRecDepth 20000 in
theorem ggX9_lacks_X9_in : GoodIn wsX9_lacks wsX9_in := goodIn_r _ [7] (by decide +kernel) (by decide +kernel)
set_option maxRecDepth 20000 in
theorem gX9_lacks_X9_in : GoodIn wsX9_lacks (va_wsS RX9 70 yX9_in wsX9_in) := goodIn_app (goodIn_of _ (by decide +kernel)) ggX9_lacks_X9_in
theorem dX9_lacks_0 : decode cX9_lacks 0 = .ok (.aload_n 0, 1) := by decide +kernel
theorem dX9_lacks_1 : decode cX9_lacks 1 = .ok (.getfield 52, 3) := by decide +kernel
theorem dX9_lacks_4 : decode cX9_lacks 4 = .ok (.iload_n 1, 1) := by decide +kernel
theorem dX9_lacks_5 : decode cX9_lacks 5 = .ok (.baload, 1) := by decide +kernel
theorem dX9_lacks_6 : decode cX9_lacks 6 = .ok (.ifCond .ne 7, 3) := by decide +kernel
theorem dX9_lacks_9 : decode cX9_lacks 9 = .ok (.iconst 1, 1) := by decide +kernel
theorem dX9_lacks_10 : decode cX9_lacks 10 = .ok (.goto 38, 3) := by decide +kernel
theorem dX9_lacks_13 : decode cX9_lacks 13 = .ok (.aload_n 0, 1) := by decide +kernel
theorem dX9_lacks_14 : decode cX9_lacks 14 = .ok (.getfield 56, 3) := by decide +kernel
theorem dX9_lacks_17 : decode cX9_lacks 17 = .ok (.iload_n 1, 1) := by decide +kernel
theorem dX9_lacks_18 : decode cX9_lacks 18 = .ok (.iaload, 1) := by decide +kernel
theorem dX9_lacks_19 : decode cX9_lacks 19 = .ok (.iload_n 2, 1) := by decide +kernel
theorem dX9_lacks_20 : decode cX9_lacks 20 = .ok (.if_icmp .eq 7, 3) := by decide +kernel
theorem dX9_lacks_23 : decode cX9_lacks 23 = .ok (.iconst 3, 1) := by decide +kernel
theorem dX9_lacks_24 : decode cX9_lacks 24 = .ok (.goto 24, 3) := by decide +kernel
theorem dX9_lacks_27 : decode cX9_lacks 27 = .ok (.iload_n 3, 1) := by decide +kernel
theorem dX9_lacks_28 : decode cX9_lacks 28 = .ok (.iconst 0, 1) := by decide +kernel
theorem dX9_lacks_29 : decode cX9_lacks 29 = .ok (.aload_n 0, 1) := by decide +kernel
theorem dX9_lacks_30 : decode cX9_lacks 30 = .ok (.getfield 59, 3) := by decide +kernel
theorem dX9_lacks_33 : decode cX9_lacks 33 = .ok (.iload_n 1, 1) := by decide +kernel
theorem dX9_lacks_34 : decode cX9_lacks 34 = .ok (.iaload, 1) := by decide +kernel
theorem dX9_lacks_35 : decode cX9_lacks 35 = .ok (.iconst 1, 1) := by decide +kernel
theorem dX9_lacks_36 : decode cX9_lacks 36 = .ok (.isub, 1) := by decide +kernel
theorem dX9_lacks_37 : decode cX9_lacks 37 = .ok (.invokestatic 70, 3) := by decide +kernel
theorem dX9_lacks_40 : decode cX9_lacks 40 = .ok (.ifCond .eq 7, 3) := by decide +kernel
theorem dX9_lacks_43 : decode cX9_lacks 43 = .ok (.iconst 0, 1) := by decide +kernel
theorem dX9_lacks_44 : decode cX9_lacks 44 = .ok (.goto 4, 3) := by decide +kernel
theorem dX9_lacks_47 : decode cX9_lacks 47 = .ok (.iconst 2, 1) := by decide +kernel
theorem dX9_lacks_48 : decode cX9_lacks 48 = .ok (.ireturn, 1) := by decide +kernel
theorem dX9_keep_0 : decode cX9_keep 0 = .ok (.aload_n 0, 1) := by decide +kernel
theorem dX9_keep_1 : decode cX9_keep 1 = .ok (.getfield 62, 3) := by decide +kernel
theorem dX9_keep_4 : decode cX9_keep 4 = .ok (.bipush 48, 2) := by decide +kernel
theorem dX9_keep_6 : decode cX9_keep 6 = .ok (.iload_n 1, 1) := by decide +kernel
theorem dX9_keep_7 : decode cX9_keep 7 = .ok (.imul, 1) := by decide +kernel
theorem dX9_keep_8 : decode cX9_keep 8 = .ok (.iload_n 2, 1) := by decide +kernel
theorem dX9_keep_9 : decode cX9_keep 9 = .ok (.iadd, 1) := by decide +kernel
theorem dX9_keep_10 : decode cX9_keep 10 = .ok (.aload_n 0, 1) := by decide +kernel
theorem dX9_keep_11 : decode cX9_keep 11 = .ok (.getfield 56, 3) := by decide +kernel
theorem dX9_keep_14 : decode cX9_keep 14 = .ok (.iload_n 1, 1) := by decide +kernel
theorem dX9_keep_15 : decode cX9_keep 15 = .ok (.iaload, 1) := by decide +kernel
theorem dX9_keep_16 : decode cX9_keep 16 = .ok (.ifCond .ne 8, 3) := by decide +kernel
theorem dX9_keep_19 : decode cX9_keep 19 = .ok (.iload_n 3, 1) := by decide +kernel
theorem dX9_keep_20 : decode cX9_keep 20 = .ok (.i2b, 1) := by decide +kernel
theorem dX9_keep_21 : decode cX9_keep 21 = .ok (.goto 19, 3) := by decide +kernel
theorem dX9_keep_24 : decode cX9_keep 24 = .ok (.aload_n 0, 1) := by decide +kernel
theorem dX9_keep_25 : decode cX9_keep 25 = .ok (.getfield 56, 3) := by decide +kernel
theorem dX9_keep_28 : decode cX9_keep 28 = .ok (.iload_n 1, 1) := by decide +kernel
theorem dX9_keep_29 : decode cX9_keep 29 = .ok (.iaload, 1) := by decide +kernel
theorem dX9_keep_30 : decode cX9_keep 30 = .ok (.iconst 1, 1) := by decide +kernel
theorem dX9_keep_31 : decode cX9_keep 31 = .ok (.if_icmp .ne 8, 3) := by decide +kernel
theorem dX9_keep_34 : decode cX9_keep 34 = .ok (.iload_n 3, 1) := by decide +kernel
theorem dX9_keep_35 : decode cX9_keep 35 = .ok (.i2s, 1) := by decide +kernel
theorem dX9_keep_36 : decode cX9_keep 36 = .ok (.goto 4, 3) := by decide +kernel
theorem dX9_keep_39 : decode cX9_keep 39 = .ok (.iload_n 3, 1) := by decide +kernel
theorem dX9_keep_40 : decode cX9_keep 40 = .ok (.iastore, 1) := by decide +kernel
theorem dX9_keep_41 : decode cX9_keep 41 = .ok (.return_, 1) := by decide +kernel
set_option maxRecDepth 20000 in
theorem ggX9_put_X9_isSheet : GoodIn wsX9_put wsX9_isSheet := goodIn_r _ [4, 5, 6, 3, 7] (by decide +kernel) (by decide +kernel)
set_option maxRecDepth 20000 in
theorem gX9_put_X9_isSheet : GoodIn wsX9_put (va_wsS RX9 100 yX9_isSheet wsX9_isSheet) := goodIn_app (goodIn_of _ (by decide +kernel)) ggX9_put_X9_isSheet
set_option maxRecDepth 20000 in
theorem ggX9_put_X9_in : GoodIn wsX9_put wsX9_in := goodIn_r _ [7] (by decide +kernel) (by decide +kernel)
set_option maxRecDepth 20000 in
theorem gX9_put_X9_in : GoodIn wsX9_put (va_wsS RX9 70 yX9_in wsX9_in) := goodIn_app (goodIn_of _ (by decide +kernel)) ggX9_put_X9_in
set_option maxRecDepth 20000 in
theorem ggX9_put_X9_lacks : GoodIn wsX9_put wsX9_lacks := goodIn_r _ [11, 12, 13, 14, 5, 6, 3, 7, 25, 26, 27, 28, 29, 30, 31, 32, 33, 34, 35, 36, 37, 38, 39, 40, 41, 42, 43, 44, 45, 46, 47, 48] (by decide +kernel) (by decide +kernel)
set_option maxRecDepth 20000 in
theorem gX9_put_X9_lacks : GoodIn wsX9_put (wsV RX9 201 RX9 yX9_lacks wsX9_lacks) := goodIn_app (goodIn_of _ (by decide +kernel)) ggX9_put_X9_lacks
set_option maxRecDepth 20000 in
theorem ggX9_put_X9_meets : GoodIn wsX9_put wsX9_meets := goodIn_r _ [18, 19, 25, 26, 27, 28, 29, 30, 31, 32, 33, 34, 35, 36, 37, 38, 39, 40, 41, 42, 43, 44, 45, 46, 47, 48] (by decide +kernel) (by decide +kernel)
set_option maxRecDepth 20000 in
theorem gX9_put_X9_meets : GoodIn wsX9_put (wsV RX9 103 RX9 yX9_meets wsX9_meets) := goodIn_app (goodIn_of _ (by decide +kernel)) ggX9_put_X9_meets
set_option maxRecDepth 20000 in
theorem ggX9_put_X9_keep : GoodIn wsX9_put wsX9_keep := goodIn_r _ [23, 24, 13, 25, 26, 27, 28, 29, 30, 31, 32, 33, 34, 35, 36, 37, 38, 39, 40, 41, 42, 43, 44, 45, 46, 47, 48] (by decide +kernel) (by decide +kernel)
set_option maxRecDepth 20000 in
theorem gX9_put_X9_keep : GoodIn wsX9_put (wsV RX9 204 RX9 yX9_keep wsX9_keep) := goodIn_app (goodIn_of _ (by decide +kernel)) ggX9_put_X9_keep
theorem dX9_put_0 : decode cX9_put 0 = .ok (.iload_n 1, 1) := by decide +kernel
theorem dX9_put_1 : decode cX9_put 1 = .ok (.invokestatic 100, 3) := by decide +kernel
theorem dX9_put_4 : decode cX9_put 4 = .ok (.ifCond .eq 12, 3) := by decide +kernel
theorem dX9_put_7 : decode cX9_put 7 = .ok (.iload_n 2, 1) := by decide +kernel
theorem dX9_put_8 : decode cX9_put 8 = .ok (.iconst 0, 1) := by decide +kernel
theorem dX9_put_9 : decode cX9_put 9 = .ok (.iconst 2, 1) := by decide +kernel
theorem dX9_put_10 : decode cX9_put 10 = .ok (.invokestatic 70, 3) := by decide +kernel
theorem dX9_put_13 : decode cX9_put 13 = .ok (.ifCond .ne 6, 3) := by decide +kernel
theorem dX9_put_16 : decode cX9_put 16 = .ok (.bipush (-2), 2) := by decide +kernel
theorem dX9_put_18 : decode cX9_put 18 = .ok (.ireturn, 1) := by decide +kernel
theorem dX9_put_19 : decode cX9_put 19 = .ok (.aload_n 0, 1) := by decide +kernel
theorem dX9_put_20 : decode cX9_put 20 = .ok (.iload_n 1, 1) := by decide +kernel
theorem dX9_put_21 : decode cX9_put 21 = .ok (.iload_n 2, 1) := by decide +kernel
theorem dX9_put_22 : decode cX9_put 22 = .ok (.iload_n 3, 1) := by decide +kernel
theorem dX9_put_23 : decode cX9_put 23 = .ok (.invokevirtual 201, 3) := by decide +kernel
theorem dX9_put_26 : decode cX9_put 26 = .ok (.istore 5, 2) := by decide +kernel
theorem dX9_put_28 : decode cX9_put 28 = .ok (.iload 5, 2) := by decide +kernel
theorem dX9_put_30 : decode cX9_put 30 = .ok (.ifCond .le 10, 3) := by decide +kernel
theorem dX9_put_33 : decode cX9_put 33 = .ok (.aload_n 0, 1) := by decide +kernel
theorem dX9_put_34 : decode cX9_put 34 = .ok (.iload 5, 2) := by decide +kernel
theorem dX9_put_36 : decode cX9_put 36 = .ok (.invokevirtual 103, 3) := by decide +kernel
theorem dX9_put_39 : decode cX9_put 39 = .ok (.ireturn, 1) := by decide +kernel
theorem dX9_put_40 : decode cX9_put 40 = .ok (.aload_n 0, 1) := by decide +kernel
theorem dX9_put_41 : decode cX9_put 41 = .ok (.iload_n 1, 1) := by decide +kernel
theorem dX9_put_42 : decode cX9_put 42 = .ok (.iload_n 3, 1) := by decide +kernel
theorem dX9_put_43 : decode cX9_put 43 = .ok (.iload 4, 2) := by decide +kernel
theorem dX9_put_45 : decode cX9_put 45 = .ok (.invokevirtual 204, 3) := by decide +kernel
theorem dX9_put_48 : decode cX9_put 48 = .ok (.iconst 1, 1) := by decide +kernel
theorem dX9_put_49 : decode cX9_put 49 = .ok (.ireturn, 1) := by decide +kernel
set_option maxRecDepth 20000 in
theorem ggX9_get_X9_isSheet : GoodIn wsX9_get wsX9_isSheet := goodIn_r _ [7, 8, 9, 6, 10] (by decide +kernel) (by decide +kernel)
set_option maxRecDepth 20000 in
theorem gX9_get_X9_isSheet : GoodIn wsX9_get (va_wsS RX9 100 yX9_isSheet wsX9_isSheet) := goodIn_app (goodIn_of _ (by decide +kernel)) ggX9_get_X9_isSheet
set_option maxRecDepth 20000 in
theorem ggX9_get_X9_in : GoodIn wsX9_get wsX9_in := goodIn_r _ [10] (by decide +kernel) (by decide +kernel)
set_option maxRecDepth 20000 in
theorem gX9_get_X9_in : GoodIn wsX9_get (va_wsS RX9 70 yX9_in wsX9_in) := goodIn_app (goodIn_of _ (by decide +kernel)) ggX9_get_X9_in
set_option maxRecDepth 20000 in
theorem ggX9_get_X9_lacks : GoodIn wsX9_get wsX9_lacks := goodIn_r _ [14, 15, 16, 17, 8, 9, 6, 10, 18, 19, 20, 21, 22, 23, 24, 25, 26, 27, 28, 29, 30, 31, 32, 33, 34, 35, 36, 37, 38, 39, 40, 41] (by decide +kernel) (by decide +kernel)
set_option maxRecDepth 20000 in
theorem gX9_get_X9_lacks : GoodIn wsX9_get (wsV RX9 201 RX9 yX9_lacks wsX9_lacks) := goodIn_app (goodIn_of _ (by decide +kernel)) ggX9_get_X9_lacks
theorem dX9_get_0 : decode cX9_get 0 = .ok (.iload_n 1, 1) := by decide +kernel
theorem dX9_get_1 : decode cX9_get 1 = .ok (.invokestatic 100, 3) := by decide +kernel
theorem dX9_get_4 : decode cX9_get 4 = .ok (.ifCond .eq 12, 3) := by decide +kernel
theorem dX9_get_7 : decode cX9_get 7 = .ok (.iload_n 2, 1) := by decide +kernel
theorem dX9_get_8 : decode cX9_get 8 = .ok (.iconst 0, 1) := by decide +kernel
theorem dX9_get_9 : decode cX9_get 9 = .ok (.iconst 2, 1) := by decide +kernel
theorem dX9_get_10 : decode cX9_get 10 = .ok (.invokestatic 70, 3) := by decide +kernel
theorem dX9_get_13 : decode cX9_get 13 = .ok (.ifCond .ne 6, 3) := by decide +kernel
theorem dX9_get_16 : decode cX9_get 16 = .ok (.ldc 208, 2) := by decide +kernel
theorem dX9_get_18 : decode cX9_get 18 = .ok (.ireturn, 1) := by decide +kernel
theorem dX9_get_19 : decode cX9_get 19 = .ok (.aload_n 0, 1) := by decide +kernel
theorem dX9_get_20 : decode cX9_get 20 = .ok (.iload_n 1, 1) := by decide +kernel
theorem dX9_get_21 : decode cX9_get 21 = .ok (.iload_n 2, 1) := by decide +kernel
theorem dX9_get_22 : decode cX9_get 22 = .ok (.iload_n 3, 1) := by decide +kernel
theorem dX9_get_23 : decode cX9_get 23 = .ok (.invokevirtual 201, 3) := by decide +kernel
theorem dX9_get_26 : decode cX9_get 26 = .ok (.istore 4, 2) := by decide +kernel
theorem dX9_get_28 : decode cX9_get 28 = .ok (.iload 4, 2) := by decide +kernel
theorem dX9_get_30 : decode cX9_get 30 = .ok (.ifCond .le 12, 3) := by decide +kernel
theorem dX9_get_33 : decode cX9_get 33 = .ok (.aload_n 0, 1) := by decide +kernel
theorem dX9_get_34 : decode cX9_get 34 = .ok (.iload 4, 2) := by decide +kernel
theorem dX9_get_36 : decode cX9_get 36 = .ok (.putfield 198, 3) := by decide +kernel
theorem dX9_get_39 : decode cX9_get 39 = .ok (.ldc 208, 2) := by decide +kernel
theorem dX9_get_41 : decode cX9_get 41 = .ok (.ireturn, 1) := by decide +kernel
theorem dX9_get_42 : decode cX9_get 42 = .ok (.aload_n 0, 1) := by decide +kernel
theorem dX9_get_43 : decode cX9_get 43 = .ok (.getfield 62, 3) := by decide +kernel
theorem dX9_get_46 : decode cX9_get 46 = .ok (.bipush 48, 2) := by decide +kernel
theorem dX9_get_48 : decode cX9_get 48 = .ok (.iload_n 1, 1) := by decide +kernel
theorem dX9_get_49 : decode cX9_get 49 = .ok (.imul, 1) := by decide +kernel
theorem dX9_get_50 : decode cX9_get 50 = .ok (.iload_n 3, 1) := by decide +kernel
theorem dX9_get_51 : decode cX9_get 51 = .ok (.iadd, 1) := by decide +kernel
theorem dX9_get_52 : decode cX9_get 52 = .ok (.iaload, 1) := by decide +kernel
theorem dX9_get_53 : decode cX9_get 53 = .ok (.ireturn, 1) := by decide +kernel
set_option maxRecDepth 20000 in
theorem ggX9_copy_X9_isSheet : GoodIn wsX9_copy wsX9_isSheet := goodIn_r _ [9, 10, 11, 8, 12] (by decide +kernel) (by decide +kernel)
set_option maxRecDepth 20000 in
theorem gX9_copy_X9_isSheet : GoodIn wsX9_copy (va_wsS RX9 100 yX9_isSheet wsX9_isSheet) := goodIn_app (goodIn_of _ (by decide +kernel)) ggX9_copy_X9_isSheet
set_option maxRecDepth 20000 in
theorem ggX9_copy_X9_meets : GoodIn wsX9_copy wsX9_meets := goodIn_r _ [16, 17, 18, 19, 20, 21, 22, 23, 24, 25, 26, 27, 28, 29, 30, 31, 32, 33, 34, 35, 36, 37, 38, 39, 40, 41] (by decide +kernel) (by decide +kernel)
set_option maxRecDepth 20000 in
theorem gX9_copy_X9_meets : GoodIn wsX9_copy (wsV RX9 103 RX9 yX9_meets wsX9_meets) := goodIn_app (goodIn_of _ (by decide +kernel)) ggX9_copy_X9_meets
theorem dX9_copy_0 : decode cX9_copy 0 = .ok (.iload_n 1, 1) := by decide +kernel
theorem dX9_copy_1 : decode cX9_copy 1 = .ok (.invokestatic 100, 3) := by decide +kernel
theorem dX9_copy_4 : decode cX9_copy 4 = .ok (.ifCond .eq 10, 3) := by decide +kernel
theorem dX9_copy_7 : decode cX9_copy 7 = .ok (.iload_n 3, 1) := by decide +kernel
theorem dX9_copy_8 : decode cX9_copy 8 = .ok (.invokestatic 100, 3) := by decide +kernel
theorem dX9_copy_11 : decode cX9_copy 11 = .ok (.ifCond .ne 6, 3) := by decide +kernel
theorem dX9_copy_14 : decode cX9_copy 14 = .ok (.bipush (-2), 2) := by decide +kernel
theorem dX9_copy_16 : decode cX9_copy 16 = .ok (.ireturn, 1) := by decide +kernel
theorem dX9_copy_17 : decode cX9_copy 17 = .ok (.aload_n 0, 1) := by decide +kernel
theorem dX9_copy_18 : decode cX9_copy 18 = .ok (.getfield 52, 3) := by decide +kernel
theorem dX9_copy_21 : decode cX9_copy 21 = .ok (.iload_n 1, 1) := by decide +kernel
theorem dX9_copy_22 : decode cX9_copy 22 = .ok (.baload, 1) := by decide +kernel
theorem dX9_copy_23 : decode cX9_copy 23 = .ok (.ifCond .eq 12, 3) := by decide +kernel
theorem dX9_copy_26 : decode cX9_copy 26 = .ok (.aload_n 0, 1) := by decide +kernel
theorem dX9_copy_27 : decode cX9_copy 27 = .ok (.getfield 52, 3) := by decide +kernel
theorem dX9_copy_30 : decode cX9_copy 30 = .ok (.iload_n 3, 1) := by decide +kernel
theorem dX9_copy_31 : decode cX9_copy 31 = .ok (.baload, 1) := by decide +kernel
theorem dX9_copy_32 : decode cX9_copy 32 = .ok (.ifCond .ne 9, 3) := by decide +kernel
theorem dX9_copy_35 : decode cX9_copy 35 = .ok (.aload_n 0, 1) := by decide +kernel
theorem dX9_copy_36 : decode cX9_copy 36 = .ok (.iconst 1, 1) := by decide +kernel
theorem dX9_copy_37 : decode cX9_copy 37 = .ok (.invokevirtual 103, 3) := by decide +kernel
theorem dX9_copy_40 : decode cX9_copy 40 = .ok (.ireturn, 1) := by decide +kernel
theorem dX9_copy_41 : decode cX9_copy 41 = .ok (.aload_n 0, 1) := by decide +kernel
theorem dX9_copy_42 : decode cX9_copy 42 = .ok (.getfield 56, 3) := by decide +kernel
theorem dX9_copy_45 : decode cX9_copy 45 = .ok (.iload_n 1, 1) := by decide +kernel
theorem dX9_copy_46 : decode cX9_copy 46 = .ok (.iaload, 1) := by decide +kernel
theorem dX9_copy_47 : decode cX9_copy 47 = .ok (.aload_n 0, 1) := by decide +kernel
theorem dX9_copy_48 : decode cX9_copy 48 = .ok (.getfield 56, 3) := by decide +kernel
theorem dX9_copy_51 : decode cX9_copy 51 = .ok (.iload_n 3, 1) := by decide +kernel
theorem dX9_copy_52 : decode cX9_copy 52 = .ok (.iaload, 1) := by decide +kernel
theorem dX9_copy_53 : decode cX9_copy 53 = .ok (.if_icmp .eq 9, 3) := by decide +kernel
theorem dX9_copy_56 : decode cX9_copy 56 = .ok (.aload_n 0, 1) := by decide +kernel
theorem dX9_copy_57 : decode cX9_copy 57 = .ok (.iconst 4, 1) := by decide +kernel
theorem dX9_copy_58 : decode cX9_copy 58 = .ok (.invokevirtual 103, 3) := by decide +kernel
theorem dX9_copy_61 : decode cX9_copy 61 = .ok (.ireturn, 1) := by decide +kernel
theorem dX9_copy_62 : decode cX9_copy 62 = .ok (.iload_n 2, 1) := by decide +kernel
theorem dX9_copy_63 : decode cX9_copy 63 = .ok (.ifCond .lt 48, 3) := by decide +kernel
theorem dX9_copy_66 : decode cX9_copy 66 = .ok (.iload 4, 2) := by decide +kernel
theorem dX9_copy_68 : decode cX9_copy 68 = .ok (.ifCond .lt 43, 3) := by decide +kernel
theorem dX9_copy_71 : decode cX9_copy 71 = .ok (.iload 5, 2) := by decide +kernel
theorem dX9_copy_73 : decode cX9_copy 73 = .ok (.ifCond .lt 38, 3) := by decide +kernel
theorem dX9_copy_76 : decode cX9_copy 76 = .ok (.iload_n 2, 1) := by decide +kernel
theorem dX9_copy_77 : decode cX9_copy 77 = .ok (.i2l, 1) := by decide +kernel
theorem dX9_copy_78 : decode cX9_copy 78 = .ok (.iload 5, 2) := by decide +kernel
theorem dX9_copy_80 : decode cX9_copy 80 = .ok (.i2l, 1) := by decide +kernel
theorem dX9_copy_81 : decode cX9_copy 81 = .ok (.ladd, 1) := by decide +kernel
theorem dX9_copy_82 : decode cX9_copy 82 = .ok (.aload_n 0, 1) := by decide +kernel
theorem dX9_copy_83 : decode cX9_copy 83 = .ok (.getfield 59, 3) := by decide +kernel
theorem dX9_copy_86 : decode cX9_copy 86 = .ok (.iload_n 1, 1) := by decide +kernel
theorem dX9_copy_87 : decode cX9_copy 87 = .ok (.iaload, 1) := by decide +kernel
theorem dX9_copy_88 : decode cX9_copy 88 = .ok (.i2l, 1) := by decide +kernel
theorem dX9_copy_89 : decode cX9_copy 89 = .ok (.lcmp, 1) := by decide +kernel
theorem dX9_copy_90 : decode cX9_copy 90 = .ok (.ifCond .gt 21, 3) := by decide +kernel
theorem dX9_copy_93 : decode cX9_copy 93 = .ok (.iload 4, 2) := by decide +kernel
theorem dX9_copy_95 : decode cX9_copy 95 = .ok (.i2l, 1) := by decide +kernel
theorem dX9_copy_96 : decode cX9_copy 96 = .ok (.iload 5, 2) := by decide +kernel
theorem dX9_copy_98 : decode cX9_copy 98 = .ok (.i2l, 1) := by decide +kernel
theorem dX9_copy_99 : decode cX9_copy 99 = .ok (.ladd, 1) := by decide +kernel
theorem dX9_copy_100 : decode cX9_copy 100 = .ok (.aload_n 0, 1) := by decide +kernel
theorem dX9_copy_101 : decode cX9_copy 101 = .ok (.getfield 59, 3) := by decide +kernel
theorem dX9_copy_104 : decode cX9_copy 104 = .ok (.iload_n 3, 1) := by decide +kernel
theorem dX9_copy_105 : decode cX9_copy 105 = .ok (.iaload, 1) := by decide +kernel
theorem dX9_copy_106 : decode cX9_copy 106 = .ok (.i2l, 1) := by decide +kernel
theorem dX9_copy_107 : decode cX9_copy 107 = .ok (.lcmp, 1) := by decide +kernel
theorem dX9_copy_108 : decode cX9_copy 108 = .ok (.ifCond .le 9, 3) := by decide +kernel
theorem dX9_copy_111 : decode cX9_copy 111 = .ok (.aload_n 0, 1) := by decide +kernel
theorem dX9_copy_112 : decode cX9_copy 112 = .ok (.iconst 2, 1) := by decide +kernel
theorem dX9_copy_113 : decode cX9_copy 113 = .ok (.invokevirtual 103, 3) := by decide +kernel
theorem dX9_copy_116 : decode cX9_copy 116 = .ok (.ireturn, 1) := by decide +kernel
theorem dX9_copy_117 : decode cX9_copy 117 = .ok (.iconst 0, 1) := by decide +kernel
theorem dX9_copy_118 : decode cX9_copy 118 = .ok (.istore 6, 2) := by decide +kernel
theorem dX9_copy_120 : decode cX9_copy 120 = .ok (.iload 6, 2) := by decide +kernel
theorem dX9_copy_122 : decode cX9_copy 122 = .ok (.iload 5, 2) := by decide +kernel
theorem dX9_copy_124 : decode cX9_copy 124 = .ok (.if_icmp .ge 30, 3) := by decide +kernel
theorem dX9_copy_127 : decode cX9_copy 127 = .ok (.aload_n 0, 1) := by decide +kernel
theorem dX9_copy_128 : decode cX9_copy 128 = .ok (.getfield 65, 3) := by decide +kernel
theorem dX9_copy_131 : decode cX9_copy 131 = .ok (.iload 6, 2) := by decide +kernel
theorem dX9_copy_133 : decode cX9_copy 133 = .ok (.aload_n 0, 1) := by decide +kernel
theorem dX9_copy_134 : decode cX9_copy 134 = .ok (.getfield 62, 3) := by decide +kernel
theorem dX9_copy_137 : decode cX9_copy 137 = .ok (.bipush 48, 2) := by decide +kernel
theorem dX9_copy_139 : decode cX9_copy 139 = .ok (.iload_n 1, 1) := by decide +kernel
theorem dX9_copy_140 : decode cX9_copy 140 = .ok (.imul, 1) := by decide +kernel
theorem dX9_copy_141 : decode cX9_copy 141 = .ok (.iload_n 2, 1) := by decide +kernel
theorem dX9_copy_142 : decode cX9_copy 142 = .ok (.iadd, 1) := by decide +kernel
theorem dX9_copy_143 : decode cX9_copy 143 = .ok (.iload 6, 2) := by decide +kernel
theorem dX9_copy_145 : decode cX9_copy 145 = .ok (.iadd, 1) := by decide +kernel
theorem dX9_copy_146 : decode cX9_copy 146 = .ok (.iaload, 1) := by decide +kernel
theorem dX9_copy_147 : decode cX9_copy 147 = .ok (.iastore, 1) := by decide +kernel
theorem dX9_copy_148 : decode cX9_copy 148 = .ok (.iinc 6 1, 3) := by decide +kernel
theorem dX9_copy_151 : decode cX9_copy 151 = .ok (.goto (-31), 3) := by decide +kernel
theorem dX9_copy_154 : decode cX9_copy 154 = .ok (.iconst 0, 1) := by decide +kernel
theorem dX9_copy_155 : decode cX9_copy 155 = .ok (.istore 6, 2) := by decide +kernel
theorem dX9_copy_157 : decode cX9_copy 157 = .ok (.iload 6, 2) := by decide +kernel
theorem dX9_copy_159 : decode cX9_copy 159 = .ok (.iload 5, 2) := by decide +kernel
theorem dX9_copy_161 : decode cX9_copy 161 = .ok (.if_icmp .ge 31, 3) := by decide +kernel
theorem dX9_copy_164 : decode cX9_copy 164 = .ok (.aload_n 0, 1) := by decide +kernel
theorem dX9_copy_165 : decode cX9_copy 165 = .ok (.getfield 62, 3) := by decide +kernel
theorem dX9_copy_168 : decode cX9_copy 168 = .ok (.bipush 48, 2) := by decide +kernel
theorem dX9_copy_170 : decode cX9_copy 170 = .ok (.iload_n 3, 1) := by decide +kernel
theorem dX9_copy_171 : decode cX9_copy 171 = .ok (.imul, 1) := by decide +kernel
theorem dX9_copy_172 : decode cX9_copy 172 = .ok (.iload 4, 2) := by decide +kernel
theorem dX9_copy_174 : decode cX9_copy 174 = .ok (.iadd, 1) := by decide +kernel
theorem dX9_copy_175 : decode cX9_copy 175 = .ok (.iload 6, 2) := by decide +kernel
theorem dX9_copy_177 : decode cX9_copy 177 = .ok (.iadd, 1) := by decide +kernel
theorem dX9_copy_178 : decode cX9_copy 178 = .ok (.aload_n 0, 1) := by decide +kernel
theorem dX9_copy_179 : decode cX9_copy 179 = .ok (.getfield 65, 3) := by decide +kernel
theorem dX9_copy_182 : decode cX9_copy 182 = .ok (.iload 6, 2) := by decide +kernel
theorem dX9_copy_184 : decode cX9_copy 184 = .ok (.iaload, 1) := by decide +kernel
theorem dX9_copy_185 : decode cX9_copy 185 = .ok (.iastore, 1) := by decide +kernel
theorem dX9_copy_186 : decode cX9_copy 186 = .ok (.iinc 6 1, 3) := by decide +kernel
theorem dX9_copy_189 : decode cX9_copy 189 = .ok (.goto (-32), 3) := by decide +kernel
theorem dX9_copy_192 : decode cX9_copy 192 = .ok (.iconst 1, 1) := by decide +kernel
theorem dX9_copy_193 : decode cX9_copy 193 = .ok (.ireturn, 1) := by decide +kernel
set_option maxRecDepth 20000 in
theorem ggX9_write_X9_isYear : GoodIn wsX9_write wsX9_isYear := goodIn_r _ [8, 9, 10, 11, 12, 7, 13, 14, 15, 3, 16, 17, 18, 19, 20, 21, 22, 23, 24, 39, 40, 41, 42, 43, 44, 45, 46, 47, 48, 49, 50, 51, 52, 53, 54, 55, 56, 57, 58, 59, 60, 61, 62] (by decide +kernel) (by decide +kernel)
set_option maxRecDepth 20000 in
theorem gX9_write_X9_isYear : GoodIn wsX9_write (wsV RX9 106 RX9 yX9_isYear wsX9_isYear) := goodIn_app (goodIn_of _ (by decide +kernel)) ggX9_write_X9_isYear
set_option maxRecDepth 20000 in
theorem ggX9_write_X9_isSheet : GoodIn wsX9_write wsX9_isSheet := goodIn_r _ [27, 19, 20, 7, 21] (by decide +kernel) (by decide +kernel)
set_option maxRecDepth 20000 in
theorem gX9_write_X9_isSheet : GoodIn wsX9_write (va_wsS RX9 100 yX9_isSheet wsX9_isSheet) := goodIn_app (goodIn_of _ (by decide +kernel)) ggX9_write_X9_isSheet
set_option maxRecDepth 20000 in
theorem ggX9_write_X9_meets : GoodIn wsX9_write wsX9_meets := goodIn_r _ [31, 32, 39, 40, 41, 42, 43, 44, 45, 46, 47, 48, 49, 50, 51, 52, 53, 54, 55, 56, 57, 58, 59, 60, 61, 62] (by decide +kernel) (by decide +kernel)
set_option maxRecDepth 20000 in
theorem gX9_write_X9_meets : GoodIn wsX9_write (wsV RX9 103 RX9 yX9_meets wsX9_meets) := goodIn_app (goodIn_of _ (by decide +kernel)) ggX9_write_X9_meets
set_option maxRecDepth 20000 in
theorem ggX9_write_X9_keep : GoodIn wsX9_write wsX9_keep := goodIn_r _ [36, 37, 38, 39, 40, 41, 42, 43, 44, 45, 46, 47, 48, 49, 50, 51, 52, 53, 54, 55, 56, 57, 58, 59, 60, 61, 62] (by decide +kernel) (by decide +kernel)
set_option maxRecDepth 20000 in
theorem gX9_write_X9_keep : GoodIn wsX9_write (wsV RX9 204 RX9 yX9_keep wsX9_keep) := goodIn_app (goodIn_of _ (by decide +kernel)) ggX9_write_X9_keep
theorem dX9_write_0 : decode cX9_write 0 = .ok (.aload_n 0, 1) := by decide +kernel
theorem dX9_write_1 : decode cX9_write 1 = .ok (.iload_n 1, 1) := by decide +kernel
theorem dX9_write_2 : decode cX9_write 2 = .ok (.invokevirtual 106, 3) := by decide +kernel
theorem dX9_write_5 : decode cX9_write 5 = .ok (.ifCond .eq 10, 3) := by decide +kernel
theorem dX9_write_8 : decode cX9_write 8 = .ok (.iload_n 2, 1) := by decide +kernel
theorem dX9_write_9 : decode cX9_write 9 = .ok (.invokestatic 100, 3) := by decide +kernel
theorem dX9_write_12 : decode cX9_write 12 = .ok (.ifCond .ne 6, 3) := by decide +kernel
theorem dX9_write_15 : decode cX9_write 15 = .ok (.bipush (-2), 2) := by decide +kernel
theorem dX9_write_17 : decode cX9_write 17 = .ok (.ireturn, 1) := by decide +kernel
theorem dX9_write_18 : decode cX9_write 18 = .ok (.aload_n 0, 1) := by decide +kernel
theorem dX9_write_19 : decode cX9_write 19 = .ok (.getfield 52, 3) := by decide +kernel
theorem dX9_write_22 : decode cX9_write 22 = .ok (.iload_n 2, 1) := by decide +kernel
theorem dX9_write_23 : decode cX9_write 23 = .ok (.baload, 1) := by decide +kernel
theorem dX9_write_24 : decode cX9_write 24 = .ok (.ifCond .ne 9, 3) := by decide +kernel
theorem dX9_write_27 : decode cX9_write 27 = .ok (.aload_n 0, 1) := by decide +kernel
theorem dX9_write_28 : decode cX9_write 28 = .ok (.iconst 1, 1) := by decide +kernel
theorem dX9_write_29 : decode cX9_write 29 = .ok (.invokevirtual 103, 3) := by decide +kernel
theorem dX9_write_32 : decode cX9_write 32 = .ok (.ireturn, 1) := by decide +kernel
theorem dX9_write_33 : decode cX9_write 33 = .ok (.iconst 0, 1) := by decide +kernel
theorem dX9_write_34 : decode cX9_write 34 = .ok (.istore_n 3, 1) := by decide +kernel
theorem dX9_write_35 : decode cX9_write 35 = .ok (.iload_n 3, 1) := by decide +kernel
theorem dX9_write_36 : decode cX9_write 36 = .ok (.aload_n 0, 1) := by decide +kernel
theorem dX9_write_37 : decode cX9_write 37 = .ok (.getfield 59, 3) := by decide +kernel
theorem dX9_write_40 : decode cX9_write 40 = .ok (.iload_n 2, 1) := by decide +kernel
theorem dX9_write_41 : decode cX9_write 41 = .ok (.iaload, 1) := by decide +kernel
theorem dX9_write_42 : decode cX9_write 42 = .ok (.if_icmp .ge 32, 3) := by decide +kernel
theorem dX9_write_45 : decode cX9_write 45 = .ok (.iload_n 3, 1) := by decide +kernel
theorem dX9_write_46 : decode cX9_write 46 = .ok (.bipush 6, 2) := by decide +kernel
theorem dX9_write_48 : decode cX9_write 48 = .ok (.if_icmp .ge 26, 3) := by decide +kernel
theorem dX9_write_51 : decode cX9_write 51 = .ok (.aload_n 0, 1) := by decide +kernel
theorem dX9_write_52 : decode cX9_write 52 = .ok (.iload_n 2, 1) := by decide +kernel
theorem dX9_write_53 : decode cX9_write 53 = .ok (.iload_n 3, 1) := by decide +kernel
theorem dX9_write_54 : decode cX9_write 54 = .ok (.aload_n 0, 1) := by decide +kernel
theorem dX9_write_55 : decode cX9_write 55 = .ok (.getfield 28, 3) := by decide +kernel
theorem dX9_write_58 : decode cX9_write 58 = .ok (.bipush 6, 2) := by decide +kernel
theorem dX9_write_60 : decode cX9_write 60 = .ok (.iload_n 1, 1) := by decide +kernel
theorem dX9_write_61 : decode cX9_write 61 = .ok (.imul, 1) := by decide +kernel
theorem dX9_write_62 : decode cX9_write 62 = .ok (.iload_n 3, 1) := by decide +kernel
theorem dX9_write_63 : decode cX9_write 63 = .ok (.iadd, 1) := by decide +kernel
theorem dX9_write_64 : decode cX9_write 64 = .ok (.iaload, 1) := by decide +kernel
theorem dX9_write_65 : decode cX9_write 65 = .ok (.invokevirtual 204, 3) := by decide +kernel
theorem dX9_write_68 : decode cX9_write 68 = .ok (.iinc 3 1, 3) := by decide +kernel
theorem dX9_write_71 : decode cX9_write 71 = .ok (.goto (-36), 3) := by decide +kernel
theorem dX9_write_74 : decode cX9_write 74 = .ok (.iload_n 3, 1) := by decide +kernel
theorem dX9_write_75 : decode cX9_write 75 = .ok (.ireturn, 1) := by decide +kernel
set_option maxRecDepth 20000 in
theorem ggX9_sumOf_X9_faultNow : GoodIn wsX9_sumOf wsX9_faultNow := goodIn_r _ [6, 1, 7, 8, 9, 10, 11, 5, 12, 13, 14, 15, 16, 17, 18, 40, 41, 42, 43, 44, 45, 46, 47, 48, 49, 50, 51, 52, 53, 54, 55, 56, 57, 58, 59, 60, 61, 62, 63] (by decide +kernel) (by decide +kernel)
set_option maxRecDepth 20000 in
theorem gX9_sumOf_X9_faultNow : GoodIn wsX9_sumOf (wsV RX9 96 RX9 yX9_faultNow wsX9_faultNow) := goodIn_app (goodIn_of _ (by decide +kernel)) ggX9_sumOf_X9_faultNow
set_option maxRecDepth 20000 in
theorem ggX9_sumOf_X9_doesFit : GoodIn wsX9_sumOf wsX9_doesFit := goodIn_r _ [22, 23, 24, 25, 26, 40, 41, 42, 43, 44, 45, 46, 47, 48, 49, 50, 51, 52, 53, 54, 55, 56, 57, 58, 59, 60, 61, 62, 63] (by decide +kernel) (by decide +kernel)
set_option maxRecDepth 20000 in
theorem gX9_sumOf_X9_doesFit : GoodIn wsX9_sumOf (wsV RX9 78 RX9 yX9_doesFit wsX9_doesFit) := goodIn_app (goodIn_of _ (by decide +kernel)) ggX9_sumOf_X9_doesFit
set_option maxRecDepth 20000 in
theorem ggX9_sumOf_X9_purseOf : GoodIn wsX9_sumOf wsX9_purseOf := goodIn_r _ [30, 9, 31, 32, 33, 5, 34, 35, 19, 20, 21, 22, 23, 24, 25, 26, 40, 41, 42, 43, 44, 45, 46, 47, 48, 49, 50, 51, 52, 53, 54, 55, 56, 57, 58, 59, 60, 61, 62, 63] (by decide +kernel) (by decide +kernel)
set_option maxRecDepth 20000 in
theorem gX9_sumOf_X9_purseOf : GoodIn wsX9_sumOf (wsV RX9 116 RX9 yX9_purseOf wsX9_purseOf) := goodIn_app (goodIn_of _ (by decide +kernel)) ggX9_sumOf_X9_purseOf
set_option maxRecDepth 20000 in
theorem ggX9_sumOf_X9_debtOf : GoodIn wsX9_sumOf wsX9_debtOf := goodIn_r _ [39, 9, 35, 19, 20, 21, 5, 22, 23, 24, 25, 26, 40, 41, 42, 43, 44, 45, 46, 47, 48, 49, 50, 51, 52, 53, 54, 55, 56, 57, 58, 59, 60, 61, 62, 63] (by decide +kernel) (by decide +kernel)
set_option maxRecDepth 20000 in
theorem gX9_sumOf_X9_debtOf : GoodIn wsX9_sumOf (wsV RX9 119 RX9 yX9_debtOf wsX9_debtOf) := goodIn_app (goodIn_of _ (by decide +kernel)) ggX9_sumOf_X9_debtOf
theorem dX9_sumOf_0 : decode cX9_sumOf 0 = .ok (.aload_n 0, 1) := by decide +kernel
theorem dX9_sumOf_1 : decode cX9_sumOf 1 = .ok (.invokevirtual 96, 3) := by decide +kernel
theorem dX9_sumOf_4 : decode cX9_sumOf 4 = .ok (.istore_n 2, 1) := by decide +kernel
theorem dX9_sumOf_5 : decode cX9_sumOf 5 = .ok (.iconst 0, 1) := by decide +kernel
theorem dX9_sumOf_6 : decode cX9_sumOf 6 = .ok (.istore_n 3, 1) := by decide +kernel
theorem dX9_sumOf_7 : decode cX9_sumOf 7 = .ok (.iconst 0, 1) := by decide +kernel
theorem dX9_sumOf_8 : decode cX9_sumOf 8 = .ok (.istore 4, 2) := by decide +kernel
theorem dX9_sumOf_10 : decode cX9_sumOf 10 = .ok (.iload 4, 2) := by decide +kernel
theorem dX9_sumOf_12 : decode cX9_sumOf 12 = .ok (.bipush 6, 2) := by decide +kernel
theorem dX9_sumOf_14 : decode cX9_sumOf 14 = .ok (.if_icmp .ge 111, 3) := by decide +kernel
theorem dX9_sumOf_17 : decode cX9_sumOf 17 = .ok (.iconst 0, 1) := by decide +kernel
theorem dX9_sumOf_18 : decode cX9_sumOf 18 = .ok (.istore 5, 2) := by decide +kernel
theorem dX9_sumOf_20 : decode cX9_sumOf 20 = .ok (.iload 5, 2) := by decide +kernel
theorem dX9_sumOf_22 : decode cX9_sumOf 22 = .ok (.bipush 6, 2) := by decide +kernel
theorem dX9_sumOf_24 : decode cX9_sumOf 24 = .ok (.if_icmp .ge 33, 3) := by decide +kernel
theorem dX9_sumOf_27 : decode cX9_sumOf 27 = .ok (.iload_n 1, 1) := by decide +kernel
theorem dX9_sumOf_28 : decode cX9_sumOf 28 = .ok (.iconst 4, 1) := by decide +kernel
theorem dX9_sumOf_29 : decode cX9_sumOf 29 = .ok (.if_icmp .ne 28, 3) := by decide +kernel
theorem dX9_sumOf_32 : decode cX9_sumOf 32 = .ok (.iload_n 3, 1) := by decide +kernel
theorem dX9_sumOf_33 : decode cX9_sumOf 33 = .ok (.aload_n 0, 1) := by decide +kernel
theorem dX9_sumOf_34 : decode cX9_sumOf 34 = .ok (.iload 4, 2) := by decide +kernel
theorem dX9_sumOf_36 : decode cX9_sumOf 36 = .ok (.iload 5, 2) := by decide +kernel
theorem dX9_sumOf_38 : decode cX9_sumOf 38 = .ok (.invokevirtual 78, 3) := by decide +kernel
theorem dX9_sumOf_41 : decode cX9_sumOf 41 = .ok (.ifCond .eq 7, 3) := by decide +kernel
theorem dX9_sumOf_44 : decode cX9_sumOf 44 = .ok (.iconst 1, 1) := by decide +kernel
theorem dX9_sumOf_45 : decode cX9_sumOf 45 = .ok (.goto 4, 3) := by decide +kernel
theorem dX9_sumOf_48 : decode cX9_sumOf 48 = .ok (.iconst 0, 1) := by decide +kernel
theorem dX9_sumOf_49 : decode cX9_sumOf 49 = .ok (.iadd, 1) := by decide +kernel
theorem dX9_sumOf_50 : decode cX9_sumOf 50 = .ok (.istore_n 3, 1) := by decide +kernel
theorem dX9_sumOf_51 : decode cX9_sumOf 51 = .ok (.iinc 5 1, 3) := by decide +kernel
theorem dX9_sumOf_54 : decode cX9_sumOf 54 = .ok (.goto (-34), 3) := by decide +kernel
theorem dX9_sumOf_57 : decode cX9_sumOf 57 = .ok (.iload_n 3, 1) := by decide +kernel
theorem dX9_sumOf_58 : decode cX9_sumOf 58 = .ok (.iload_n 1, 1) := by decide +kernel
theorem dX9_sumOf_59 : decode cX9_sumOf 59 = .ok (.iconst 5, 1) := by decide +kernel
theorem dX9_sumOf_60 : decode cX9_sumOf 60 = .ok (.if_icmp .ne 16, 3) := by decide +kernel
theorem dX9_sumOf_63 : decode cX9_sumOf 63 = .ok (.aload_n 0, 1) := by decide +kernel
theorem dX9_sumOf_64 : decode cX9_sumOf 64 = .ok (.iload 4, 2) := by decide +kernel
theorem dX9_sumOf_66 : decode cX9_sumOf 66 = .ok (.aload_n 0, 1) := by decide +kernel
theorem dX9_sumOf_67 : decode cX9_sumOf 67 = .ok (.getfield 90, 3) := by decide +kernel
theorem dX9_sumOf_70 : decode cX9_sumOf 70 = .ok (.invokevirtual 116, 3) := by decide +kernel
theorem dX9_sumOf_73 : decode cX9_sumOf 73 = .ok (.goto 44, 3) := by decide +kernel
theorem dX9_sumOf_76 : decode cX9_sumOf 76 = .ok (.iload_n 1, 1) := by decide +kernel
theorem dX9_sumOf_77 : decode cX9_sumOf 77 = .ok (.bipush 6, 2) := by decide +kernel
theorem dX9_sumOf_79 : decode cX9_sumOf 79 = .ok (.if_icmp .ne 17, 3) := by decide +kernel
theorem dX9_sumOf_82 : decode cX9_sumOf 82 = .ok (.aload_n 0, 1) := by decide +kernel
theorem dX9_sumOf_83 : decode cX9_sumOf 83 = .ok (.iload 4, 2) := by decide +kernel
theorem dX9_sumOf_85 : decode cX9_sumOf 85 = .ok (.aload_n 0, 1) := by decide +kernel
theorem dX9_sumOf_86 : decode cX9_sumOf 86 = .ok (.getfield 90, 3) := by decide +kernel
theorem dX9_sumOf_89 : decode cX9_sumOf 89 = .ok (.iconst 0, 1) := by decide +kernel
theorem dX9_sumOf_90 : decode cX9_sumOf 90 = .ok (.invokevirtual 119, 3) := by decide +kernel
theorem dX9_sumOf_93 : decode cX9_sumOf 93 = .ok (.goto 24, 3) := by decide +kernel
theorem dX9_sumOf_96 : decode cX9_sumOf 96 = .ok (.iload_n 1, 1) := by decide +kernel
theorem dX9_sumOf_97 : decode cX9_sumOf 97 = .ok (.bipush 7, 2) := by decide +kernel
theorem dX9_sumOf_99 : decode cX9_sumOf 99 = .ok (.if_icmp .ne 17, 3) := by decide +kernel
theorem dX9_sumOf_102 : decode cX9_sumOf 102 = .ok (.aload_n 0, 1) := by decide +kernel
theorem dX9_sumOf_103 : decode cX9_sumOf 103 = .ok (.iload 4, 2) := by decide +kernel
theorem dX9_sumOf_105 : decode cX9_sumOf 105 = .ok (.aload_n 0, 1) := by decide +kernel
theorem dX9_sumOf_106 : decode cX9_sumOf 106 = .ok (.getfield 90, 3) := by decide +kernel
theorem dX9_sumOf_109 : decode cX9_sumOf 109 = .ok (.iconst 1, 1) := by decide +kernel
theorem dX9_sumOf_110 : decode cX9_sumOf 110 = .ok (.invokevirtual 119, 3) := by decide +kernel
theorem dX9_sumOf_113 : decode cX9_sumOf 113 = .ok (.goto 4, 3) := by decide +kernel
theorem dX9_sumOf_116 : decode cX9_sumOf 116 = .ok (.iconst 0, 1) := by decide +kernel
theorem dX9_sumOf_117 : decode cX9_sumOf 117 = .ok (.iadd, 1) := by decide +kernel
theorem dX9_sumOf_118 : decode cX9_sumOf 118 = .ok (.istore_n 3, 1) := by decide +kernel
theorem dX9_sumOf_119 : decode cX9_sumOf 119 = .ok (.iinc 4 1, 3) := by decide +kernel
theorem dX9_sumOf_122 : decode cX9_sumOf 122 = .ok (.goto (-112), 3) := by decide +kernel
theorem dX9_sumOf_125 : decode cX9_sumOf 125 = .ok (.iload_n 1, 1) := by decide +kernel
theorem dX9_sumOf_126 : decode cX9_sumOf 126 = .ok (.ifCond .ne 10, 3) := by decide +kernel
theorem dX9_sumOf_129 : decode cX9_sumOf 129 = .ok (.aload_n 0, 1) := by decide +kernel
theorem dX9_sumOf_130 : decode cX9_sumOf 130 = .ok (.getfield 90, 3) := by decide +kernel
theorem dX9_sumOf_133 : decode cX9_sumOf 133 = .ok (.goto 4, 3) := by decide +kernel
theorem dX9_sumOf_136 : decode cX9_sumOf 136 = .ok (.iload_n 3, 1) := by decide +kernel
theorem dX9_sumOf_137 : decode cX9_sumOf 137 = .ok (.ireturn, 1) := by decide +kernel
set_option maxRecDepth 20000 in
theorem ggX9_count_X9_sumOf : GoodIn wsX9_count wsX9_sumOf := goodIn_r _ [9, 10, 11, 12, 13, 8, 14, 1, 15, 16, 17, 18, 19, 20, 21, 22, 23, 24, 25, 26, 27, 28, 29, 30, 31, 32, 33, 34, 35, 36, 37, 38, 39, 40, 41, 42, 43, 44, 45, 46, 47, 48, 49, 50, 51, 52, 53, 54, 55, 56, 57, 58, 59, 60, 61, 62, 63, 64, 65, 66, 67, 68, 69, 70] (by decide +kernel) (by decide +kernel)
set_option maxRecDepth 20000 in
theorem gX9_count_X9_sumOf : GoodIn wsX9_count (wsV RX9 209 RX9 yX9_sumOf wsX9_sumOf) := goodIn_app (goodIn_of _ (by decide +kernel)) ggX9_count_X9_sumOf
theorem dX9_count_0 : decode cX9_count 0 = .ok (.iload_n 1, 1) := by decide +kernel
theorem dX9_count_1 : decode cX9_count 1 = .ok (.tableswitch 77 0 8 #[51, 57, 62, 67, 51, 51, 51, 51, 72], 51) := by decide +kernel
theorem dX9_count_52 : decode cX9_count 52 = .ok (.aload_n 0, 1) := by decide +kernel
theorem dX9_count_53 : decode cX9_count 53 = .ok (.iload_n 1, 1) := by decide +kernel
theorem dX9_count_54 : decode cX9_count 54 = .ok (.invokevirtual 209, 3) := by decide +kernel
theorem dX9_count_57 : decode cX9_count 57 = .ok (.ireturn, 1) := by decide +kernel
theorem dX9_count_58 : decode cX9_count 58 = .ok (.aload_n 0, 1) := by decide +kernel
theorem dX9_count_59 : decode cX9_count 59 = .ok (.getfield 82, 3) := by decide +kernel
theorem dX9_count_62 : decode cX9_count 62 = .ok (.ireturn, 1) := by decide +kernel
theorem dX9_count_63 : decode cX9_count 63 = .ok (.aload_n 0, 1) := by decide +kernel
theorem dX9_count_64 : decode cX9_count 64 = .ok (.getfield 177, 3) := by decide +kernel
theorem dX9_count_67 : decode cX9_count 67 = .ok (.ireturn, 1) := by decide +kernel
theorem dX9_count_68 : decode cX9_count 68 = .ok (.aload_n 0, 1) := by decide +kernel
theorem dX9_count_69 : decode cX9_count 69 = .ok (.getfield 186, 3) := by decide +kernel
theorem dX9_count_72 : decode cX9_count 72 = .ok (.ireturn, 1) := by decide +kernel
theorem dX9_count_73 : decode cX9_count 73 = .ok (.aload_n 0, 1) := by decide +kernel
theorem dX9_count_74 : decode cX9_count 74 = .ok (.getfield 198, 3) := by decide +kernel
theorem dX9_count_77 : decode cX9_count 77 = .ok (.ireturn, 1) := by decide +kernel
theorem dX9_count_78 : decode cX9_count 78 = .ok (.bipush (-2), 2) := by decide +kernel
theorem dX9_count_80 : decode cX9_count 80 = .ok (.ireturn, 1) := by decide +kernel
set_option maxRecDepth 20000 in
theorem ggX9_digest_X9_count : GoodIn wsX9_digest wsX9_count := goodIn_r _ [8, 9, 10, 11, 12, 13, 14, 15, 7, 16, 3, 17, 18, 19, 20, 21, 22, 23, 24, 25, 26, 27, 28, 29, 30, 31, 32, 33, 34, 35, 36, 37, 38, 39, 40, 41, 42, 43, 44, 45, 46, 47, 48, 49, 50, 51, 52, 141, 142, 143, 144, 145, 146, 147, 148, 149, 150, 151, 152, 153, 154, 155, 156, 157, 158, 159, 160, 161, 162, 163, 164] (by decide +kernel) (by decide +kernel)
set_option maxRecDepth 20000 in
theorem gX9_digest_X9_count : GoodIn wsX9_digest (wsV RX9 216 RX9 yX9_count wsX9_count) := goodIn_app (goodIn_of _ (by decide +kernel)) ggX9_digest_X9_count
set_option maxRecDepth 20000 in
theorem ggX9_digest_X9_faultNow : GoodIn wsX9_digest wsX9_faultNow := goodIn_r _ [20, 3, 9, 21, 22, 23, 24, 7, 25, 26, 27, 28, 29, 30, 31, 141, 142, 143, 144, 145, 146, 147, 148, 149, 150, 151, 152, 153, 154, 155, 156, 157, 158, 159, 160, 161, 162, 163, 164] (by decide +kernel) (by decide +kernel)
set_option maxRecDepth 20000 in
theorem gX9_digest_X9_faultNow : GoodIn wsX9_digest (wsV RX9 96 RX9 yX9_faultNow wsX9_faultNow) := goodIn_app (goodIn_of _ (by decide +kernel)) ggX9_digest_X9_faultNow
set_option maxRecDepth 20000 in
theorem ggX9_digest_X9_purseOf : GoodIn wsX9_digest wsX9_purseOf := goodIn_r _ [43, 22, 44, 45, 46, 7, 47, 48, 32, 33, 34, 35, 36, 37, 38, 39, 141, 142, 143, 144, 145, 146, 147, 148, 149, 150, 151, 152, 153, 154, 155, 156, 157, 158, 159, 160, 161, 162, 163, 164] (by decide +kernel) (by decide +kernel)
set_option maxRecDepth 20000 in
theorem gX9_digest_X9_purseOf : GoodIn wsX9_digest (wsV RX9 116 RX9 yX9_purseOf wsX9_purseOf) := goodIn_app (goodIn_of _ (by decide +kernel)) ggX9_digest_X9_purseOf
set_option maxRecDepth 20000 in
theorem ggX9_digest_X9_beenOf : GoodIn wsX9_digest wsX9_beenOf := goodIn_r _ [56, 22, 141, 142, 143, 144, 145, 146, 147, 148, 149, 150, 151, 152, 153, 154, 155, 156, 157, 158, 159, 160, 161, 162, 163, 164] (by decide +kernel) (by decide +kernel)
set_option maxRecDepth 20000 in
theorem gX9_digest_X9_beenOf : GoodIn wsX9_digest (wsV RX9 123 RX9 yX9_beenOf wsX9_beenOf) := goodIn_app (goodIn_of _ (by decide +kernel)) ggX9_digest_X9_beenOf
set_option maxRecDepth 20000 in
theorem ggX9_digest_X9_homeOf : GoodIn wsX9_digest wsX9_homeOf := goodIn_r _ [60, 3, 22, 17, 18, 19, 7, 20, 9, 21, 23, 24, 25, 26, 27, 28, 29, 30, 31, 141, 142, 143, 144, 145, 146, 147, 148, 149, 150, 151, 152, 153, 154, 155, 156, 157, 158, 159, 160, 161, 162, 163, 164] (by decide +kernel) (by decide +kernel)
set_option maxRecDepth 20000 in
theorem gX9_digest_X9_homeOf : GoodIn wsX9_digest (wsV RX9 126 RX9 yX9_homeOf wsX9_homeOf) := goodIn_app (goodIn_of _ (by decide +kernel)) ggX9_digest_X9_homeOf
set_option maxRecDepth 20000 in
theorem ggX9_digest_X9_otherOf : GoodIn wsX9_digest wsX9_otherOf := goodIn_r _ [64, 3, 22, 17, 18, 19, 7, 20, 9, 21, 23, 24, 25, 26, 27, 28, 29, 30, 31, 141, 142, 143, 144, 145, 146, 147, 148, 149, 150, 151, 152, 153, 154, 155, 156, 157, 158, 159, 160, 161, 162, 163, 164] (by decide +kernel) (by decide +kernel)
set_option maxRecDepth 20000 in
theorem gX9_digest_X9_otherOf : GoodIn wsX9_digest (wsV RX9 129 RX9 yX9_otherOf wsX9_otherOf) := goodIn_app (goodIn_of _ (by decide +kernel)) ggX9_digest_X9_otherOf
set_option maxRecDepth 20000 in
theorem ggX9_digest_X9_soundOf : GoodIn wsX9_digest wsX9_soundOf := goodIn_r _ [68, 69, 70, 71, 72, 7, 73, 29, 30, 31, 74, 75, 76, 77, 32, 33, 34, 35, 36, 37, 38, 39, 141, 142, 143, 144, 145, 146, 147, 148, 149, 150, 151, 152, 153, 154, 155, 156, 157, 158, 159, 160, 161, 162, 163, 164] (by decide +kernel) (by decide +kernel)
set_option maxRecDepth 20000 in
theorem gX9_digest_X9_soundOf : GoodIn wsX9_digest (wsV RX9 140 RX9 yX9_soundOf wsX9_soundOf) := goodIn_app (goodIn_of _ (by decide +kernel)) ggX9_digest_X9_soundOf
set_option maxRecDepth 20000 in
theorem ggX9_digest_X9_chanceOf : GoodIn wsX9_digest wsX9_chanceOf := goodIn_r _ [81, 69, 70, 71, 72, 7, 73, 29, 30, 31, 74, 75, 76, 77, 32, 33, 34, 35, 36, 37, 38, 39, 82, 83, 84, 85, 86, 87, 88, 141, 142, 143, 144, 145, 146, 147, 148, 149, 150, 151, 152, 153, 154, 155, 156, 157, 158, 159, 160, 161, 162, 163, 164] (by decide +kernel) (by decide +kernel)
set_option maxRecDepth 20000 in
theorem gX9_digest_X9_chanceOf : GoodIn wsX9_digest (wsV RX9 151 RX9 yX9_chanceOf wsX9_chanceOf) := goodIn_app (goodIn_of _ (by decide +kernel)) ggX9_digest_X9_chanceOf
set_option maxRecDepth 20000 in
theorem ggX9_digest_X9_aheadOf : GoodIn wsX9_digest wsX9_aheadOf := goodIn_r _ [92, 93, 44, 45, 46, 7, 47, 48, 32, 33, 34, 35, 36, 37, 38, 39, 86, 87, 88, 141, 142, 143, 144, 145, 146, 147, 148, 149, 150, 151, 152, 153, 154, 155, 156, 157, 158, 159, 160, 161, 162, 163, 164] (by decide +kernel) (by decide +kernel)
set_option maxRecDepth 20000 in
theorem gX9_digest_X9_aheadOf : GoodIn wsX9_digest (wsV RX9 157 RX9 yX9_aheadOf wsX9_aheadOf) := goodIn_app (goodIn_of _ (by decide +kernel)) ggX9_digest_X9_aheadOf
set_option maxRecDepth 20000 in
theorem ggX9_digest_X9_bestOf : GoodIn wsX9_digest wsX9_bestOf := goodIn_r _ [97, 69, 70, 71, 72, 7, 73, 29, 30, 31, 44, 45, 46, 47, 48, 32, 33, 34, 35, 36, 37, 38, 39, 141, 142, 143, 144, 145, 146, 147, 148, 149, 150, 151, 152, 153, 154, 155, 156, 157, 158, 159, 160, 161, 162, 163, 164] (by decide +kernel) (by decide +kernel)
set_option maxRecDepth 20000 in
theorem gX9_digest_X9_bestOf : GoodIn wsX9_digest (wsV RX9 161 RX9 yX9_bestOf wsX9_bestOf) := goodIn_app (goodIn_of _ (by decide +kernel)) ggX9_digest_X9_bestOf
set_option maxRecDepth 20000 in
theorem ggX9_digest_X9_lotOf : GoodIn wsX9_digest wsX9_lotOf := goodIn_r _ [101, 102, 69, 29, 30, 7, 31, 141, 142, 143, 144, 145, 146, 147, 148, 149, 150, 151, 152, 153, 154, 155, 156, 157, 158, 159, 160, 161, 162, 163, 164] (by decide +kernel) (by decide +kernel)
set_option maxRecDepth 20000 in
theorem gX9_digest_X9_lotOf : GoodIn wsX9_digest (wsV RX9 174 RX9 yX9_lotOf wsX9_lotOf) := goodIn_app (goodIn_of _ (by decide +kernel)) ggX9_digest_X9_lotOf
set_option maxRecDepth 20000 in
theorem ggX9_digest_X9_owedOf : GoodIn wsX9_digest wsX9_owedOf := goodIn_r _ [106, 10, 107, 3, 108, 109, 22, 17, 18, 19, 7, 20, 9, 21, 23, 24, 25, 26, 27, 28, 29, 30, 31, 141, 142, 143, 144, 145, 146, 147, 148, 149, 150, 151, 152, 153, 154, 155, 156, 157, 158, 159, 160, 161, 162, 163, 164] (by decide +kernel) (by decide +kernel)
set_option maxRecDepth 20000 in
theorem gX9_digest_X9_owedOf : GoodIn wsX9_digest (wsV RX9 180 RX9 yX9_owedOf wsX9_owedOf) := goodIn_app (goodIn_of _ (by decide +kernel)) ggX9_digest_X9_owedOf
set_option maxRecDepth 20000 in
theorem ggX9_digest_X9_couldOf : GoodIn wsX9_digest wsX9_couldOf := goodIn_r _ [113, 69, 70, 71, 72, 7, 73, 29, 30, 31, 114, 115, 116, 117, 11, 118, 36, 38, 119, 120, 141, 142, 143, 144, 145, 146, 147, 148, 149, 150, 151, 152, 153, 154, 155, 156, 157, 158, 159, 160, 161, 162, 163, 164] (by decide +kernel) (by decide +kernel)
set_option maxRecDepth 20000 in
theorem gX9_digest_X9_couldOf : GoodIn wsX9_digest (wsV RX9 192 RX9 yX9_couldOf wsX9_couldOf) := goodIn_app (goodIn_of _ (by decide +kernel)) ggX9_digest_X9_couldOf
set_option maxRecDepth 20000 in
theorem ggX9_digest_X9_debtOf : GoodIn wsX9_digest wsX9_debtOf := goodIn_r _ [52, 22, 48, 32, 33, 34, 7, 35, 36, 37, 38, 39, 141, 142, 143, 144, 145, 146, 147, 148, 149, 150, 151, 152, 153, 154, 155, 156, 157, 158, 159, 160, 161, 162, 163, 164] (by decide +kernel) (by decide +kernel)
set_option maxRecDepth 20000 in
theorem gX9_digest_X9_debtOf : GoodIn wsX9_digest (wsV RX9 119 RX9 yX9_debtOf wsX9_debtOf) := goodIn_app (goodIn_of _ (by decide +kernel)) ggX9_digest_X9_debtOf
set_option maxRecDepth 20000 in
theorem ggX9_digest_X9_ratherOf : GoodIn wsX9_digest wsX9_ratherOf := goodIn_r _ [124, 22, 44, 45, 46, 7, 47, 48, 32, 33, 34, 35, 36, 37, 38, 39, 141, 142, 143, 144, 145, 146, 147, 148, 149, 150, 151, 152, 153, 154, 155, 156, 157, 158, 159, 160, 161, 162, 163, 164] (by decide +kernel) (by decide +kernel)
set_option maxRecDepth 20000 in
theorem gX9_digest_X9_ratherOf : GoodIn wsX9_digest (wsV RX9 164 RX9 yX9_ratherOf wsX9_ratherOf) := goodIn_app (goodIn_of _ (by decide +kernel)) ggX9_digest_X9_ratherOf
set_option maxRecDepth 20000 in
theorem ggX9_digest_X9_returnsOf : GoodIn wsX9_digest wsX9_returnsOf := goodIn_r _ [128, 129, 130, 131, 7, 132, 22, 141, 142, 143, 144, 145, 146, 147, 148, 149, 150, 151, 152, 153, 154, 155, 156, 157, 158, 159, 160, 161, 162, 163, 164] (by decide +kernel) (by decide +kernel)
set_option maxRecDepth 20000 in
theorem gX9_digest_X9_returnsOf : GoodIn wsX9_digest (wsV RX9 170 RX9 yX9_returnsOf wsX9_returnsOf) := goodIn_app (goodIn_of _ (by decide +kernel)) ggX9_digest_X9_returnsOf
set_option maxRecDepth 20000 in
theorem ggX9_digest_X9_onOf : GoodIn wsX9_digest wsX9_onOf := goodIn_r _ [132, 22, 141, 142, 143, 144, 145, 146, 147, 148, 149, 150, 151, 152, 153, 154, 155, 156, 157, 158, 159, 160, 161, 162, 163, 164] (by decide +kernel) (by decide +kernel)
set_option maxRecDepth 20000 in
theorem gX9_digest_X9_onOf : GoodIn wsX9_digest (wsV RX9 167 RX9 yX9_onOf wsX9_onOf) := goodIn_app (goodIn_of _ (by decide +kernel)) ggX9_digest_X9_onOf
set_option maxRecDepth 20000 in
theorem ggX9_digest_X9_disputedNow : GoodIn wsX9_digest wsX9_disputedNow := goodIn_r _ [136, 10, 107, 3, 22, 109, 17, 18, 19, 7, 20, 9, 21, 23, 24, 25, 26, 27, 28, 29, 30, 31, 141, 142, 143, 144, 145, 146, 147, 148, 149, 150, 151, 152, 153, 154, 155, 156, 157, 158, 159, 160, 161, 162, 163, 164] (by decide +kernel) (by decide +kernel)
set_option maxRecDepth 20000 in
theorem gX9_digest_X9_disputedNow : GoodIn wsX9_digest (wsV RX9 183 RX9 yX9_disputedNow wsX9_disputedNow) := goodIn_app (goodIn_of _ (by decide +kernel)) ggX9_digest_X9_disputedNow
set_option maxRecDepth 20000 in
theorem ggX9_digest_X9_falseNow : GoodIn wsX9_digest wsX9_falseNow := goodIn_r _ [140, 114, 115, 116, 7, 117, 11, 118, 36, 38, 119, 120, 141, 142, 143, 144, 145, 146, 147, 148, 149, 150, 151, 152, 153, 154, 155, 156, 157, 158, 159, 160, 161, 162, 163, 164] (by decide +kernel) (by decide +kernel)
set_option maxRecDepth 20000 in
theorem gX9_digest_X9_falseNow : GoodIn wsX9_digest (wsV RX9 195 RX9 yX9_falseNow wsX9_falseNow) := goodIn_app (goodIn_of _ (by decide +kernel)) ggX9_digest_X9_falseNow
theorem dX9_digest_0 : decode cX9_digest 0 = .ok (.ldc2_w 212, 3) := by decide +kernel
theorem dX9_digest_3 : decode cX9_digest 3 = .ok (.lstore_n 1, 1) := by decide +kernel
theorem dX9_digest_4 : decode cX9_digest 4 = .ok (.iconst 0, 1) := by decide +kernel
theorem dX9_digest_5 : decode cX9_digest 5 = .ok (.istore_n 3, 1) := by decide +kernel
theorem dX9_digest_6 : decode cX9_digest 6 = .ok (.iload_n 3, 1) := by decide +kernel
theorem dX9_digest_7 : decode cX9_digest 7 = .ok (.bipush 8, 2) := by decide +kernel
theorem dX9_digest_9 : decode cX9_digest 9 = .ok (.if_icmp .ge 22, 3) := by decide +kernel
theorem dX9_digest_12 : decode cX9_digest 12 = .ok (.ldc2_w 214, 3) := by decide +kernel
theorem dX9_digest_15 : decode cX9_digest 15 = .ok (.lload_n 1, 1) := by decide +kernel
theorem dX9_digest_16 : decode cX9_digest 16 = .ok (.lmul, 1) := by decide +kernel
theorem dX9_digest_17 : decode cX9_digest 17 = .ok (.aload_n 0, 1) := by decide +kernel
theorem dX9_digest_18 : decode cX9_digest 18 = .ok (.iload_n 3, 1) := by decide +kernel
theorem dX9_digest_19 : decode cX9_digest 19 = .ok (.invokevirtual 216, 3) := by decide +kernel
theorem dX9_digest_22 : decode cX9_digest 22 = .ok (.i2l, 1) := by decide +kernel
theorem dX9_digest_23 : decode cX9_digest 23 = .ok (.ladd, 1) := by decide +kernel
theorem dX9_digest_24 : decode cX9_digest 24 = .ok (.lstore_n 1, 1) := by decide +kernel
theorem dX9_digest_25 : decode cX9_digest 25 = .ok (.iinc 3 1, 3) := by decide +kernel
theorem dX9_digest_28 : decode cX9_digest 28 = .ok (.goto (-22), 3) := by decide +kernel
theorem dX9_digest_31 : decode cX9_digest 31 = .ok (.ldc2_w 214, 3) := by decide +kernel
theorem dX9_digest_34 : decode cX9_digest 34 = .ok (.lload_n 1, 1) := by decide +kernel
theorem dX9_digest_35 : decode cX9_digest 35 = .ok (.lmul, 1) := by decide +kernel
theorem dX9_digest_36 : decode cX9_digest 36 = .ok (.aload_n 0, 1) := by decide +kernel
theorem dX9_digest_37 : decode cX9_digest 37 = .ok (.invokevirtual 96, 3) := by decide +kernel
theorem dX9_digest_40 : decode cX9_digest 40 = .ok (.i2l, 1) := by decide +kernel
theorem dX9_digest_41 : decode cX9_digest 41 = .ok (.ladd, 1) := by decide +kernel
theorem dX9_digest_42 : decode cX9_digest 42 = .ok (.lstore_n 1, 1) := by decide +kernel
theorem dX9_digest_43 : decode cX9_digest 43 = .ok (.iconst 0, 1) := by decide +kernel
theorem dX9_digest_44 : decode cX9_digest 44 = .ok (.istore_n 3, 1) := by decide +kernel
theorem dX9_digest_45 : decode cX9_digest 45 = .ok (.iload_n 3, 1) := by decide +kernel
theorem dX9_digest_46 : decode cX9_digest 46 = .ok (.bipush 6, 2) := by decide +kernel
theorem dX9_digest_48 : decode cX9_digest 48 = .ok (.if_icmp .ge 213, 3) := by decide +kernel
theorem dX9_digest_51 : decode cX9_digest 51 = .ok (.ldc2_w 214, 3) := by decide +kernel
theorem dX9_digest_54 : decode cX9_digest 54 = .ok (.lload_n 1, 1) := by decide +kernel
theorem dX9_digest_55 : decode cX9_digest 55 = .ok (.lmul, 1) := by decide +kernel
theorem dX9_digest_56 : decode cX9_digest 56 = .ok (.aload_n 0, 1) := by decide +kernel
theorem dX9_digest_57 : decode cX9_digest 57 = .ok (.iload_n 3, 1) := by decide +kernel
theorem dX9_digest_58 : decode cX9_digest 58 = .ok (.aload_n 0, 1) := by decide +kernel
theorem dX9_digest_59 : decode cX9_digest 59 = .ok (.getfield 90, 3) := by decide +kernel
theorem dX9_digest_62 : decode cX9_digest 62 = .ok (.invokevirtual 116, 3) := by decide +kernel
theorem dX9_digest_65 : decode cX9_digest 65 = .ok (.i2l, 1) := by decide +kernel
theorem dX9_digest_66 : decode cX9_digest 66 = .ok (.ladd, 1) := by decide +kernel
theorem dX9_digest_67 : decode cX9_digest 67 = .ok (.lstore_n 1, 1) := by decide +kernel
theorem dX9_digest_68 : decode cX9_digest 68 = .ok (.ldc2_w 214, 3) := by decide +kernel
theorem dX9_digest_71 : decode cX9_digest 71 = .ok (.lload_n 1, 1) := by decide +kernel
theorem dX9_digest_72 : decode cX9_digest 72 = .ok (.lmul, 1) := by decide +kernel
theorem dX9_digest_73 : decode cX9_digest 73 = .ok (.aload_n 0, 1) := by decide +kernel
theorem dX9_digest_74 : decode cX9_digest 74 = .ok (.iload_n 3, 1) := by decide +kernel
theorem dX9_digest_75 : decode cX9_digest 75 = .ok (.aload_n 0, 1) := by decide +kernel
theorem dX9_digest_76 : decode cX9_digest 76 = .ok (.getfield 90, 3) := by decide +kernel
theorem dX9_digest_79 : decode cX9_digest 79 = .ok (.invokevirtual 123, 3) := by decide +kernel
theorem dX9_digest_82 : decode cX9_digest 82 = .ok (.i2l, 1) := by decide +kernel
theorem dX9_digest_83 : decode cX9_digest 83 = .ok (.ladd, 1) := by decide +kernel
theorem dX9_digest_84 : decode cX9_digest 84 = .ok (.lstore_n 1, 1) := by decide +kernel
theorem dX9_digest_85 : decode cX9_digest 85 = .ok (.ldc2_w 214, 3) := by decide +kernel
theorem dX9_digest_88 : decode cX9_digest 88 = .ok (.lload_n 1, 1) := by decide +kernel
theorem dX9_digest_89 : decode cX9_digest 89 = .ok (.lmul, 1) := by decide +kernel
theorem dX9_digest_90 : decode cX9_digest 90 = .ok (.aload_n 0, 1) := by decide +kernel
theorem dX9_digest_91 : decode cX9_digest 91 = .ok (.iload_n 3, 1) := by decide +kernel
theorem dX9_digest_92 : decode cX9_digest 92 = .ok (.invokevirtual 126, 3) := by decide +kernel
theorem dX9_digest_95 : decode cX9_digest 95 = .ok (.i2l, 1) := by decide +kernel
theorem dX9_digest_96 : decode cX9_digest 96 = .ok (.ladd, 1) := by decide +kernel
theorem dX9_digest_97 : decode cX9_digest 97 = .ok (.lstore_n 1, 1) := by decide +kernel
theorem dX9_digest_98 : decode cX9_digest 98 = .ok (.ldc2_w 214, 3) := by decide +kernel
theorem dX9_digest_101 : decode cX9_digest 101 = .ok (.lload_n 1, 1) := by decide +kernel
theorem dX9_digest_102 : decode cX9_digest 102 = .ok (.lmul, 1) := by decide +kernel
theorem dX9_digest_103 : decode cX9_digest 103 = .ok (.aload_n 0, 1) := by decide +kernel
theorem dX9_digest_104 : decode cX9_digest 104 = .ok (.iload_n 3, 1) := by decide +kernel
theorem dX9_digest_105 : decode cX9_digest 105 = .ok (.iload_n 3, 1) := by decide +kernel
theorem dX9_digest_106 : decode cX9_digest 106 = .ok (.iconst 1, 1) := by decide +kernel
theorem dX9_digest_107 : decode cX9_digest 107 = .ok (.iadd, 1) := by decide +kernel
theorem dX9_digest_108 : decode cX9_digest 108 = .ok (.bipush 6, 2) := by decide +kernel
theorem dX9_digest_110 : decode cX9_digest 110 = .ok (.irem, 1) := by decide +kernel
theorem dX9_digest_111 : decode cX9_digest 111 = .ok (.invokevirtual 129, 3) := by decide +kernel
theorem dX9_digest_114 : decode cX9_digest 114 = .ok (.i2l, 1) := by decide +kernel
theorem dX9_digest_115 : decode cX9_digest 115 = .ok (.ladd, 1) := by decide +kernel
theorem dX9_digest_116 : decode cX9_digest 116 = .ok (.lstore_n 1, 1) := by decide +kernel
theorem dX9_digest_117 : decode cX9_digest 117 = .ok (.ldc2_w 214, 3) := by decide +kernel
theorem dX9_digest_120 : decode cX9_digest 120 = .ok (.lload_n 1, 1) := by decide +kernel
theorem dX9_digest_121 : decode cX9_digest 121 = .ok (.lmul, 1) := by decide +kernel
theorem dX9_digest_122 : decode cX9_digest 122 = .ok (.aload_n 0, 1) := by decide +kernel
theorem dX9_digest_123 : decode cX9_digest 123 = .ok (.iload_n 3, 1) := by decide +kernel
theorem dX9_digest_124 : decode cX9_digest 124 = .ok (.invokevirtual 140, 3) := by decide +kernel
theorem dX9_digest_127 : decode cX9_digest 127 = .ok (.i2l, 1) := by decide +kernel
theorem dX9_digest_128 : decode cX9_digest 128 = .ok (.ladd, 1) := by decide +kernel
theorem dX9_digest_129 : decode cX9_digest 129 = .ok (.lstore_n 1, 1) := by decide +kernel
theorem dX9_digest_130 : decode cX9_digest 130 = .ok (.ldc2_w 214, 3) := by decide +kernel
theorem dX9_digest_133 : decode cX9_digest 133 = .ok (.lload_n 1, 1) := by decide +kernel
theorem dX9_digest_134 : decode cX9_digest 134 = .ok (.lmul, 1) := by decide +kernel
theorem dX9_digest_135 : decode cX9_digest 135 = .ok (.aload_n 0, 1) := by decide +kernel
theorem dX9_digest_136 : decode cX9_digest 136 = .ok (.iload_n 3, 1) := by decide +kernel
theorem dX9_digest_137 : decode cX9_digest 137 = .ok (.iload_n 3, 1) := by decide +kernel
theorem dX9_digest_138 : decode cX9_digest 138 = .ok (.iconst 0, 1) := by decide +kernel
theorem dX9_digest_139 : decode cX9_digest 139 = .ok (.invokevirtual 151, 3) := by decide +kernel
theorem dX9_digest_142 : decode cX9_digest 142 = .ok (.ladd, 1) := by decide +kernel
theorem dX9_digest_143 : decode cX9_digest 143 = .ok (.lstore_n 1, 1) := by decide +kernel
theorem dX9_digest_144 : decode cX9_digest 144 = .ok (.ldc2_w 214, 3) := by decide +kernel
theorem dX9_digest_147 : decode cX9_digest 147 = .ok (.lload_n 1, 1) := by decide +kernel
theorem dX9_digest_148 : decode cX9_digest 148 = .ok (.lmul, 1) := by decide +kernel
theorem dX9_digest_149 : decode cX9_digest 149 = .ok (.aload_n 0, 1) := by decide +kernel
theorem dX9_digest_150 : decode cX9_digest 150 = .ok (.iload_n 3, 1) := by decide +kernel
theorem dX9_digest_151 : decode cX9_digest 151 = .ok (.iload_n 3, 1) := by decide +kernel
theorem dX9_digest_152 : decode cX9_digest 152 = .ok (.iconst 1, 1) := by decide +kernel
theorem dX9_digest_153 : decode cX9_digest 153 = .ok (.invokevirtual 151, 3) := by decide +kernel
theorem dX9_digest_156 : decode cX9_digest 156 = .ok (.ladd, 1) := by decide +kernel
theorem dX9_digest_157 : decode cX9_digest 157 = .ok (.lstore_n 1, 1) := by decide +kernel
theorem dX9_digest_158 : decode cX9_digest 158 = .ok (.ldc2_w 214, 3) := by decide +kernel
theorem dX9_digest_161 : decode cX9_digest 161 = .ok (.lload_n 1, 1) := by decide +kernel
theorem dX9_digest_162 : decode cX9_digest 162 = .ok (.lmul, 1) := by decide +kernel
theorem dX9_digest_163 : decode cX9_digest 163 = .ok (.aload_n 0, 1) := by decide +kernel
theorem dX9_digest_164 : decode cX9_digest 164 = .ok (.iload_n 3, 1) := by decide +kernel
theorem dX9_digest_165 : decode cX9_digest 165 = .ok (.iconst 0, 1) := by decide +kernel
theorem dX9_digest_166 : decode cX9_digest 166 = .ok (.invokevirtual 157, 3) := by decide +kernel
theorem dX9_digest_169 : decode cX9_digest 169 = .ok (.ladd, 1) := by decide +kernel
theorem dX9_digest_170 : decode cX9_digest 170 = .ok (.lstore_n 1, 1) := by decide +kernel
theorem dX9_digest_171 : decode cX9_digest 171 = .ok (.ldc2_w 214, 3) := by decide +kernel
theorem dX9_digest_174 : decode cX9_digest 174 = .ok (.lload_n 1, 1) := by decide +kernel
theorem dX9_digest_175 : decode cX9_digest 175 = .ok (.lmul, 1) := by decide +kernel
theorem dX9_digest_176 : decode cX9_digest 176 = .ok (.aload_n 0, 1) := by decide +kernel
theorem dX9_digest_177 : decode cX9_digest 177 = .ok (.iload_n 3, 1) := by decide +kernel
theorem dX9_digest_178 : decode cX9_digest 178 = .ok (.iconst 1, 1) := by decide +kernel
theorem dX9_digest_179 : decode cX9_digest 179 = .ok (.invokevirtual 157, 3) := by decide +kernel
theorem dX9_digest_182 : decode cX9_digest 182 = .ok (.ladd, 1) := by decide +kernel
theorem dX9_digest_183 : decode cX9_digest 183 = .ok (.lstore_n 1, 1) := by decide +kernel
theorem dX9_digest_184 : decode cX9_digest 184 = .ok (.ldc2_w 214, 3) := by decide +kernel
theorem dX9_digest_187 : decode cX9_digest 187 = .ok (.lload_n 1, 1) := by decide +kernel
theorem dX9_digest_188 : decode cX9_digest 188 = .ok (.lmul, 1) := by decide +kernel
theorem dX9_digest_189 : decode cX9_digest 189 = .ok (.aload_n 0, 1) := by decide +kernel
theorem dX9_digest_190 : decode cX9_digest 190 = .ok (.iload_n 3, 1) := by decide +kernel
theorem dX9_digest_191 : decode cX9_digest 191 = .ok (.invokevirtual 161, 3) := by decide +kernel
theorem dX9_digest_194 : decode cX9_digest 194 = .ok (.i2l, 1) := by decide +kernel
theorem dX9_digest_195 : decode cX9_digest 195 = .ok (.ladd, 1) := by decide +kernel
theorem dX9_digest_196 : decode cX9_digest 196 = .ok (.lstore_n 1, 1) := by decide +kernel
theorem dX9_digest_197 : decode cX9_digest 197 = .ok (.ldc2_w 214, 3) := by decide +kernel
theorem dX9_digest_200 : decode cX9_digest 200 = .ok (.lload_n 1, 1) := by decide +kernel
theorem dX9_digest_201 : decode cX9_digest 201 = .ok (.lmul, 1) := by decide +kernel
theorem dX9_digest_202 : decode cX9_digest 202 = .ok (.aload_n 0, 1) := by decide +kernel
theorem dX9_digest_203 : decode cX9_digest 203 = .ok (.bipush 7, 2) := by decide +kernel
theorem dX9_digest_205 : decode cX9_digest 205 = .ok (.iload_n 3, 1) := by decide +kernel
theorem dX9_digest_206 : decode cX9_digest 206 = .ok (.invokevirtual 174, 3) := by decide +kernel
theorem dX9_digest_209 : decode cX9_digest 209 = .ok (.i2l, 1) := by decide +kernel
theorem dX9_digest_210 : decode cX9_digest 210 = .ok (.ladd, 1) := by decide +kernel
theorem dX9_digest_211 : decode cX9_digest 211 = .ok (.lstore_n 1, 1) := by decide +kernel
theorem dX9_digest_212 : decode cX9_digest 212 = .ok (.iconst 0, 1) := by decide +kernel
theorem dX9_digest_213 : decode cX9_digest 213 = .ok (.istore 4, 2) := by decide +kernel
theorem dX9_digest_215 : decode cX9_digest 215 = .ok (.iload 4, 2) := by decide +kernel
theorem dX9_digest_217 : decode cX9_digest 217 = .ok (.iconst 3, 1) := by decide +kernel
theorem dX9_digest_218 : decode cX9_digest 218 = .ok (.if_icmp .ge 24, 3) := by decide +kernel
theorem dX9_digest_221 : decode cX9_digest 221 = .ok (.ldc2_w 214, 3) := by decide +kernel
theorem dX9_digest_224 : decode cX9_digest 224 = .ok (.lload_n 1, 1) := by decide +kernel
theorem dX9_digest_225 : decode cX9_digest 225 = .ok (.lmul, 1) := by decide +kernel
theorem dX9_digest_226 : decode cX9_digest 226 = .ok (.aload_n 0, 1) := by decide +kernel
theorem dX9_digest_227 : decode cX9_digest 227 = .ok (.iload_n 3, 1) := by decide +kernel
theorem dX9_digest_228 : decode cX9_digest 228 = .ok (.iload 4, 2) := by decide +kernel
theorem dX9_digest_230 : decode cX9_digest 230 = .ok (.invokevirtual 180, 3) := by decide +kernel
theorem dX9_digest_233 : decode cX9_digest 233 = .ok (.i2l, 1) := by decide +kernel
theorem dX9_digest_234 : decode cX9_digest 234 = .ok (.ladd, 1) := by decide +kernel
theorem dX9_digest_235 : decode cX9_digest 235 = .ok (.lstore_n 1, 1) := by decide +kernel
theorem dX9_digest_236 : decode cX9_digest 236 = .ok (.iinc 4 1, 3) := by decide +kernel
theorem dX9_digest_239 : decode cX9_digest 239 = .ok (.goto (-24), 3) := by decide +kernel
theorem dX9_digest_242 : decode cX9_digest 242 = .ok (.ldc2_w 214, 3) := by decide +kernel
theorem dX9_digest_245 : decode cX9_digest 245 = .ok (.lload_n 1, 1) := by decide +kernel
theorem dX9_digest_246 : decode cX9_digest 246 = .ok (.lmul, 1) := by decide +kernel
theorem dX9_digest_247 : decode cX9_digest 247 = .ok (.aload_n 0, 1) := by decide +kernel
theorem dX9_digest_248 : decode cX9_digest 248 = .ok (.iload_n 3, 1) := by decide +kernel
theorem dX9_digest_249 : decode cX9_digest 249 = .ok (.invokevirtual 192, 3) := by decide +kernel
theorem dX9_digest_252 : decode cX9_digest 252 = .ok (.i2l, 1) := by decide +kernel
theorem dX9_digest_253 : decode cX9_digest 253 = .ok (.ladd, 1) := by decide +kernel
theorem dX9_digest_254 : decode cX9_digest 254 = .ok (.lstore_n 1, 1) := by decide +kernel
theorem dX9_digest_255 : decode cX9_digest 255 = .ok (.iinc 3 1, 3) := by decide +kernel
theorem dX9_digest_258 : decode cX9_digest 258 = .ok (.goto (-213), 3) := by decide +kernel
theorem dX9_digest_261 : decode cX9_digest 261 = .ok (.iconst 0, 1) := by decide +kernel
theorem dX9_digest_262 : decode cX9_digest 262 = .ok (.istore_n 3, 1) := by decide +kernel
theorem dX9_digest_263 : decode cX9_digest 263 = .ok (.iload_n 3, 1) := by decide +kernel
theorem dX9_digest_264 : decode cX9_digest 264 = .ok (.bipush 6, 2) := by decide +kernel
theorem dX9_digest_266 : decode cX9_digest 266 = .ok (.if_icmp .ge 45, 3) := by decide +kernel
theorem dX9_digest_269 : decode cX9_digest 269 = .ok (.ldc2_w 214, 3) := by decide +kernel
theorem dX9_digest_272 : decode cX9_digest 272 = .ok (.lload_n 1, 1) := by decide +kernel
theorem dX9_digest_273 : decode cX9_digest 273 = .ok (.lmul, 1) := by decide +kernel
theorem dX9_digest_274 : decode cX9_digest 274 = .ok (.aload_n 0, 1) := by decide +kernel
theorem dX9_digest_275 : decode cX9_digest 275 = .ok (.iload_n 3, 1) := by decide +kernel
theorem dX9_digest_276 : decode cX9_digest 276 = .ok (.aload_n 0, 1) := by decide +kernel
theorem dX9_digest_277 : decode cX9_digest 277 = .ok (.getfield 90, 3) := by decide +kernel
theorem dX9_digest_280 : decode cX9_digest 280 = .ok (.iconst 0, 1) := by decide +kernel
theorem dX9_digest_281 : decode cX9_digest 281 = .ok (.invokevirtual 119, 3) := by decide +kernel
theorem dX9_digest_284 : decode cX9_digest 284 = .ok (.i2l, 1) := by decide +kernel
theorem dX9_digest_285 : decode cX9_digest 285 = .ok (.ladd, 1) := by decide +kernel
theorem dX9_digest_286 : decode cX9_digest 286 = .ok (.lstore_n 1, 1) := by decide +kernel
theorem dX9_digest_287 : decode cX9_digest 287 = .ok (.ldc2_w 214, 3) := by decide +kernel
theorem dX9_digest_290 : decode cX9_digest 290 = .ok (.lload_n 1, 1) := by decide +kernel
theorem dX9_digest_291 : decode cX9_digest 291 = .ok (.lmul, 1) := by decide +kernel
theorem dX9_digest_292 : decode cX9_digest 292 = .ok (.aload_n 0, 1) := by decide +kernel
theorem dX9_digest_293 : decode cX9_digest 293 = .ok (.iload_n 3, 1) := by decide +kernel
theorem dX9_digest_294 : decode cX9_digest 294 = .ok (.aload_n 0, 1) := by decide +kernel
theorem dX9_digest_295 : decode cX9_digest 295 = .ok (.getfield 90, 3) := by decide +kernel
theorem dX9_digest_298 : decode cX9_digest 298 = .ok (.iconst 1, 1) := by decide +kernel
theorem dX9_digest_299 : decode cX9_digest 299 = .ok (.invokevirtual 119, 3) := by decide +kernel
theorem dX9_digest_302 : decode cX9_digest 302 = .ok (.i2l, 1) := by decide +kernel
theorem dX9_digest_303 : decode cX9_digest 303 = .ok (.ladd, 1) := by decide +kernel
theorem dX9_digest_304 : decode cX9_digest 304 = .ok (.lstore_n 1, 1) := by decide +kernel
theorem dX9_digest_305 : decode cX9_digest 305 = .ok (.iinc 3 1, 3) := by decide +kernel
theorem dX9_digest_308 : decode cX9_digest 308 = .ok (.goto (-45), 3) := by decide +kernel
theorem dX9_digest_311 : decode cX9_digest 311 = .ok (.iconst 0, 1) := by decide +kernel
theorem dX9_digest_312 : decode cX9_digest 312 = .ok (.istore_n 3, 1) := by decide +kernel
theorem dX9_digest_313 : decode cX9_digest 313 = .ok (.iload_n 3, 1) := by decide +kernel
theorem dX9_digest_314 : decode cX9_digest 314 = .ok (.aload_n 0, 1) := by decide +kernel
theorem dX9_digest_315 : decode cX9_digest 315 = .ok (.getfield 90, 3) := by decide +kernel
theorem dX9_digest_318 : decode cX9_digest 318 = .ok (.if_icmp .ge 51, 3) := by decide +kernel
theorem dX9_digest_321 : decode cX9_digest 321 = .ok (.ldc2_w 214, 3) := by decide +kernel
theorem dX9_digest_324 : decode cX9_digest 324 = .ok (.lload_n 1, 1) := by decide +kernel
theorem dX9_digest_325 : decode cX9_digest 325 = .ok (.lmul, 1) := by decide +kernel
theorem dX9_digest_326 : decode cX9_digest 326 = .ok (.aload_n 0, 1) := by decide +kernel
theorem dX9_digest_327 : decode cX9_digest 327 = .ok (.iload_n 3, 1) := by decide +kernel
theorem dX9_digest_328 : decode cX9_digest 328 = .ok (.invokevirtual 164, 3) := by decide +kernel
theorem dX9_digest_331 : decode cX9_digest 331 = .ok (.i2l, 1) := by decide +kernel
theorem dX9_digest_332 : decode cX9_digest 332 = .ok (.ladd, 1) := by decide +kernel
theorem dX9_digest_333 : decode cX9_digest 333 = .ok (.lstore_n 1, 1) := by decide +kernel
theorem dX9_digest_334 : decode cX9_digest 334 = .ok (.ldc2_w 214, 3) := by decide +kernel
theorem dX9_digest_337 : decode cX9_digest 337 = .ok (.lload_n 1, 1) := by decide +kernel
theorem dX9_digest_338 : decode cX9_digest 338 = .ok (.lmul, 1) := by decide +kernel
theorem dX9_digest_339 : decode cX9_digest 339 = .ok (.aload_n 0, 1) := by decide +kernel
theorem dX9_digest_340 : decode cX9_digest 340 = .ok (.iload_n 3, 1) := by decide +kernel
theorem dX9_digest_341 : decode cX9_digest 341 = .ok (.iconst (-1), 1) := by decide +kernel
theorem dX9_digest_342 : decode cX9_digest 342 = .ok (.invokevirtual 170, 3) := by decide +kernel
theorem dX9_digest_345 : decode cX9_digest 345 = .ok (.i2l, 1) := by decide +kernel
theorem dX9_digest_346 : decode cX9_digest 346 = .ok (.ladd, 1) := by decide +kernel
theorem dX9_digest_347 : decode cX9_digest 347 = .ok (.lstore_n 1, 1) := by decide +kernel
theorem dX9_digest_348 : decode cX9_digest 348 = .ok (.ldc2_w 214, 3) := by decide +kernel
theorem dX9_digest_351 : decode cX9_digest 351 = .ok (.lload_n 1, 1) := by decide +kernel
theorem dX9_digest_352 : decode cX9_digest 352 = .ok (.lmul, 1) := by decide +kernel
theorem dX9_digest_353 : decode cX9_digest 353 = .ok (.aload_n 0, 1) := by decide +kernel
theorem dX9_digest_354 : decode cX9_digest 354 = .ok (.iload_n 3, 1) := by decide +kernel
theorem dX9_digest_355 : decode cX9_digest 355 = .ok (.iconst 0, 1) := by decide +kernel
theorem dX9_digest_356 : decode cX9_digest 356 = .ok (.iconst 5, 1) := by decide +kernel
theorem dX9_digest_357 : decode cX9_digest 357 = .ok (.invokevirtual 167, 3) := by decide +kernel
theorem dX9_digest_360 : decode cX9_digest 360 = .ok (.i2l, 1) := by decide +kernel
theorem dX9_digest_361 : decode cX9_digest 361 = .ok (.ladd, 1) := by decide +kernel
theorem dX9_digest_362 : decode cX9_digest 362 = .ok (.lstore_n 1, 1) := by decide +kernel
theorem dX9_digest_363 : decode cX9_digest 363 = .ok (.iinc 3 1, 3) := by decide +kernel
theorem dX9_digest_366 : decode cX9_digest 366 = .ok (.goto (-53), 3) := by decide +kernel
theorem dX9_digest_369 : decode cX9_digest 369 = .ok (.ldc2_w 214, 3) := by decide +kernel
theorem dX9_digest_372 : decode cX9_digest 372 = .ok (.lload_n 1, 1) := by decide +kernel
theorem dX9_digest_373 : decode cX9_digest 373 = .ok (.lmul, 1) := by decide +kernel
theorem dX9_digest_374 : decode cX9_digest 374 = .ok (.aload_n 0, 1) := by decide +kernel
theorem dX9_digest_375 : decode cX9_digest 375 = .ok (.iconst (-1), 1) := by decide +kernel
theorem dX9_digest_376 : decode cX9_digest 376 = .ok (.invokevirtual 140, 3) := by decide +kernel
theorem dX9_digest_379 : decode cX9_digest 379 = .ok (.i2l, 1) := by decide +kernel
theorem dX9_digest_380 : decode cX9_digest 380 = .ok (.ladd, 1) := by decide +kernel
theorem dX9_digest_381 : decode cX9_digest 381 = .ok (.lstore_n 1, 1) := by decide +kernel
theorem dX9_digest_382 : decode cX9_digest 382 = .ok (.ldc2_w 214, 3) := by decide +kernel
theorem dX9_digest_385 : decode cX9_digest 385 = .ok (.lload_n 1, 1) := by decide +kernel
theorem dX9_digest_386 : decode cX9_digest 386 = .ok (.lmul, 1) := by decide +kernel
theorem dX9_digest_387 : decode cX9_digest 387 = .ok (.aload_n 0, 1) := by decide +kernel
theorem dX9_digest_388 : decode cX9_digest 388 = .ok (.iconst (-1), 1) := by decide +kernel
theorem dX9_digest_389 : decode cX9_digest 389 = .ok (.invokevirtual 161, 3) := by decide +kernel
theorem dX9_digest_392 : decode cX9_digest 392 = .ok (.i2l, 1) := by decide +kernel
theorem dX9_digest_393 : decode cX9_digest 393 = .ok (.ladd, 1) := by decide +kernel
theorem dX9_digest_394 : decode cX9_digest 394 = .ok (.lstore_n 1, 1) := by decide +kernel
theorem dX9_digest_395 : decode cX9_digest 395 = .ok (.ldc2_w 214, 3) := by decide +kernel
theorem dX9_digest_398 : decode cX9_digest 398 = .ok (.lload_n 1, 1) := by decide +kernel
theorem dX9_digest_399 : decode cX9_digest 399 = .ok (.lmul, 1) := by decide +kernel
theorem dX9_digest_400 : decode cX9_digest 400 = .ok (.aload_n 0, 1) := by decide +kernel
theorem dX9_digest_401 : decode cX9_digest 401 = .ok (.iconst (-1), 1) := by decide +kernel
theorem dX9_digest_402 : decode cX9_digest 402 = .ok (.invokevirtual 192, 3) := by decide +kernel
theorem dX9_digest_405 : decode cX9_digest 405 = .ok (.i2l, 1) := by decide +kernel
theorem dX9_digest_406 : decode cX9_digest 406 = .ok (.ladd, 1) := by decide +kernel
theorem dX9_digest_407 : decode cX9_digest 407 = .ok (.lstore_n 1, 1) := by decide +kernel
theorem dX9_digest_408 : decode cX9_digest 408 = .ok (.ldc2_w 214, 3) := by decide +kernel
theorem dX9_digest_411 : decode cX9_digest 411 = .ok (.lload_n 1, 1) := by decide +kernel
theorem dX9_digest_412 : decode cX9_digest 412 = .ok (.lmul, 1) := by decide +kernel
theorem dX9_digest_413 : decode cX9_digest 413 = .ok (.aload_n 0, 1) := by decide +kernel
theorem dX9_digest_414 : decode cX9_digest 414 = .ok (.invokevirtual 183, 3) := by decide +kernel
theorem dX9_digest_417 : decode cX9_digest 417 = .ok (.i2l, 1) := by decide +kernel
theorem dX9_digest_418 : decode cX9_digest 418 = .ok (.ladd, 1) := by decide +kernel
theorem dX9_digest_419 : decode cX9_digest 419 = .ok (.lstore_n 1, 1) := by decide +kernel
theorem dX9_digest_420 : decode cX9_digest 420 = .ok (.ldc2_w 214, 3) := by decide +kernel
theorem dX9_digest_423 : decode cX9_digest 423 = .ok (.lload_n 1, 1) := by decide +kernel
theorem dX9_digest_424 : decode cX9_digest 424 = .ok (.lmul, 1) := by decide +kernel
theorem dX9_digest_425 : decode cX9_digest 425 = .ok (.aload_n 0, 1) := by decide +kernel
theorem dX9_digest_426 : decode cX9_digest 426 = .ok (.invokevirtual 195, 3) := by decide +kernel
theorem dX9_digest_429 : decode cX9_digest 429 = .ok (.i2l, 1) := by decide +kernel
theorem dX9_digest_430 : decode cX9_digest 430 = .ok (.ladd, 1) := by decide +kernel
theorem dX9_digest_431 : decode cX9_digest 431 = .ok (.lreturn, 1) := by decide +kernel
theorem dJ6_bitCount_0f7a4_0 : decode cJ6_bitCount_0f7a4 0 = .ok (.iload_n 0, 1) := by decide +kernel
theorem dJ6_bitCount_0f7a4_1 : decode cJ6_bitCount_0f7a4 1 = .ok (.iload_n 0, 1) := by decide +kernel
theorem dJ6_bitCount_0f7a4_2 : decode cJ6_bitCount_0f7a4 2 = .ok (.iconst 1, 1) := by decide +kernel
theorem dJ6_bitCount_0f7a4_3 : decode cJ6_bitCount_0f7a4 3 = .ok (.iushr, 1) := by decide +kernel
theorem dJ6_bitCount_0f7a4_4 : decode cJ6_bitCount_0f7a4 4 = .ok (.ldc_w 265, 3) := by decide +kernel
theorem dJ6_bitCount_0f7a4_7 : decode cJ6_bitCount_0f7a4 7 = .ok (.iand, 1) := by decide +kernel
theorem dJ6_bitCount_0f7a4_8 : decode cJ6_bitCount_0f7a4 8 = .ok (.isub, 1) := by decide +kernel
theorem dJ6_bitCount_0f7a4_9 : decode cJ6_bitCount_0f7a4 9 = .ok (.istore_n 0, 1) := by decide +kernel
theorem dJ6_bitCount_0f7a4_10 : decode cJ6_bitCount_0f7a4 10 = .ok (.iload_n 0, 1) := by decide +kernel
theorem dJ6_bitCount_0f7a4_11 : decode cJ6_bitCount_0f7a4 11 = .ok (.ldc_w 266, 3) := by decide +kernel
theorem dJ6_bitCount_0f7a4_14 : decode cJ6_bitCount_0f7a4 14 = .ok (.iand, 1) := by decide +kernel
theorem dJ6_bitCount_0f7a4_15 : decode cJ6_bitCount_0f7a4 15 = .ok (.iload_n 0, 1) := by decide +kernel
theorem dJ6_bitCount_0f7a4_16 : decode cJ6_bitCount_0f7a4 16 = .ok (.iconst 2, 1) := by decide +kernel
theorem dJ6_bitCount_0f7a4_17 : decode cJ6_bitCount_0f7a4 17 = .ok (.iushr, 1) := by decide +kernel
theorem dJ6_bitCount_0f7a4_18 : decode cJ6_bitCount_0f7a4 18 = .ok (.ldc_w 266, 3) := by decide +kernel
theorem dJ6_bitCount_0f7a4_21 : decode cJ6_bitCount_0f7a4 21 = .ok (.iand, 1) := by decide +kernel
theorem dJ6_bitCount_0f7a4_22 : decode cJ6_bitCount_0f7a4 22 = .ok (.iadd, 1) := by decide +kernel
theorem dJ6_bitCount_0f7a4_23 : decode cJ6_bitCount_0f7a4 23 = .ok (.istore_n 0, 1) := by decide +kernel
theorem dJ6_bitCount_0f7a4_24 : decode cJ6_bitCount_0f7a4 24 = .ok (.iload_n 0, 1) := by decide +kernel
theorem dJ6_bitCount_0f7a4_25 : decode cJ6_bitCount_0f7a4 25 = .ok (.iload_n 0, 1) := by decide +kernel
theorem dJ6_bitCount_0f7a4_26 : decode cJ6_bitCount_0f7a4 26 = .ok (.iconst 4, 1) := by decide +kernel
theorem dJ6_bitCount_0f7a4_27 : decode cJ6_bitCount_0f7a4 27 = .ok (.iushr, 1) := by decide +kernel
theorem dJ6_bitCount_0f7a4_28 : decode cJ6_bitCount_0f7a4 28 = .ok (.iadd, 1) := by decide +kernel
theorem dJ6_bitCount_0f7a4_29 : decode cJ6_bitCount_0f7a4 29 = .ok (.ldc_w 267, 3) := by decide +kernel
theorem dJ6_bitCount_0f7a4_32 : decode cJ6_bitCount_0f7a4 32 = .ok (.iand, 1) := by decide +kernel
theorem dJ6_bitCount_0f7a4_33 : decode cJ6_bitCount_0f7a4 33 = .ok (.istore_n 0, 1) := by decide +kernel
theorem dJ6_bitCount_0f7a4_34 : decode cJ6_bitCount_0f7a4 34 = .ok (.iload_n 0, 1) := by decide +kernel
theorem dJ6_bitCount_0f7a4_35 : decode cJ6_bitCount_0f7a4 35 = .ok (.iload_n 0, 1) := by decide +kernel
theorem dJ6_bitCount_0f7a4_36 : decode cJ6_bitCount_0f7a4 36 = .ok (.bipush 8, 2) := by decide +kernel
theorem dJ6_bitCount_0f7a4_38 : decode cJ6_bitCount_0f7a4 38 = .ok (.iushr, 1) := by decide +kernel
theorem dJ6_bitCount_0f7a4_39 : decode cJ6_bitCount_0f7a4 39 = .ok (.iadd, 1) := by decide +kernel
theorem dJ6_bitCount_0f7a4_40 : decode cJ6_bitCount_0f7a4 40 = .ok (.istore_n 0, 1) := by decide +kernel
theorem dJ6_bitCount_0f7a4_41 : decode cJ6_bitCount_0f7a4 41 = .ok (.iload_n 0, 1) := by decide +kernel
theorem dJ6_bitCount_0f7a4_42 : decode cJ6_bitCount_0f7a4 42 = .ok (.iload_n 0, 1) := by decide +kernel
theorem dJ6_bitCount_0f7a4_43 : decode cJ6_bitCount_0f7a4 43 = .ok (.bipush 16, 2) := by decide +kernel
theorem dJ6_bitCount_0f7a4_45 : decode cJ6_bitCount_0f7a4 45 = .ok (.iushr, 1) := by decide +kernel
theorem dJ6_bitCount_0f7a4_46 : decode cJ6_bitCount_0f7a4 46 = .ok (.iadd, 1) := by decide +kernel
theorem dJ6_bitCount_0f7a4_47 : decode cJ6_bitCount_0f7a4 47 = .ok (.istore_n 0, 1) := by decide +kernel
theorem dJ6_bitCount_0f7a4_48 : decode cJ6_bitCount_0f7a4 48 = .ok (.iload_n 0, 1) := by decide +kernel
theorem dJ6_bitCount_0f7a4_49 : decode cJ6_bitCount_0f7a4 49 = .ok (.bipush 63, 2) := by decide +kernel
theorem dJ6_bitCount_0f7a4_51 : decode cJ6_bitCount_0f7a4 51 = .ok (.iand, 1) := by decide +kernel
theorem dJ6_bitCount_0f7a4_52 : decode cJ6_bitCount_0f7a4 52 = .ok (.ireturn, 1) := by decide +kernel
theorem dJ9_max_7cf53_0 : decode cJ9_max_7cf53 0 = .ok (.iload_n 0, 1) := by decide +kernel
theorem dJ9_max_7cf53_1 : decode cJ9_max_7cf53 1 = .ok (.iload_n 1, 1) := by decide +kernel
theorem dJ9_max_7cf53_2 : decode cJ9_max_7cf53 2 = .ok (.if_icmp .lt 7, 3) := by decide +kernel
theorem dJ9_max_7cf53_5 : decode cJ9_max_7cf53 5 = .ok (.iload_n 0, 1) := by decide +kernel
theorem dJ9_max_7cf53_6 : decode cJ9_max_7cf53 6 = .ok (.goto 4, 3) := by decide +kernel
theorem dJ9_max_7cf53_9 : decode cJ9_max_7cf53 9 = .ok (.iload_n 1, 1) := by decide +kernel
theorem dJ9_max_7cf53_10 : decode cJ9_max_7cf53 10 = .ok (.ireturn, 1) := by decide +kernel
theorem dJ9_min_7cf53_0 : decode cJ9_min_7cf53 0 = .ok (.iload_n 0, 1) := by decide +kernel
theorem dJ9_min_7cf53_1 : decode cJ9_min_7cf53 1 = .ok (.iload_n 1, 1) := by decide +kernel
theorem dJ9_min_7cf53_2 : decode cJ9_min_7cf53 2 = .ok (.if_icmp .gt 7, 3) := by decide +kernel
theorem dJ9_min_7cf53_5 : decode cJ9_min_7cf53 5 = .ok (.iload_n 0, 1) := by decide +kernel
theorem dJ9_min_7cf53_6 : decode cJ9_min_7cf53 6 = .ok (.goto 4, 3) := by decide +kernel
theorem dJ9_min_7cf53_9 : decode cJ9_min_7cf53 9 = .ok (.iload_n 1, 1) := by decide +kernel
theorem dJ9_min_7cf53_10 : decode cJ9_min_7cf53 10 = .ok (.ireturn, 1) := by decide +kernel
theorem dJ7_fill_53178_0 : decode cJ7_fill_53178 0 = .ok (.iconst 0, 1) := by decide +kernel
theorem dJ7_fill_53178_1 : decode cJ7_fill_53178 1 = .ok (.istore_n 2, 1) := by decide +kernel
theorem dJ7_fill_53178_2 : decode cJ7_fill_53178 2 = .ok (.aload_n 0, 1) := by decide +kernel
theorem dJ7_fill_53178_3 : decode cJ7_fill_53178 3 = .ok (.arraylength, 1) := by decide +kernel
theorem dJ7_fill_53178_4 : decode cJ7_fill_53178 4 = .ok (.istore_n 3, 1) := by decide +kernel
theorem dJ7_fill_53178_5 : decode cJ7_fill_53178 5 = .ok (.iload_n 2, 1) := by decide +kernel
theorem dJ7_fill_53178_6 : decode cJ7_fill_53178 6 = .ok (.iload_n 3, 1) := by decide +kernel
theorem dJ7_fill_53178_7 : decode cJ7_fill_53178 7 = .ok (.if_icmp .ge 13, 3) := by decide +kernel
theorem dJ7_fill_53178_10 : decode cJ7_fill_53178 10 = .ok (.aload_n 0, 1) := by decide +kernel
theorem dJ7_fill_53178_11 : decode cJ7_fill_53178 11 = .ok (.iload_n 2, 1) := by decide +kernel
theorem dJ7_fill_53178_12 : decode cJ7_fill_53178 12 = .ok (.iload_n 1, 1) := by decide +kernel
theorem dJ7_fill_53178_13 : decode cJ7_fill_53178 13 = .ok (.iastore, 1) := by decide +kernel
theorem dJ7_fill_53178_14 : decode cJ7_fill_53178 14 = .ok (.iinc 2 1, 3) := by decide +kernel
theorem dJ7_fill_53178_17 : decode cJ7_fill_53178 17 = .ok (.goto (-12), 3) := by decide +kernel
theorem dJ7_fill_53178_20 : decode cJ7_fill_53178 20 = .ok (.return_, 1) := by decide +kernel
