set_option maxRecDepth 20000 in
theorem ggX8_init_X4_init : GoodIn wsX8_init wsX4_init := goodIn_r _ [39, 40, 2, 3, 41, 42, 43, 44, 97, 98] (by decide +kernel) (by decide +kernel)
set_option maxRecDepth 20000 in
theorem gX8_init_X4_init : GoodIn wsX8_init (wsX4_init) := ggX8_init_X4_init
set_option maxRecDepth 20000 in
theorem ggX8_init_X1_init : GoodIn wsX8_init wsX1_init := goodIn_r _ [46, 47, 2, 3, 42, 48, 49, 50, 51, 108, 109, 110, 111] (by decide +kernel) (by decide +kernel)
set_option maxRecDepth 20000 in
theorem gX8_init_X1_init_n18 : GoodIn wsX8_init (wsX1_init) := ggX8_init_X1_init
set_option maxRecDepth 20000 in
theorem ggX8_init_X7_init : GoodIn wsX8_init wsX7_init := goodIn_r _ [54, 55, 2, 3, 56, 57, 112, 113] (by decide +kernel) (by decide +kernel)
set_option maxRecDepth 20000 in
theorem gX8_init_X7_init : GoodIn wsX8_init (wsX7_init) := ggX8_init_X7_init
set_option maxRecDepth 20000 in
theorem ggX8_init_X2_init : GoodIn wsX8_init wsX2_init := goodIn_r _ [60, 61, 2, 3, 42, 62, 63, 64, 65, 66, 114, 115, 116, 117, 118] (by decide +kernel) (by decide +kernel)
set_option maxRecDepth 20000 in
theorem gX8_init_X2_init : GoodIn wsX8_init (wsX2_init) := ggX8_init_X2_init
set_option maxRecDepth 20000 in
theorem ggX8_init_X6_init : GoodIn wsX8_init wsX6_init := goodIn_r _ [69, 70, 2, 3, 42, 71, 72, 73, 74, 75, 119, 120, 121, 122, 123] (by decide +kernel) (by decide +kernel)
set_option maxRecDepth 20000 in
theorem gX8_init_X6_init : GoodIn wsX8_init (wsX6_init) := ggX8_init_X6_init
set_option maxRecDepth 20000 in
theorem ggX8_init_X3_init : GoodIn wsX8_init wsX3_init := goodIn_r _ [77, 78, 2, 3, 42, 79, 80, 81, 124, 125, 126] (by decide +kernel) (by decide +kernel)
set_option maxRecDepth 20000 in
theorem gX8_init_X3_init_n52 : GoodIn wsX8_init (wsX3_init) := ggX8_init_X3_init
set_option maxRecDepth 20000 in
theorem ggX8_init_X0_init : GoodIn wsX8_init wsX0_init := goodIn_r _ [84, 85, 2, 3, 86, 42, 87, 88, 89, 127, 128, 129] (by decide +kernel) (by decide +kernel)
set_option maxRecDepth 20000 in
theorem gX8_init_X0_init : GoodIn wsX8_init (wsX0_init) := ggX8_init_X0_init
set_option maxRecDepth 20000 in
theorem ggX8_init_X5_init : GoodIn wsX8_init wsX5_init := goodIn_r _ [91, 92, 2, 3, 42, 93, 94, 95, 96, 130, 131, 132, 133] (by decide +kernel) (by decide +kernel)
set_option maxRecDepth 20000 in
theorem gX8_init_X5_init_n74 : GoodIn wsX8_init (wsX5_init) := ggX8_init_X5_init
theorem dX8_init_0 : decode cX8_init 0 = .ok (.aload_n 0, 1) := by decide +kernel
theorem dX8_init_1 : decode cX8_init 1 = .ok (.invokespecial 3, 3) := by decide +kernel
theorem dX8_init_4 : decode cX8_init 4 = .ok (.aload_n 0, 1) := by decide +kernel
theorem dX8_init_5 : decode cX8_init 5 = .ok (.new 9, 3) := by decide +kernel
theorem dX8_init_8 : decode cX8_init 8 = .ok (.dup, 1) := by decide +kernel
theorem dX8_init_9 : decode cX8_init 9 = .ok (.invokespecial 11, 3) := by decide +kernel
theorem dX8_init_12 : decode cX8_init 12 = .ok (.putfield 12, 3) := by decide +kernel
theorem dX8_init_15 : decode cX8_init 15 = .ok (.aload_n 0, 1) := by decide +kernel
theorem dX8_init_16 : decode cX8_init 16 = .ok (.new 16, 3) := by decide +kernel
theorem dX8_init_19 : decode cX8_init 19 = .ok (.dup, 1) := by decide +kernel
theorem dX8_init_20 : decode cX8_init 20 = .ok (.invokespecial 18, 3) := by decide +kernel
theorem dX8_init_23 : decode cX8_init 23 = .ok (.putfield 19, 3) := by decide +kernel
theorem dX8_init_26 : decode cX8_init 26 = .ok (.aload_n 0, 1) := by decide +kernel
theorem dX8_init_27 : decode cX8_init 27 = .ok (.new 23, 3) := by decide +kernel
theorem dX8_init_30 : decode cX8_init 30 = .ok (.dup, 1) := by decide +kernel
theorem dX8_init_31 : decode cX8_init 31 = .ok (.aload_n 0, 1) := by decide +kernel
theorem dX8_init_32 : decode cX8_init 32 = .ok (.getfield 12, 3) := by decide +kernel
theorem dX8_init_35 : decode cX8_init 35 = .ok (.aload_n 0, 1) := by decide +kernel
theorem dX8_init_36 : decode cX8_init 36 = .ok (.getfield 19, 3) := by decide +kernel
theorem dX8_init_39 : decode cX8_init 39 = .ok (.invokespecial 25, 3) := by decide +kernel
theorem dX8_init_42 : decode cX8_init 42 = .ok (.putfield 28, 3) := by decide +kernel
theorem dX8_init_45 : decode cX8_init 45 = .ok (.aload_n 0, 1) := by decide +kernel
theorem dX8_init_46 : decode cX8_init 46 = .ok (.new 32, 3) := by decide +kernel
theorem dX8_init_49 : decode cX8_init 49 = .ok (.dup, 1) := by decide +kernel
theorem dX8_init_50 : decode cX8_init 50 = .ok (.aload_n 0, 1) := by decide +kernel
theorem dX8_init_51 : decode cX8_init 51 = .ok (.getfield 19, 3) := by decide +kernel
theorem dX8_init_54 : decode cX8_init 54 = .ok (.invokespecial 34, 3) := by decide +kernel
theorem dX8_init_57 : decode cX8_init 57 = .ok (.putfield 37, 3) := by decide +kernel
theorem dX8_init_60 : decode cX8_init 60 = .ok (.aload_n 0, 1) := by decide +kernel
theorem dX8_init_61 : decode cX8_init 61 = .ok (.new 41, 3) := by decide +kernel
theorem dX8_init_64 : decode cX8_init 64 = .ok (.dup, 1) := by decide +kernel
theorem dX8_init_65 : decode cX8_init 65 = .ok (.aload_n 0, 1) := by decide +kernel
theorem dX8_init_66 : decode cX8_init 66 = .ok (.getfield 12, 3) := by decide +kernel
theorem dX8_init_69 : decode cX8_init 69 = .ok (.invokespecial 43, 3) := by decide +kernel
theorem dX8_init_72 : decode cX8_init 72 = .ok (.putfield 46, 3) := by decide +kernel
theorem dX8_init_75 : decode cX8_init 75 = .ok (.aload_n 0, 1) := by decide +kernel
theorem dX8_init_76 : decode cX8_init 76 = .ok (.new 50, 3) := by decide +kernel
theorem dX8_init_79 : decode cX8_init 79 = .ok (.dup, 1) := by decide +kernel
theorem dX8_init_80 : decode cX8_init 80 = .ok (.invokespecial 52, 3) := by decide +kernel
theorem dX8_init_83 : decode cX8_init 83 = .ok (.putfield 53, 3) := by decide +kernel
theorem dX8_init_86 : decode cX8_init 86 = .ok (.aload_n 0, 1) := by decide +kernel
theorem dX8_init_87 : decode cX8_init 87 = .ok (.new 57, 3) := by decide +kernel
theorem dX8_init_90 : decode cX8_init 90 = .ok (.dup, 1) := by decide +kernel
theorem dX8_init_91 : decode cX8_init 91 = .ok (.aload_n 0, 1) := by decide +kernel
theorem dX8_init_92 : decode cX8_init 92 = .ok (.getfield 12, 3) := by decide +kernel
theorem dX8_init_95 : decode cX8_init 95 = .ok (.invokespecial 59, 3) := by decide +kernel
theorem dX8_init_98 : decode cX8_init 98 = .ok (.putfield 60, 3) := by decide +kernel
theorem dX8_init_101 : decode cX8_init 101 = .ok (.aload_n 0, 1) := by decide +kernel
theorem dX8_init_102 : decode cX8_init 102 = .ok (.iconst 4, 1) := by decide +kernel
theorem dX8_init_103 : decode cX8_init 103 = .ok (.anewarray 64, 3) := by decide +kernel
theorem dX8_init_106 : decode cX8_init 106 = .ok (.putfield 66, 3) := by decide +kernel
theorem dX8_init_109 : decode cX8_init 109 = .ok (.aload_n 0, 1) := by decide +kernel
theorem dX8_init_110 : decode cX8_init 110 = .ok (.iconst 0, 1) := by decide +kernel
theorem dX8_init_111 : decode cX8_init 111 = .ok (.putfield 70, 3) := by decide +kernel
theorem dX8_init_114 : decode cX8_init 114 = .ok (.iconst 0, 1) := by decide +kernel
theorem dX8_init_115 : decode cX8_init 115 = .ok (.istore_n 1, 1) := by decide +kernel
theorem dX8_init_116 : decode cX8_init 116 = .ok (.iload_n 1, 1) := by decide +kernel
theorem dX8_init_117 : decode cX8_init 117 = .ok (.iconst 4, 1) := by decide +kernel
theorem dX8_init_118 : decode cX8_init 118 = .ok (.if_icmp .ge 22, 3) := by decide +kernel
theorem dX8_init_121 : decode cX8_init 121 = .ok (.aload_n 0, 1) := by decide +kernel
theorem dX8_init_122 : decode cX8_init 122 = .ok (.getfield 66, 3) := by decide +kernel
theorem dX8_init_125 : decode cX8_init 125 = .ok (.iload_n 1, 1) := by decide +kernel
theorem dX8_init_126 : decode cX8_init 126 = .ok (.new 64, 3) := by decide +kernel
theorem dX8_init_129 : decode cX8_init 129 = .ok (.dup, 1) := by decide +kernel
theorem dX8_init_130 : decode cX8_init 130 = .ok (.invokespecial 74, 3) := by decide +kernel
theorem dX8_init_133 : decode cX8_init 133 = .ok (.aastore, 1) := by decide +kernel
theorem dX8_init_134 : decode cX8_init 134 = .ok (.iinc 1 1, 3) := by decide +kernel
theorem dX8_init_137 : decode cX8_init 137 = .ok (.goto (-21), 3) := by decide +kernel
theorem dX8_init_140 : decode cX8_init 140 = .ok (.return_, 1) := by decide +kernel
set_option maxRecDepth 20000 in
theorem ggX8_hull_X8_isShip : GoodIn wsX8_hull wsX8_isShip := goodIn_r _ [6, 7, 8, 5, 9] (by decide +kernel) (by decide +kernel)
set_option maxRecDepth 20000 in
theorem gX8_hull_X8_isShip : GoodIn wsX8_hull (va_wsS RX8 75 yX8_isShip wsX8_isShip) := goodIn_app (goodIn_of _ (by decide +kernel)) ggX8_hull_X8_isShip
set_option maxRecDepth 20000 in
theorem ggX8_hull_X8_isBelow : GoodIn wsX8_hull wsX8_isBelow := goodIn_r _ [9] (by decide +kernel) (by decide +kernel)
set_option maxRecDepth 20000 in
theorem gX8_hull_X8_isBelow : GoodIn wsX8_hull (va_wsS RX8 79 yX8_isBelow wsX8_isBelow) := goodIn_app (goodIn_of _ (by decide +kernel)) ggX8_hull_X8_isBelow
set_option maxRecDepth 20000 in
theorem ggX8_hull_X8_isTrait : GoodIn wsX8_hull wsX8_isTrait := goodIn_r _ [12] (by decide +kernel) (by decide +kernel)
set_option maxRecDepth 20000 in
theorem gX8_hull_X8_isTrait : GoodIn wsX8_hull (va_wsS RX8 83 yX8_isTrait wsX8_isTrait) := goodIn_app (goodIn_of _ (by decide +kernel)) ggX8_hull_X8_isTrait
theorem dX8_hull_0 : decode cX8_hull 0 = .ok (.iload_n 1, 1) := by decide +kernel
theorem dX8_hull_1 : decode cX8_hull 1 = .ok (.invokestatic 75, 3) := by decide +kernel
theorem dX8_hull_4 : decode cX8_hull 4 = .ok (.ifCond .eq 19, 3) := by decide +kernel
theorem dX8_hull_7 : decode cX8_hull 7 = .ok (.iload_n 2, 1) := by decide +kernel
theorem dX8_hull_8 : decode cX8_hull 8 = .ok (.iconst 2, 1) := by decide +kernel
theorem dX8_hull_9 : decode cX8_hull 9 = .ok (.invokestatic 79, 3) := by decide +kernel
theorem dX8_hull_12 : decode cX8_hull 12 = .ok (.ifCond .eq 11, 3) := by decide +kernel
theorem dX8_hull_15 : decode cX8_hull 15 = .ok (.iload_n 2, 1) := by decide +kernel
theorem dX8_hull_16 : decode cX8_hull 16 = .ok (.iload_n 3, 1) := by decide +kernel
theorem dX8_hull_17 : decode cX8_hull 17 = .ok (.invokestatic 83, 3) := by decide +kernel
theorem dX8_hull_20 : decode cX8_hull 20 = .ok (.ifCond .ne 6, 3) := by decide +kernel
theorem dX8_hull_23 : decode cX8_hull 23 = .ok (.bipush (-2), 2) := by decide +kernel
theorem dX8_hull_25 : decode cX8_hull 25 = .ok (.ireturn, 1) := by decide +kernel
theorem dX8_hull_26 : decode cX8_hull 26 = .ok (.aload_n 0, 1) := by decide +kernel
theorem dX8_hull_27 : decode cX8_hull 27 = .ok (.getfield 12, 3) := by decide +kernel
theorem dX8_hull_30 : decode cX8_hull 30 = .ok (.getfield 86, 3) := by decide +kernel
theorem dX8_hull_33 : decode cX8_hull 33 = .ok (.iload_n 2, 1) := by decide +kernel
theorem dX8_hull_34 : decode cX8_hull 34 = .ok (.aaload, 1) := by decide +kernel
theorem dX8_hull_35 : decode cX8_hull 35 = .ok (.iload_n 1, 1) := by decide +kernel
theorem dX8_hull_36 : decode cX8_hull 36 = .ok (.iaload, 1) := by decide +kernel
theorem dX8_hull_37 : decode cX8_hull 37 = .ok (.istore 4, 2) := by decide +kernel
theorem dX8_hull_39 : decode cX8_hull 39 = .ok (.aload_n 0, 1) := by decide +kernel
theorem dX8_hull_40 : decode cX8_hull 40 = .ok (.getfield 12, 3) := by decide +kernel
theorem dX8_hull_43 : decode cX8_hull 43 = .ok (.getfield 86, 3) := by decide +kernel
theorem dX8_hull_46 : decode cX8_hull 46 = .ok (.iload_n 2, 1) := by decide +kernel
theorem dX8_hull_47 : decode cX8_hull 47 = .ok (.aaload, 1) := by decide +kernel
theorem dX8_hull_48 : decode cX8_hull 48 = .ok (.iload_n 1, 1) := by decide +kernel
theorem dX8_hull_49 : decode cX8_hull 49 = .ok (.iload_n 3, 1) := by decide +kernel
theorem dX8_hull_50 : decode cX8_hull 50 = .ok (.iastore, 1) := by decide +kernel
theorem dX8_hull_51 : decode cX8_hull 51 = .ok (.iload 4, 2) := by decide +kernel
theorem dX8_hull_53 : decode cX8_hull 53 = .ok (.ireturn, 1) := by decide +kernel
set_option maxRecDepth 20000 in
theorem ggX8_name_X8_isShip : GoodIn wsX8_name wsX8_isShip := goodIn_r _ [6, 7, 8, 5, 9] (by decide +kernel) (by decide +kernel)
set_option maxRecDepth 20000 in
theorem gX8_name_X8_isShip : GoodIn wsX8_name (va_wsS RX8 75 yX8_isShip wsX8_isShip) := goodIn_app (goodIn_of _ (by decide +kernel)) ggX8_name_X8_isShip
set_option maxRecDepth 20000 in
theorem ggX8_name_X8_isBelow : GoodIn wsX8_name wsX8_isBelow := goodIn_r _ [9] (by decide +kernel) (by decide +kernel)
set_option maxRecDepth 20000 in
theorem gX8_name_X8_isBelow : GoodIn wsX8_name (va_wsS RX8 79 yX8_isBelow wsX8_isBelow) := goodIn_app (goodIn_of _ (by decide +kernel)) ggX8_name_X8_isBelow
set_option maxRecDepth 20000 in
theorem ggX8_name_X8_isTrait : GoodIn wsX8_name wsX8_isTrait := goodIn_r _ [12] (by decide +kernel) (by decide +kernel)
set_option maxRecDepth 20000 in
theorem gX8_name_X8_isTrait : GoodIn wsX8_name (va_wsS RX8 83 yX8_isTrait wsX8_isTrait) := goodIn_app (goodIn_of _ (by decide +kernel)) ggX8_name_X8_isTrait
theorem dX8_name_0 : decode cX8_name 0 = .ok (.iload_n 1, 1) := by decide +kernel
theorem dX8_name_1 : decode cX8_name 1 = .ok (.invokestatic 75, 3) := by decide +kernel
theorem dX8_name_4 : decode cX8_name 4 = .ok (.ifCond .eq 19, 3) := by decide +kernel
theorem dX8_name_7 : decode cX8_name 7 = .ok (.iload_n 2, 1) := by decide +kernel
theorem dX8_name_8 : decode cX8_name 8 = .ok (.iconst 3, 1) := by decide +kernel
theorem dX8_name_9 : decode cX8_name 9 = .ok (.invokestatic 79, 3) := by decide +kernel
theorem dX8_name_12 : decode cX8_name 12 = .ok (.ifCond .eq 11, 3) := by decide +kernel
theorem dX8_name_15 : decode cX8_name 15 = .ok (.iload_n 2, 1) := by decide +kernel
theorem dX8_name_16 : decode cX8_name 16 = .ok (.iload_n 3, 1) := by decide +kernel
theorem dX8_name_17 : decode cX8_name 17 = .ok (.invokestatic 83, 3) := by decide +kernel
theorem dX8_name_20 : decode cX8_name 20 = .ok (.ifCond .ne 6, 3) := by decide +kernel
theorem dX8_name_23 : decode cX8_name 23 = .ok (.bipush (-2), 2) := by decide +kernel
theorem dX8_name_25 : decode cX8_name 25 = .ok (.ireturn, 1) := by decide +kernel
theorem dX8_name_26 : decode cX8_name 26 = .ok (.aload_n 0, 1) := by decide +kernel
theorem dX8_name_27 : decode cX8_name 27 = .ok (.getfield 12, 3) := by decide +kernel
theorem dX8_name_30 : decode cX8_name 30 = .ok (.getfield 90, 3) := by decide +kernel
theorem dX8_name_33 : decode cX8_name 33 = .ok (.iload_n 2, 1) := by decide +kernel
theorem dX8_name_34 : decode cX8_name 34 = .ok (.aaload, 1) := by decide +kernel
theorem dX8_name_35 : decode cX8_name 35 = .ok (.iload_n 1, 1) := by decide +kernel
theorem dX8_name_36 : decode cX8_name 36 = .ok (.iaload, 1) := by decide +kernel
theorem dX8_name_37 : decode cX8_name 37 = .ok (.istore 4, 2) := by decide +kernel
theorem dX8_name_39 : decode cX8_name 39 = .ok (.aload_n 0, 1) := by decide +kernel
theorem dX8_name_40 : decode cX8_name 40 = .ok (.getfield 12, 3) := by decide +kernel
theorem dX8_name_43 : decode cX8_name 43 = .ok (.getfield 90, 3) := by decide +kernel
theorem dX8_name_46 : decode cX8_name 46 = .ok (.iload_n 2, 1) := by decide +kernel
theorem dX8_name_47 : decode cX8_name 47 = .ok (.aaload, 1) := by decide +kernel
theorem dX8_name_48 : decode cX8_name 48 = .ok (.iload_n 1, 1) := by decide +kernel
theorem dX8_name_49 : decode cX8_name 49 = .ok (.iload_n 3, 1) := by decide +kernel
theorem dX8_name_50 : decode cX8_name 50 = .ok (.iastore, 1) := by decide +kernel
theorem dX8_name_51 : decode cX8_name 51 = .ok (.iload 4, 2) := by decide +kernel
theorem dX8_name_53 : decode cX8_name 53 = .ok (.ireturn, 1) := by decide +kernel
set_option maxRecDepth 20000 in
theorem ggX8_fits_X8_isShip : GoodIn wsX8_fits wsX8_isShip := goodIn_r _ [5, 6, 7, 4, 8] (by decide +kernel) (by decide +kernel)
set_option maxRecDepth 20000 in
theorem gX8_fits_X8_isShip : GoodIn wsX8_fits (va_wsS RX8 75 yX8_isShip wsX8_isShip) := goodIn_app (goodIn_of _ (by decide +kernel)) ggX8_fits_X8_isShip
set_option maxRecDepth 20000 in
theorem ggX8_fits_X4_suits : GoodIn wsX8_fits wsX4_suits := goodIn_r _ [13, 14, 15, 25, 26] (by decide +kernel) (by decide +kernel)
set_option maxRecDepth 20000 in
theorem gX8_fits_X4_suits : GoodIn wsX8_fits (wsV RX8 93 RX4 yX4_suits wsX4_suits) := goodIn_app (goodIn_of _ (by decide +kernel)) ggX8_fits_X4_suits
theorem dX8_fits_0 : decode cX8_fits 0 = .ok (.iload_n 1, 1) := by decide +kernel
theorem dX8_fits_1 : decode cX8_fits 1 = .ok (.invokestatic 75, 3) := by decide +kernel
theorem dX8_fits_4 : decode cX8_fits 4 = .ok (.ifCond .eq 10, 3) := by decide +kernel
theorem dX8_fits_7 : decode cX8_fits 7 = .ok (.iload_n 2, 1) := by decide +kernel
theorem dX8_fits_8 : decode cX8_fits 8 = .ok (.invokestatic 75, 3) := by decide +kernel
theorem dX8_fits_11 : decode cX8_fits 11 = .ok (.ifCond .ne 6, 3) := by decide +kernel
theorem dX8_fits_14 : decode cX8_fits 14 = .ok (.bipush (-2), 2) := by decide +kernel
theorem dX8_fits_16 : decode cX8_fits 16 = .ok (.ireturn, 1) := by decide +kernel
theorem dX8_fits_17 : decode cX8_fits 17 = .ok (.aload_n 0, 1) := by decide +kernel
theorem dX8_fits_18 : decode cX8_fits 18 = .ok (.getfield 12, 3) := by decide +kernel
theorem dX8_fits_21 : decode cX8_fits 21 = .ok (.iload_n 1, 1) := by decide +kernel
theorem dX8_fits_22 : decode cX8_fits 22 = .ok (.iload_n 2, 1) := by decide +kernel
theorem dX8_fits_23 : decode cX8_fits 23 = .ok (.invokevirtual 93, 3) := by decide +kernel
theorem dX8_fits_26 : decode cX8_fits 26 = .ok (.ifCond .eq 7, 3) := by decide +kernel
theorem dX8_fits_29 : decode cX8_fits 29 = .ok (.iconst 1, 1) := by decide +kernel
theorem dX8_fits_30 : decode cX8_fits 30 = .ok (.goto 4, 3) := by decide +kernel
theorem dX8_fits_33 : decode cX8_fits 33 = .ok (.iconst 0, 1) := by decide +kernel
theorem dX8_fits_34 : decode cX8_fits 34 = .ok (.ireturn, 1) := by decide +kernel
set_option maxRecDepth 20000 in
theorem ggX8_type_X8_isBelow : GoodIn wsX8_type wsX8_isBelow := goodIn_r _ [6] (by decide +kernel) (by decide +kernel)
set_option maxRecDepth 20000 in
theorem gX8_type_X8_isBelow : GoodIn wsX8_type (va_wsS RX8 79 yX8_isBelow wsX8_isBelow) := goodIn_app (goodIn_of _ (by decide +kernel)) ggX8_type_X8_isBelow
set_option maxRecDepth 20000 in
theorem ggX8_type_X1_room : GoodIn wsX8_type wsX1_room := goodIn_r _ [11, 12, 45, 46, 47, 48] (by decide +kernel) (by decide +kernel)
set_option maxRecDepth 20000 in
theorem gX8_type_X1_room : GoodIn wsX8_type (wsV RX8 96 RX1 yX1_room wsX1_room) := goodIn_app (goodIn_of _ (by decide +kernel)) ggX8_type_X1_room
set_option maxRecDepth 20000 in
theorem ggX8_type_X1_append : GoodIn wsX8_type wsX1_append := goodIn_r _ [16, 17, 18, 19, 10, 20, 12, 21, 22, 23, 24, 25, 26, 27, 28, 29, 30, 31, 32, 5, 33, 3, 4, 6, 34, 35, 45, 46, 47, 48] (by decide +kernel) (by decide +kernel)
set_option maxRecDepth 20000 in
theorem gX8_type_X1_append : GoodIn wsX8_type (wsV RX8 100 RX1 yX1_append wsX1_append) := goodIn_app (goodIn_of _ (by decide +kernel)) ggX8_type_X1_append
theorem dX8_type_0 : decode cX8_type 0 = .ok (.iload_n 1, 1) := by decide +kernel
theorem dX8_type_1 : decode cX8_type 1 = .ok (.sipush 256, 3) := by decide +kernel
theorem dX8_type_4 : decode cX8_type 4 = .ok (.invokestatic 79, 3) := by decide +kernel
theorem dX8_type_7 : decode cX8_type 7 = .ok (.ifCond .ne 6, 3) := by decide +kernel
theorem dX8_type_10 : decode cX8_type 10 = .ok (.bipush (-2), 2) := by decide +kernel
theorem dX8_type_12 : decode cX8_type 12 = .ok (.ireturn, 1) := by decide +kernel
theorem dX8_type_13 : decode cX8_type 13 = .ok (.aload_n 0, 1) := by decide +kernel
theorem dX8_type_14 : decode cX8_type 14 = .ok (.getfield 19, 3) := by decide +kernel
theorem dX8_type_17 : decode cX8_type 17 = .ok (.invokevirtual 96, 3) := by decide +kernel
theorem dX8_type_20 : decode cX8_type 20 = .ok (.iconst 1, 1) := by decide +kernel
theorem dX8_type_21 : decode cX8_type 21 = .ok (.if_icmp .ge 6, 3) := by decide +kernel
theorem dX8_type_24 : decode cX8_type 24 = .ok (.bipush (-4), 2) := by decide +kernel
theorem dX8_type_26 : decode cX8_type 26 = .ok (.ireturn, 1) := by decide +kernel
theorem dX8_type_27 : decode cX8_type 27 = .ok (.aload_n 0, 1) := by decide +kernel
theorem dX8_type_28 : decode cX8_type 28 = .ok (.getfield 19, 3) := by decide +kernel
theorem dX8_type_31 : decode cX8_type 31 = .ok (.iload_n 1, 1) := by decide +kernel
theorem dX8_type_32 : decode cX8_type 32 = .ok (.invokevirtual 100, 3) := by decide +kernel
theorem dX8_type_35 : decode cX8_type 35 = .ok (.aload_n 0, 1) := by decide +kernel
theorem dX8_type_36 : decode cX8_type 36 = .ok (.getfield 19, 3) := by decide +kernel
theorem dX8_type_39 : decode cX8_type 39 = .ok (.getfield 104, 3) := by decide +kernel
theorem dX8_type_42 : decode cX8_type 42 = .ok (.ireturn, 1) := by decide +kernel
set_option maxRecDepth 20000 in
theorem ggX8_wipe_X1_clear : GoodIn wsX8_wipe wsX1_clear := goodIn_r _ [6, 7, 8, 9, 10, 5, 11, 12, 13, 14, 15, 16, 17, 18, 19, 20, 21, 22, 23, 24, 25, 26, 36, 37, 38, 39] (by decide +kernel) (by decide +kernel)
set_option maxRecDepth 20000 in
theorem gX8_wipe_X1_clear : GoodIn wsX8_wipe (wsV RX8 107 RX1 yX1_clear wsX1_clear) := goodIn_app (goodIn_of _ (by decide +kernel)) ggX8_wipe_X1_clear
theorem dX8_wipe_0 : decode cX8_wipe 0 = .ok (.aload_n 0, 1) := by decide +kernel
theorem dX8_wipe_1 : decode cX8_wipe 1 = .ok (.getfield 19, 3) := by decide +kernel
theorem dX8_wipe_4 : decode cX8_wipe 4 = .ok (.invokevirtual 107, 3) := by decide +kernel
theorem dX8_wipe_7 : decode cX8_wipe 7 = .ok (.ireturn, 1) := by decide +kernel
theorem dX8_fault_0 : decode cX8_fault 0 = .ok (.aload_n 0, 1) := by decide +kernel
theorem dX8_fault_1 : decode cX8_fault 1 = .ok (.getfield 19, 3) := by decide +kernel
theorem dX8_fault_4 : decode cX8_fault 4 = .ok (.getfield 110, 3) := by decide +kernel
theorem dX8_fault_7 : decode cX8_fault 7 = .ok (.ireturn, 1) := by decide +kernel
set_option maxRecDepth 20000 in
theorem ggX8_read_X8_isBelow : GoodIn wsX8_read wsX8_isBelow := goodIn_r _ [8] (by decide +kernel) (by decide +kernel)
set_option maxRecDepth 20000 in
theorem gX8_read_X8_isBelow : GoodIn wsX8_read (va_wsS RX8 79 yX8_isBelow wsX8_isBelow) := goodIn_app (goodIn_of _ (by decide +kernel)) ggX8_read_X8_isBelow
set_option maxRecDepth 20000 in
theorem ggX8_read_X8_found : GoodIn wsX8_read wsX8_found := goodIn_r _ [12, 13, 55, 56, 57, 58, 59, 60, 61, 62, 63] (by decide +kernel) (by decide +kernel)
set_option maxRecDepth 20000 in
theorem gX8_read_X8_found : GoodIn wsX8_read (wsV RX8 117 RX8 yX8_found wsX8_found) := goodIn_app (goodIn_of _ (by decide +kernel)) ggX8_read_X8_found
set_option maxRecDepth 20000 in
theorem ggX8_read_X5_holdsYear : GoodIn wsX8_read wsX5_holdsYear := goodIn_r _ [18, 19, 20, 21, 7, 22, 5, 6, 8, 64, 65, 66, 67] (by decide +kernel) (by decide +kernel)
set_option maxRecDepth 20000 in
theorem gX8_read_X5_holdsYear : GoodIn wsX8_read (wsV RX8 121 RX5 yX5_holdsYear wsX5_holdsYear) := goodIn_app (goodIn_of _ (by decide +kernel)) ggX8_read_X5_holdsYear
set_option maxRecDepth 20000 in
theorem ggX8_read_X1_room : GoodIn wsX8_read wsX1_room := goodIn_r _ [27, 28, 68, 69, 70, 71] (by decide +kernel) (by decide +kernel)
set_option maxRecDepth 20000 in
theorem gX8_read_X1_room : GoodIn wsX8_read (wsV RX8 96 RX1 yX1_room wsX1_room) := goodIn_app (goodIn_of _ (by decide +kernel)) ggX8_read_X1_room
set_option maxRecDepth 20000 in
theorem ggX8_read_X1_bytesForYear : GoodIn wsX8_read wsX1_bytesForYear := goodIn_r _ [32, 28, 68, 69, 70, 71] (by decide +kernel) (by decide +kernel)
set_option maxRecDepth 20000 in
theorem gX8_read_X1_bytesForYear : GoodIn wsX8_read (wsV RX8 125 RX1 yX1_bytesForYear wsX1_bytesForYear) := goodIn_app (goodIn_of _ (by decide +kernel)) ggX8_read_X1_bytesForYear
set_option maxRecDepth 20000 in
theorem ggX8_read_X1_appendYear : GoodIn wsX8_read wsX1_appendYear := goodIn_r _ [36, 28, 37, 38, 39, 40, 26, 41, 42, 43, 44, 45, 46, 47, 48, 49, 50, 51, 52, 21, 7, 22, 5, 6, 8, 53, 54, 68, 69, 70, 71, 64, 65, 66, 67] (by decide +kernel) (by decide +kernel)
set_option maxRecDepth 20000 in
theorem gX8_read_X1_appendYear : GoodIn wsX8_read (wsV RX8 128 RX1 yX1_appendYear wsX1_appendYear) := goodIn_app (goodIn_of _ (by decide +kernel)) ggX8_read_X1_appendYear
theorem dX8_read_0 : decode cX8_read 0 = .ok (.iload_n 1, 1) := by decide +kernel
theorem dX8_read_1 : decode cX8_read 1 = .ok (.iconst 4, 1) := by decide +kernel
theorem dX8_read_2 : decode cX8_read 2 = .ok (.invokestatic 79, 3) := by decide +kernel
theorem dX8_read_5 : decode cX8_read 5 = .ok (.ifCond .ne 6, 3) := by decide +kernel
theorem dX8_read_8 : decode cX8_read 8 = .ok (.bipush (-2), 2) := by decide +kernel
theorem dX8_read_10 : decode cX8_read 10 = .ok (.ireturn, 1) := by decide +kernel
theorem dX8_read_11 : decode cX8_read 11 = .ok (.aload_n 0, 1) := by decide +kernel
theorem dX8_read_12 : decode cX8_read 12 = .ok (.getfield 66, 3) := by decide +kernel
theorem dX8_read_15 : decode cX8_read 15 = .ok (.iload_n 1, 1) := by decide +kernel
theorem dX8_read_16 : decode cX8_read 16 = .ok (.aaload, 1) := by decide +kernel
theorem dX8_read_17 : decode cX8_read 17 = .ok (.astore_n 2, 1) := by decide +kernel
theorem dX8_read_18 : decode cX8_read 18 = .ok (.aload_n 2, 1) := by decide +kernel
theorem dX8_read_19 : decode cX8_read 19 = .ok (.getfield 113, 3) := by decide +kernel
theorem dX8_read_22 : decode cX8_read 22 = .ok (.ifCond .eq 9, 3) := by decide +kernel
theorem dX8_read_25 : decode cX8_read 25 = .ok (.aload_n 0, 1) := by decide +kernel
theorem dX8_read_26 : decode cX8_read 26 = .ok (.iconst 1, 1) := by decide +kernel
theorem dX8_read_27 : decode cX8_read 27 = .ok (.invokevirtual 117, 3) := by decide +kernel
theorem dX8_read_30 : decode cX8_read 30 = .ok (.ireturn, 1) := by decide +kernel
theorem dX8_read_31 : decode cX8_read 31 = .ok (.aload_n 2, 1) := by decide +kernel
theorem dX8_read_32 : decode cX8_read 32 = .ok (.invokevirtual 121, 3) := by decide +kernel
theorem dX8_read_35 : decode cX8_read 35 = .ok (.ifCond .ne 6, 3) := by decide +kernel
theorem dX8_read_38 : decode cX8_read 38 = .ok (.bipush (-3), 2) := by decide +kernel
theorem dX8_read_40 : decode cX8_read 40 = .ok (.ireturn, 1) := by decide +kernel
theorem dX8_read_41 : decode cX8_read 41 = .ok (.aload_n 0, 1) := by decide +kernel
theorem dX8_read_42 : decode cX8_read 42 = .ok (.getfield 19, 3) := by decide +kernel
theorem dX8_read_45 : decode cX8_read 45 = .ok (.invokevirtual 96, 3) := by decide +kernel
theorem dX8_read_48 : decode cX8_read 48 = .ok (.aload_n 0, 1) := by decide +kernel
theorem dX8_read_49 : decode cX8_read 49 = .ok (.getfield 19, 3) := by decide +kernel
theorem dX8_read_52 : decode cX8_read 52 = .ok (.invokevirtual 125, 3) := by decide +kernel
theorem dX8_read_55 : decode cX8_read 55 = .ok (.if_icmp .ge 6, 3) := by decide +kernel
theorem dX8_read_58 : decode cX8_read 58 = .ok (.bipush (-4), 2) := by decide +kernel
theorem dX8_read_60 : decode cX8_read 60 = .ok (.ireturn, 1) := by decide +kernel
theorem dX8_read_61 : decode cX8_read 61 = .ok (.aload_n 0, 1) := by decide +kernel
theorem dX8_read_62 : decode cX8_read 62 = .ok (.getfield 19, 3) := by decide +kernel
theorem dX8_read_65 : decode cX8_read 65 = .ok (.aload_n 2, 1) := by decide +kernel
theorem dX8_read_66 : decode cX8_read 66 = .ok (.invokevirtual 128, 3) := by decide +kernel
theorem dX8_read_69 : decode cX8_read 69 = .ok (.aload_n 0, 1) := by decide +kernel
theorem dX8_read_70 : decode cX8_read 70 = .ok (.getfield 19, 3) := by decide +kernel
theorem dX8_read_73 : decode cX8_read 73 = .ok (.getfield 104, 3) := by decide +kernel
theorem dX8_read_76 : decode cX8_read 76 = .ok (.ireturn, 1) := by decide +kernel
set_option maxRecDepth 20000 in
theorem ggX8_borne_X8_isShip : GoodIn wsX8_borne wsX8_isShip := goodIn_r _ [5, 6, 7, 4, 8] (by decide +kernel) (by decide +kernel)
set_option maxRecDepth 20000 in
theorem gX8_borne_X8_isShip : GoodIn wsX8_borne (va_wsS RX8 75 yX8_isShip wsX8_isShip) := goodIn_app (goodIn_of _ (by decide +kernel)) ggX8_borne_X8_isShip
set_option maxRecDepth 20000 in
theorem ggX8_borne_X8_isYear : GoodIn wsX8_borne wsX8_isYear := goodIn_r _ [12, 1, 13, 6, 7, 4, 8, 20, 21, 22, 23, 24, 25, 26, 27, 28, 29, 30, 31, 32] (by decide +kernel) (by decide +kernel)
set_option maxRecDepth 20000 in
theorem gX8_borne_X8_isYear : GoodIn wsX8_borne (wsV RX8 132 RX8 yX8_isYear wsX8_isYear) := goodIn_app (goodIn_of _ (by decide +kernel)) ggX8_borne_X8_isYear
set_option maxRecDepth 20000 in
theorem ggX8_borne_X1_nameOf : GoodIn wsX8_borne wsX1_nameOf := goodIn_r _ [18, 19, 29, 30, 31, 32] (by decide +kernel) (by decide +kernel)
set_option maxRecDepth 20000 in
theorem gX8_borne_X1_nameOf : GoodIn wsX8_borne (wsV RX8 135 RX1 yX1_nameOf wsX1_nameOf) := goodIn_app (goodIn_of _ (by decide +kernel)) ggX8_borne_X1_nameOf
theorem dX8_borne_0 : decode cX8_borne 0 = .ok (.iload_n 1, 1) := by decide +kernel
theorem dX8_borne_1 : decode cX8_borne 1 = .ok (.invokestatic 75, 3) := by decide +kernel
theorem dX8_borne_4 : decode cX8_borne 4 = .ok (.ifCond .eq 11, 3) := by decide +kernel
theorem dX8_borne_7 : decode cX8_borne 7 = .ok (.aload_n 0, 1) := by decide +kernel
theorem dX8_borne_8 : decode cX8_borne 8 = .ok (.iload_n 2, 1) := by decide +kernel
theorem dX8_borne_9 : decode cX8_borne 9 = .ok (.invokevirtual 132, 3) := by decide +kernel
theorem dX8_borne_12 : decode cX8_borne 12 = .ok (.ifCond .ne 6, 3) := by decide +kernel
theorem dX8_borne_15 : decode cX8_borne 15 = .ok (.bipush (-2), 2) := by decide +kernel
theorem dX8_borne_17 : decode cX8_borne 17 = .ok (.ireturn, 1) := by decide +kernel
theorem dX8_borne_18 : decode cX8_borne 18 = .ok (.aload_n 0, 1) := by decide +kernel
theorem dX8_borne_19 : decode cX8_borne 19 = .ok (.getfield 19, 3) := by decide +kernel
theorem dX8_borne_22 : decode cX8_borne 22 = .ok (.iload_n 1, 1) := by decide +kernel
theorem dX8_borne_23 : decode cX8_borne 23 = .ok (.iload_n 2, 1) := by decide +kernel
theorem dX8_borne_24 : decode cX8_borne 24 = .ok (.invokevirtual 135, 3) := by decide +kernel
theorem dX8_borne_27 : decode cX8_borne 27 = .ok (.ireturn, 1) := by decide +kernel
set_option maxRecDepth 20000 in
theorem ggX8_purse_X8_isShip : GoodIn wsX8_purse wsX8_isShip := goodIn_r _ [5, 6, 7, 4, 8] (by decide +kernel) (by decide +kernel)
set_option maxRecDepth 20000 in
theorem gX8_purse_X8_isShip : GoodIn wsX8_purse (va_wsS RX8 75 yX8_isShip wsX8_isShip) := goodIn_app (goodIn_of _ (by decide +kernel)) ggX8_purse_X8_isShip
set_option maxRecDepth 20000 in
theorem ggX8_purse_X8_isSpan : GoodIn wsX8_purse wsX8_isSpan := goodIn_r _ [12, 13, 14, 6, 7, 4, 8, 39, 40, 41, 42, 43, 44, 45, 46, 47, 48, 49, 50, 51] (by decide +kernel) (by decide +kernel)
set_option maxRecDepth 20000 in
theorem gX8_purse_X8_isSpan : GoodIn wsX8_purse (wsV RX8 139 RX8 yX8_isSpan wsX8_isSpan) := goodIn_app (goodIn_of _ (by decide +kernel)) ggX8_purse_X8_isSpan
set_option maxRecDepth 20000 in
theorem ggX8_purse_X7_earnedBy : GoodIn wsX8_purse wsX7_earnedBy := goodIn_r _ [19, 20, 21, 22, 23, 24, 25, 26, 27, 28, 29, 30, 31, 32, 33, 34, 35, 36, 37, 38, 52, 53, 48, 49, 50, 51, 54, 55] (by decide +kernel) (by decide +kernel)
set_option maxRecDepth 20000 in
theorem gX8_purse_X7_earnedBy : GoodIn wsX8_purse (wsV RX8 142 RX7 yX7_earnedBy wsX7_earnedBy) := goodIn_app (goodIn_of _ (by decide +kernel)) ggX8_purse_X7_earnedBy
theorem dX8_purse_0 : decode cX8_purse 0 = .ok (.iload_n 1, 1) := by decide +kernel
theorem dX8_purse_1 : decode cX8_purse 1 = .ok (.invokestatic 75, 3) := by decide +kernel
theorem dX8_purse_4 : decode cX8_purse 4 = .ok (.ifCond .eq 11, 3) := by decide +kernel
theorem dX8_purse_7 : decode cX8_purse 7 = .ok (.aload_n 0, 1) := by decide +kernel
theorem dX8_purse_8 : decode cX8_purse 8 = .ok (.iload_n 2, 1) := by decide +kernel
theorem dX8_purse_9 : decode cX8_purse 9 = .ok (.invokevirtual 139, 3) := by decide +kernel
theorem dX8_purse_12 : decode cX8_purse 12 = .ok (.ifCond .ne 6, 3) := by decide +kernel
theorem dX8_purse_15 : decode cX8_purse 15 = .ok (.bipush (-2), 2) := by decide +kernel
theorem dX8_purse_17 : decode cX8_purse 17 = .ok (.ireturn, 1) := by decide +kernel
theorem dX8_purse_18 : decode cX8_purse 18 = .ok (.aload_n 0, 1) := by decide +kernel
theorem dX8_purse_19 : decode cX8_purse 19 = .ok (.getfield 28, 3) := by decide +kernel
theorem dX8_purse_22 : decode cX8_purse 22 = .ok (.iload_n 1, 1) := by decide +kernel
theorem dX8_purse_23 : decode cX8_purse 23 = .ok (.iload_n 2, 1) := by decide +kernel
theorem dX8_purse_24 : decode cX8_purse 24 = .ok (.invokevirtual 142, 3) := by decide +kernel
theorem dX8_purse_27 : decode cX8_purse 27 = .ok (.ireturn, 1) := by decide +kernel
set_option maxRecDepth 20000 in
theorem ggX8_debt_X8_isShip : GoodIn wsX8_debt wsX8_isShip := goodIn_r _ [5, 6, 7, 4, 8] (by decide +kernel) (by decide +kernel)
set_option maxRecDepth 20000 in
theorem gX8_debt_X8_isShip : GoodIn wsX8_debt (va_wsS RX8 75 yX8_isShip wsX8_isShip) := goodIn_app (goodIn_of _ (by decide +kernel)) ggX8_debt_X8_isShip
set_option maxRecDepth 20000 in
theorem ggX8_debt_X8_isSpan : GoodIn wsX8_debt wsX8_isSpan := goodIn_r _ [12, 13, 14, 6, 7, 4, 8, 45, 46, 47, 48, 49, 50, 51, 52, 53, 54, 55, 56, 57] (by decide +kernel) (by decide +kernel)
set_option maxRecDepth 20000 in
theorem gX8_debt_X8_isSpan : GoodIn wsX8_debt (wsV RX8 139 RX8 yX8_isSpan wsX8_isSpan) := goodIn_app (goodIn_of _ (by decide +kernel)) ggX8_debt_X8_isSpan
set_option maxRecDepth 20000 in
theorem ggX8_debt_X8_isBelow : GoodIn wsX8_debt wsX8_isBelow := goodIn_r _ [8] (by decide +kernel) (by decide +kernel)
set_option maxRecDepth 20000 in
theorem gX8_debt_X8_isBelow : GoodIn wsX8_debt (va_wsS RX8 79 yX8_isBelow wsX8_isBelow) := goodIn_app (goodIn_of _ (by decide +kernel)) ggX8_debt_X8_isBelow
set_option maxRecDepth 20000 in
theorem ggX8_debt_X7_debtOf : GoodIn wsX8_debt wsX7_debtOf := goodIn_r _ [19, 20, 21, 22, 23, 24, 18, 25, 26, 27, 28, 29, 30, 31, 32, 33, 34, 35, 36, 37, 38, 39, 40, 41, 42, 43, 58, 59, 60, 61, 54, 55, 56, 57] (by decide +kernel) (by decide +kernel)
set_option maxRecDepth 20000 in
theorem gX8_debt_X7_debtOf : GoodIn wsX8_debt (wsV RX8 145 RX7 yX7_debtOf wsX7_debtOf) := goodIn_app (goodIn_of _ (by decide +kernel)) ggX8_debt_X7_debtOf
set_option maxRecDepth 20000 in
theorem ggX8_debt_X7_shameOf : GoodIn wsX8_debt wsX7_shameOf := goodIn_r _ [25, 20, 26, 27, 28, 18, 29, 30, 31, 32, 33, 34, 35, 36, 37, 38, 39, 40, 41, 42, 43, 58, 59, 54, 55, 56, 57, 60, 61] (by decide +kernel) (by decide +kernel)
set_option maxRecDepth 20000 in
theorem gX8_debt_X7_shameOf : GoodIn wsX8_debt (wsV RX8 148 RX7 yX7_shameOf wsX7_shameOf) := goodIn_app (goodIn_of _ (by decide +kernel)) ggX8_debt_X7_shameOf
theorem dX8_debt_0 : decode cX8_debt 0 = .ok (.iload_n 1, 1) := by decide +kernel
theorem dX8_debt_1 : decode cX8_debt 1 = .ok (.invokestatic 75, 3) := by decide +kernel
theorem dX8_debt_4 : decode cX8_debt 4 = .ok (.ifCond .eq 19, 3) := by decide +kernel
theorem dX8_debt_7 : decode cX8_debt 7 = .ok (.aload_n 0, 1) := by decide +kernel
theorem dX8_debt_8 : decode cX8_debt 8 = .ok (.iload_n 2, 1) := by decide +kernel
theorem dX8_debt_9 : decode cX8_debt 9 = .ok (.invokevirtual 139, 3) := by decide +kernel
theorem dX8_debt_12 : decode cX8_debt 12 = .ok (.ifCond .eq 11, 3) := by decide +kernel
theorem dX8_debt_15 : decode cX8_debt 15 = .ok (.iload_n 3, 1) := by decide +kernel
theorem dX8_debt_16 : decode cX8_debt 16 = .ok (.iconst 2, 1) := by decide +kernel
theorem dX8_debt_17 : decode cX8_debt 17 = .ok (.invokestatic 79, 3) := by decide +kernel
theorem dX8_debt_20 : decode cX8_debt 20 = .ok (.ifCond .ne 6, 3) := by decide +kernel
theorem dX8_debt_23 : decode cX8_debt 23 = .ok (.bipush (-2), 2) := by decide +kernel
theorem dX8_debt_25 : decode cX8_debt 25 = .ok (.ireturn, 1) := by decide +kernel
theorem dX8_debt_26 : decode cX8_debt 26 = .ok (.iload_n 3, 1) := by decide +kernel
theorem dX8_debt_27 : decode cX8_debt 27 = .ok (.ifCond .ne 15, 3) := by decide +kernel
theorem dX8_debt_30 : decode cX8_debt 30 = .ok (.aload_n 0, 1) := by decide +kernel
theorem dX8_debt_31 : decode cX8_debt 31 = .ok (.getfield 28, 3) := by decide +kernel
theorem dX8_debt_34 : decode cX8_debt 34 = .ok (.iload_n 1, 1) := by decide +kernel
theorem dX8_debt_35 : decode cX8_debt 35 = .ok (.iload_n 2, 1) := by decide +kernel
theorem dX8_debt_36 : decode cX8_debt 36 = .ok (.invokevirtual 145, 3) := by decide +kernel
theorem dX8_debt_39 : decode cX8_debt 39 = .ok (.goto 12, 3) := by decide +kernel
theorem dX8_debt_42 : decode cX8_debt 42 = .ok (.aload_n 0, 1) := by decide +kernel
theorem dX8_debt_43 : decode cX8_debt 43 = .ok (.getfield 28, 3) := by decide +kernel
theorem dX8_debt_46 : decode cX8_debt 46 = .ok (.iload_n 1, 1) := by decide +kernel
theorem dX8_debt_47 : decode cX8_debt 47 = .ok (.iload_n 2, 1) := by decide +kernel
theorem dX8_debt_48 : decode cX8_debt 48 = .ok (.invokevirtual 148, 3) := by decide +kernel
theorem dX8_debt_51 : decode cX8_debt 51 = .ok (.ireturn, 1) := by decide +kernel
set_option maxRecDepth 20000 in
theorem ggX8_been_X8_isShip : GoodIn wsX8_been wsX8_isShip := goodIn_r _ [5, 6, 7, 4, 8] (by decide +kernel) (by decide +kernel)
set_option maxRecDepth 20000 in
theorem gX8_been_X8_isShip : GoodIn wsX8_been (va_wsS RX8 75 yX8_isShip wsX8_isShip) := goodIn_app (goodIn_of _ (by decide +kernel)) ggX8_been_X8_isShip
set_option maxRecDepth 20000 in
theorem ggX8_been_X8_isSpan : GoodIn wsX8_been wsX8_isSpan := goodIn_r _ [12, 13, 14, 6, 7, 4, 8, 27, 28, 29, 30, 31, 32, 33, 34, 35, 36, 37, 38, 39] (by decide +kernel) (by decide +kernel)
set_option maxRecDepth 20000 in
theorem gX8_been_X8_isSpan : GoodIn wsX8_been (wsV RX8 139 RX8 yX8_isSpan wsX8_isSpan) := goodIn_app (goodIn_of _ (by decide +kernel)) ggX8_been_X8_isSpan
set_option maxRecDepth 20000 in
theorem ggX8_been_X7_namesBorne : GoodIn wsX8_been wsX7_namesBorne := goodIn_r _ [19, 20, 21, 22, 23, 24, 25, 26, 40, 41, 36, 37, 38, 39] (by decide +kernel) (by decide +kernel)
set_option maxRecDepth 20000 in
theorem gX8_been_X7_namesBorne : GoodIn wsX8_been (wsV RX8 151 RX7 yX7_namesBorne wsX7_namesBorne) := goodIn_app (goodIn_of _ (by decide +kernel)) ggX8_been_X7_namesBorne
theorem dX8_been_0 : decode cX8_been 0 = .ok (.iload_n 1, 1) := by decide +kernel
theorem dX8_been_1 : decode cX8_been 1 = .ok (.invokestatic 75, 3) := by decide +kernel
theorem dX8_been_4 : decode cX8_been 4 = .ok (.ifCond .eq 11, 3) := by decide +kernel
theorem dX8_been_7 : decode cX8_been 7 = .ok (.aload_n 0, 1) := by decide +kernel
theorem dX8_been_8 : decode cX8_been 8 = .ok (.iload_n 2, 1) := by decide +kernel
theorem dX8_been_9 : decode cX8_been 9 = .ok (.invokevirtual 139, 3) := by decide +kernel
theorem dX8_been_12 : decode cX8_been 12 = .ok (.ifCond .ne 6, 3) := by decide +kernel
theorem dX8_been_15 : decode cX8_been 15 = .ok (.bipush (-2), 2) := by decide +kernel
theorem dX8_been_17 : decode cX8_been 17 = .ok (.ireturn, 1) := by decide +kernel
theorem dX8_been_18 : decode cX8_been 18 = .ok (.aload_n 0, 1) := by decide +kernel
theorem dX8_been_19 : decode cX8_been 19 = .ok (.getfield 28, 3) := by decide +kernel
theorem dX8_been_22 : decode cX8_been 22 = .ok (.iload_n 1, 1) := by decide +kernel
theorem dX8_been_23 : decode cX8_been 23 = .ok (.iload_n 2, 1) := by decide +kernel
theorem dX8_been_24 : decode cX8_been 24 = .ok (.invokevirtual 151, 3) := by decide +kernel
theorem dX8_been_27 : decode cX8_been 27 = .ok (.ireturn, 1) := by decide +kernel
set_option maxRecDepth 20000 in
theorem ggX8_home_X8_isShip : GoodIn wsX8_home wsX8_isShip := goodIn_r _ [5, 6, 7, 4, 8] (by decide +kernel) (by decide +kernel)
set_option maxRecDepth 20000 in
theorem gX8_home_X8_isShip : GoodIn wsX8_home (va_wsS RX8 75 yX8_isShip wsX8_isShip) := goodIn_app (goodIn_of _ (by decide +kernel)) ggX8_home_X8_isShip
set_option maxRecDepth 20000 in
theorem ggX8_home_X7_firstYearAs : GoodIn wsX8_home wsX7_firstYearAs := goodIn_r _ [13, 14, 15, 16, 17, 18, 19, 20, 21, 31, 32, 33, 34, 35, 36] (by decide +kernel) (by decide +kernel)
set_option maxRecDepth 20000 in
theorem gX8_home_X7_firstYearAs : GoodIn wsX8_home (wsV RX8 154 RX7 yX7_firstYearAs wsX7_firstYearAs) := goodIn_app (goodIn_of _ (by decide +kernel)) ggX8_home_X7_firstYearAs
theorem dX8_home_0 : decode cX8_home 0 = .ok (.iload_n 1, 1) := by decide +kernel
theorem dX8_home_1 : decode cX8_home 1 = .ok (.invokestatic 75, 3) := by decide +kernel
theorem dX8_home_4 : decode cX8_home 4 = .ok (.ifCond .ne 6, 3) := by decide +kernel
theorem dX8_home_7 : decode cX8_home 7 = .ok (.bipush (-2), 2) := by decide +kernel
theorem dX8_home_9 : decode cX8_home 9 = .ok (.ireturn, 1) := by decide +kernel
theorem dX8_home_10 : decode cX8_home 10 = .ok (.aload_n 0, 1) := by decide +kernel
theorem dX8_home_11 : decode cX8_home 11 = .ok (.getfield 28, 3) := by decide +kernel
theorem dX8_home_14 : decode cX8_home 14 = .ok (.iload_n 1, 1) := by decide +kernel
theorem dX8_home_15 : decode cX8_home 15 = .ok (.iload_n 1, 1) := by decide +kernel
theorem dX8_home_16 : decode cX8_home 16 = .ok (.invokevirtual 154, 3) := by decide +kernel
theorem dX8_home_19 : decode cX8_home 19 = .ok (.ireturn, 1) := by decide +kernel
set_option maxRecDepth 20000 in
theorem ggX8_other_X8_isShip : GoodIn wsX8_other wsX8_isShip := goodIn_r _ [5, 6, 7, 4, 8] (by decide +kernel) (by decide +kernel)
set_option maxRecDepth 20000 in
theorem gX8_other_X8_isShip : GoodIn wsX8_other (va_wsS RX8 75 yX8_isShip wsX8_isShip) := goodIn_app (goodIn_of _ (by decide +kernel)) ggX8_other_X8_isShip
set_option maxRecDepth 20000 in
theorem ggX8_other_X7_firstYearAs : GoodIn wsX8_other wsX7_firstYearAs := goodIn_r _ [13, 14, 15, 16, 17, 18, 19, 20, 21, 31, 32, 33, 34, 35, 36] (by decide +kernel) (by decide +kernel)
set_option maxRecDepth 20000 in
theorem gX8_other_X7_firstYearAs : GoodIn wsX8_other (wsV RX8 154 RX7 yX7_firstYearAs wsX7_firstYearAs) := goodIn_app (goodIn_of _ (by decide +kernel)) ggX8_other_X7_firstYearAs
theorem dX8_other_0 : decode cX8_other 0 = .ok (.iload_n 1, 1) := by decide +kernel
theorem dX8_other_1 : decode cX8_other 1 = .ok (.invokestatic 75, 3) := by decide +kernel
theorem dX8_other_4 : decode cX8_other 4 = .ok (.ifCond .eq 15, 3) := by decide +kernel
theorem dX8_other_7 : decode cX8_other 7 = .ok (.iload_n 2, 1) := by decide +kernel
theorem dX8_other_8 : decode cX8_other 8 = .ok (.invokestatic 75, 3) := by decide +kernel
theorem dX8_other_11 : decode cX8_other 11 = .ok (.ifCond .eq 8, 3) := by decide +kernel
theorem dX8_other_14 : decode cX8_other 14 = .ok (.iload_n 1, 1) := by decide +kernel
theorem dX8_other_15 : decode cX8_other 15 = .ok (.iload_n 2, 1) := by decide +kernel
theorem dX8_other_16 : decode cX8_other 16 = .ok (.if_icmp .ne 6, 3) := by decide +kernel
theorem dX8_other_19 : decode cX8_other 19 = .ok (.bipush (-2), 2) := by decide +kernel
theorem dX8_other_21 : decode cX8_other 21 = .ok (.ireturn, 1) := by decide +kernel
theorem dX8_other_22 : decode cX8_other 22 = .ok (.aload_n 0, 1) := by decide +kernel
theorem dX8_other_23 : decode cX8_other 23 = .ok (.getfield 28, 3) := by decide +kernel
theorem dX8_other_26 : decode cX8_other 26 = .ok (.iload_n 1, 1) := by decide +kernel
theorem dX8_other_27 : decode cX8_other 27 = .ok (.iload_n 2, 1) := by decide +kernel
theorem dX8_other_28 : decode cX8_other 28 = .ok (.invokevirtual 154, 3) := by decide +kernel
theorem dX8_other_31 : decode cX8_other 31 = .ok (.ireturn, 1) := by decide +kernel
set_option maxRecDepth 20000 in
theorem ggX8_sound_X8_isShip : GoodIn wsX8_sound wsX8_isShip := goodIn_r _ [5, 6, 7, 4, 8] (by decide +kernel) (by decide +kernel)
set_option maxRecDepth 20000 in
theorem gX8_sound_X8_isShip : GoodIn wsX8_sound (va_wsS RX8 75 yX8_isShip wsX8_isShip) := goodIn_app (goodIn_of _ (by decide +kernel)) ggX8_sound_X8_isShip
set_option maxRecDepth 20000 in
theorem ggX8_sound_X8_drawSound : GoodIn wsX8_sound wsX8_drawSound := goodIn_r _ [12, 1, 13, 14, 15, 16, 17, 18, 19, 20, 21, 22, 23, 24, 25, 26, 27, 28, 29, 30, 31, 32, 33, 34, 35, 36, 37, 38, 39, 40, 41, 42, 43, 44, 45, 46, 47, 48, 49, 50, 51, 52, 65, 66, 67, 68, 69, 70, 71, 72, 73, 74, 75, 76, 77, 78] (by decide +kernel) (by decide +kernel)
set_option maxRecDepth 20000 in
theorem gX8_sound_X8_drawSound : GoodIn wsX8_sound (wsV RX8 157 RX8 yX8_drawSound wsX8_drawSound) := goodIn_app (goodIn_of _ (by decide +kernel)) ggX8_sound_X8_drawSound
set_option maxRecDepth 20000 in
theorem ggX8_sound_X3_rows : GoodIn wsX8_sound wsX3_rows := goodIn_r _ [56, 32, 74, 75, 76] (by decide +kernel) (by decide +kernel)
set_option maxRecDepth 20000 in
theorem gX8_sound_X3_rows : GoodIn wsX8_sound (wsV RX8 160 RX3 yX3_rows wsX3_rows) := goodIn_app (goodIn_of _ (by decide +kernel)) ggX8_sound_X3_rows
set_option maxRecDepth 20000 in
theorem ggX8_sound_X3_firstRowName : GoodIn wsX8_sound wsX3_firstRowName := goodIn_r _ [60, 61, 62, 63, 29, 64, 32, 44, 45, 46, 47, 48, 74, 75, 76] (by decide +kernel) (by decide +kernel)
set_option maxRecDepth 20000 in
theorem gX8_sound_X3_firstRowName : GoodIn wsX8_sound (wsV RX8 163 RX3 yX3_firstRowName wsX3_firstRowName) := goodIn_app (goodIn_of _ (by decide +kernel)) ggX8_sound_X3_firstRowName
theorem dX8_sound_0 : decode cX8_sound 0 = .ok (.iload_n 1, 1) := by decide +kernel
theorem dX8_sound_1 : decode cX8_sound 1 = .ok (.iconst (-1), 1) := by decide +kernel
theorem dX8_sound_2 : decode cX8_sound 2 = .ok (.if_icmp .eq 13, 3) := by decide +kernel
theorem dX8_sound_5 : decode cX8_sound 5 = .ok (.iload_n 1, 1) := by decide +kernel
theorem dX8_sound_6 : decode cX8_sound 6 = .ok (.invokestatic 75, 3) := by decide +kernel
theorem dX8_sound_9 : decode cX8_sound 9 = .ok (.ifCond .ne 6, 3) := by decide +kernel
theorem dX8_sound_12 : decode cX8_sound 12 = .ok (.bipush (-2), 2) := by decide +kernel
theorem dX8_sound_14 : decode cX8_sound 14 = .ok (.ireturn, 1) := by decide +kernel
theorem dX8_sound_15 : decode cX8_sound 15 = .ok (.aload_n 0, 1) := by decide +kernel
theorem dX8_sound_16 : decode cX8_sound 16 = .ok (.invokevirtual 157, 3) := by decide +kernel
theorem dX8_sound_19 : decode cX8_sound 19 = .ok (.iload_n 1, 1) := by decide +kernel
theorem dX8_sound_20 : decode cX8_sound 20 = .ok (.iconst (-1), 1) := by decide +kernel
theorem dX8_sound_21 : decode cX8_sound 21 = .ok (.if_icmp .ne 13, 3) := by decide +kernel
theorem dX8_sound_24 : decode cX8_sound 24 = .ok (.aload_n 0, 1) := by decide +kernel
theorem dX8_sound_25 : decode cX8_sound 25 = .ok (.getfield 53, 3) := by decide +kernel
theorem dX8_sound_28 : decode cX8_sound 28 = .ok (.invokevirtual 160, 3) := by decide +kernel
theorem dX8_sound_31 : decode cX8_sound 31 = .ok (.goto 11, 3) := by decide +kernel
theorem dX8_sound_34 : decode cX8_sound 34 = .ok (.aload_n 0, 1) := by decide +kernel
theorem dX8_sound_35 : decode cX8_sound 35 = .ok (.getfield 53, 3) := by decide +kernel
theorem dX8_sound_38 : decode cX8_sound 38 = .ok (.iload_n 1, 1) := by decide +kernel
theorem dX8_sound_39 : decode cX8_sound 39 = .ok (.invokevirtual 163, 3) := by decide +kernel
theorem dX8_sound_42 : decode cX8_sound 42 = .ok (.ireturn, 1) := by decide +kernel
set_option maxRecDepth 20000 in
theorem ggX8_chance_X8_isShip : GoodIn wsX8_chance wsX8_isShip := goodIn_r _ [5, 6, 7, 4, 8] (by decide +kernel) (by decide +kernel)
set_option maxRecDepth 20000 in
theorem gX8_chance_X8_isShip : GoodIn wsX8_chance (va_wsS RX8 75 yX8_isShip wsX8_isShip) := goodIn_app (goodIn_of _ (by decide +kernel)) ggX8_chance_X8_isShip
set_option maxRecDepth 20000 in
theorem ggX8_chance_X8_isBelow : GoodIn wsX8_chance wsX8_isBelow := goodIn_r _ [8] (by decide +kernel) (by decide +kernel)
set_option maxRecDepth 20000 in
theorem gX8_chance_X8_isBelow : GoodIn wsX8_chance (va_wsS RX8 79 yX8_isBelow wsX8_isBelow) := goodIn_app (goodIn_of _ (by decide +kernel)) ggX8_chance_X8_isBelow
set_option maxRecDepth 20000 in
theorem ggX8_chance_X8_refusal : GoodIn wsX8_chance wsX8_refusal := goodIn_r _ [11, 12] (by decide +kernel) (by decide +kernel)
set_option maxRecDepth 20000 in
theorem gX8_chance_X8_refusal : GoodIn wsX8_chance (va_wsS RX8 166 yX8_refusal wsX8_refusal) := goodIn_app (goodIn_of _ (by decide +kernel)) ggX8_chance_X8_refusal
set_option maxRecDepth 20000 in
theorem ggX8_chance_X8_drawSound : GoodIn wsX8_chance wsX8_drawSound := goodIn_r _ [16, 1, 17, 18, 19, 20, 21, 22, 23, 24, 25, 26, 27, 28, 29, 30, 31, 32, 33, 34, 35, 36, 37, 38, 39, 40, 41, 42, 43, 44, 45, 46, 47, 48, 49, 50, 51, 52, 53, 54, 55, 56, 71, 72, 73, 74, 75, 76, 77, 78, 79, 80, 81, 82, 83, 84] (by decide +kernel) (by decide +kernel)
set_option maxRecDepth 20000 in
theorem gX8_chance_X8_drawSound : GoodIn wsX8_chance (wsV RX8 157 RX8 yX8_drawSound wsX8_drawSound) := goodIn_app (goodIn_of _ (by decide +kernel)) ggX8_chance_X8_drawSound
set_option maxRecDepth 20000 in
theorem ggX8_chance_X3_rows : GoodIn wsX8_chance wsX3_rows := goodIn_r _ [60, 36, 80, 81, 82] (by decide +kernel) (by decide +kernel)
set_option maxRecDepth 20000 in
theorem gX8_chance_X3_rows : GoodIn wsX8_chance (wsV RX8 160 RX3 yX3_rows wsX3_rows) := goodIn_app (goodIn_of _ (by decide +kernel)) ggX8_chance_X3_rows
set_option maxRecDepth 20000 in
theorem ggX8_chance_X3_rowsWith : GoodIn wsX8_chance wsX3_rowsWith := goodIn_r _ [64, 35, 36, 41, 42, 43, 44, 45, 46, 47, 48, 49, 50, 33, 51, 52, 80, 81, 82] (by decide +kernel) (by decide +kernel)
set_option maxRecDepth 20000 in
theorem gX8_chance_X3_rowsWith : GoodIn wsX8_chance (wsV RX8 170 RX3 yX3_rowsWith wsX3_rowsWith) := goodIn_app (goodIn_of _ (by decide +kernel)) ggX8_chance_X3_rowsWith
set_option maxRecDepth 20000 in
theorem ggX8_chance_X8_fraction : GoodIn wsX8_chance wsX8_fraction := goodIn_r _ [67, 68, 69, 4, 70] (by decide +kernel) (by decide +kernel)
set_option maxRecDepth 20000 in
theorem gX8_chance_X8_fraction : GoodIn wsX8_chance (va_wsS RX8 173 yX8_fraction wsX8_fraction) := goodIn_app (goodIn_of _ (by decide +kernel)) ggX8_chance_X8_fraction
theorem dX8_chance_0 : decode cX8_chance 0 = .ok (.iload_n 1, 1) := by decide +kernel
theorem dX8_chance_1 : decode cX8_chance 1 = .ok (.invokestatic 75, 3) := by decide +kernel
theorem dX8_chance_4 : decode cX8_chance 4 = .ok (.ifCond .eq 18, 3) := by decide +kernel
theorem dX8_chance_7 : decode cX8_chance 7 = .ok (.iload_n 2, 1) := by decide +kernel
theorem dX8_chance_8 : decode cX8_chance 8 = .ok (.invokestatic 75, 3) := by decide +kernel
theorem dX8_chance_11 : decode cX8_chance 11 = .ok (.ifCond .eq 11, 3) := by decide +kernel
theorem dX8_chance_14 : decode cX8_chance 14 = .ok (.iload_n 3, 1) := by decide +kernel
theorem dX8_chance_15 : decode cX8_chance 15 = .ok (.iconst 2, 1) := by decide +kernel
theorem dX8_chance_16 : decode cX8_chance 16 = .ok (.invokestatic 79, 3) := by decide +kernel
theorem dX8_chance_19 : decode cX8_chance 19 = .ok (.ifCond .ne 9, 3) := by decide +kernel
theorem dX8_chance_22 : decode cX8_chance 22 = .ok (.bipush (-2), 2) := by decide +kernel
theorem dX8_chance_24 : decode cX8_chance 24 = .ok (.invokestatic 166, 3) := by decide +kernel
theorem dX8_chance_27 : decode cX8_chance 27 = .ok (.lreturn, 1) := by decide +kernel
theorem dX8_chance_28 : decode cX8_chance 28 = .ok (.aload_n 0, 1) := by decide +kernel
theorem dX8_chance_29 : decode cX8_chance 29 = .ok (.invokevirtual 157, 3) := by decide +kernel
theorem dX8_chance_32 : decode cX8_chance 32 = .ok (.aload_n 0, 1) := by decide +kernel
theorem dX8_chance_33 : decode cX8_chance 33 = .ok (.getfield 53, 3) := by decide +kernel
theorem dX8_chance_36 : decode cX8_chance 36 = .ok (.invokevirtual 160, 3) := by decide +kernel
theorem dX8_chance_39 : decode cX8_chance 39 = .ok (.istore 4, 2) := by decide +kernel
theorem dX8_chance_41 : decode cX8_chance 41 = .ok (.iload 4, 2) := by decide +kernel
theorem dX8_chance_43 : decode cX8_chance 43 = .ok (.ifCond .ne 9, 3) := by decide +kernel
theorem dX8_chance_46 : decode cX8_chance 46 = .ok (.bipush (-3), 2) := by decide +kernel
theorem dX8_chance_48 : decode cX8_chance 48 = .ok (.invokestatic 166, 3) := by decide +kernel
theorem dX8_chance_51 : decode cX8_chance 51 = .ok (.lreturn, 1) := by decide +kernel
theorem dX8_chance_52 : decode cX8_chance 52 = .ok (.aload_n 0, 1) := by decide +kernel
theorem dX8_chance_53 : decode cX8_chance 53 = .ok (.getfield 53, 3) := by decide +kernel
theorem dX8_chance_56 : decode cX8_chance 56 = .ok (.iload_n 1, 1) := by decide +kernel
theorem dX8_chance_57 : decode cX8_chance 57 = .ok (.iload_n 2, 1) := by decide +kernel
theorem dX8_chance_58 : decode cX8_chance 58 = .ok (.invokevirtual 170, 3) := by decide +kernel
theorem dX8_chance_61 : decode cX8_chance 61 = .ok (.iload 4, 2) := by decide +kernel
theorem dX8_chance_63 : decode cX8_chance 63 = .ok (.iload_n 3, 1) := by decide +kernel
theorem dX8_chance_64 : decode cX8_chance 64 = .ok (.invokestatic 173, 3) := by decide +kernel
theorem dX8_chance_67 : decode cX8_chance 67 = .ok (.i2l, 1) := by decide +kernel
theorem dX8_chance_68 : decode cX8_chance 68 = .ok (.lreturn, 1) := by decide +kernel
set_option maxRecDepth 20000 in
theorem ggX8_ahead_X8_isShip : GoodIn wsX8_ahead wsX8_isShip := goodIn_r _ [5, 6, 7, 4, 8] (by decide +kernel) (by decide +kernel)
set_option maxRecDepth 20000 in
theorem gX8_ahead_X8_isShip : GoodIn wsX8_ahead (va_wsS RX8 75 yX8_isShip wsX8_isShip) := goodIn_app (goodIn_of _ (by decide +kernel)) ggX8_ahead_X8_isShip
set_option maxRecDepth 20000 in
theorem ggX8_ahead_X8_isBelow : GoodIn wsX8_ahead wsX8_isBelow := goodIn_r _ [8] (by decide +kernel) (by decide +kernel)
set_option maxRecDepth 20000 in
theorem gX8_ahead_X8_isBelow : GoodIn wsX8_ahead (va_wsS RX8 79 yX8_isBelow wsX8_isBelow) := goodIn_app (goodIn_of _ (by decide +kernel)) ggX8_ahead_X8_isBelow
set_option maxRecDepth 20000 in
theorem ggX8_ahead_X8_refusal : GoodIn wsX8_ahead wsX8_refusal := goodIn_r _ [11, 12] (by decide +kernel) (by decide +kernel)
set_option maxRecDepth 20000 in
theorem gX8_ahead_X8_refusal : GoodIn wsX8_ahead (va_wsS RX8 166 yX8_refusal wsX8_refusal) := goodIn_app (goodIn_of _ (by decide +kernel)) ggX8_ahead_X8_refusal
set_option maxRecDepth 20000 in
theorem ggX8_ahead_X4_earning : GoodIn wsX8_ahead wsX4_earning := goodIn_r _ [17, 18, 19, 20, 21, 16, 22, 23, 39, 40] (by decide +kernel) (by decide +kernel)
set_option maxRecDepth 20000 in
theorem gX8_ahead_X4_earning : GoodIn wsX8_ahead (wsV RX8 177 RX4 yX4_earning wsX4_earning) := goodIn_app (goodIn_of _ (by decide +kernel)) ggX8_ahead_X4_earning
set_option maxRecDepth 20000 in
theorem ggX8_ahead_X8_fraction : GoodIn wsX8_ahead wsX8_fraction := goodIn_r _ [26, 27, 28, 4, 29] (by decide +kernel) (by decide +kernel)
set_option maxRecDepth 20000 in
theorem gX8_ahead_X8_fraction : GoodIn wsX8_ahead (va_wsS RX8 173 yX8_fraction wsX8_fraction) := goodIn_app (goodIn_of _ (by decide +kernel)) ggX8_ahead_X8_fraction
theorem dX8_ahead_0 : decode cX8_ahead 0 = .ok (.iload_n 1, 1) := by decide +kernel
theorem dX8_ahead_1 : decode cX8_ahead 1 = .ok (.invokestatic 75, 3) := by decide +kernel
theorem dX8_ahead_4 : decode cX8_ahead 4 = .ok (.ifCond .eq 11, 3) := by decide +kernel
theorem dX8_ahead_7 : decode cX8_ahead 7 = .ok (.iload_n 2, 1) := by decide +kernel
theorem dX8_ahead_8 : decode cX8_ahead 8 = .ok (.iconst 2, 1) := by decide +kernel
theorem dX8_ahead_9 : decode cX8_ahead 9 = .ok (.invokestatic 79, 3) := by decide +kernel
theorem dX8_ahead_12 : decode cX8_ahead 12 = .ok (.ifCond .ne 9, 3) := by decide +kernel
theorem dX8_ahead_15 : decode cX8_ahead 15 = .ok (.bipush (-2), 2) := by decide +kernel
theorem dX8_ahead_17 : decode cX8_ahead 17 = .ok (.invokestatic 166, 3) := by decide +kernel
theorem dX8_ahead_20 : decode cX8_ahead 20 = .ok (.lreturn, 1) := by decide +kernel
theorem dX8_ahead_21 : decode cX8_ahead 21 = .ok (.iconst 0, 1) := by decide +kernel
theorem dX8_ahead_22 : decode cX8_ahead 22 = .ok (.istore_n 3, 1) := by decide +kernel
theorem dX8_ahead_23 : decode cX8_ahead 23 = .ok (.iconst 0, 1) := by decide +kernel
theorem dX8_ahead_24 : decode cX8_ahead 24 = .ok (.istore 4, 2) := by decide +kernel
theorem dX8_ahead_26 : decode cX8_ahead 26 = .ok (.iload 4, 2) := by decide +kernel
theorem dX8_ahead_28 : decode cX8_ahead 28 = .ok (.bipush 6, 2) := by decide +kernel
theorem dX8_ahead_30 : decode cX8_ahead 30 = .ok (.if_icmp .ge 22, 3) := by decide +kernel
theorem dX8_ahead_33 : decode cX8_ahead 33 = .ok (.iload_n 3, 1) := by decide +kernel
theorem dX8_ahead_34 : decode cX8_ahead 34 = .ok (.aload_n 0, 1) := by decide +kernel
theorem dX8_ahead_35 : decode cX8_ahead 35 = .ok (.getfield 12, 3) := by decide +kernel
theorem dX8_ahead_38 : decode cX8_ahead 38 = .ok (.iload_n 1, 1) := by decide +kernel
theorem dX8_ahead_39 : decode cX8_ahead 39 = .ok (.iload 4, 2) := by decide +kernel
theorem dX8_ahead_41 : decode cX8_ahead 41 = .ok (.invokevirtual 177, 3) := by decide +kernel
theorem dX8_ahead_44 : decode cX8_ahead 44 = .ok (.iadd, 1) := by decide +kernel
theorem dX8_ahead_45 : decode cX8_ahead 45 = .ok (.istore_n 3, 1) := by decide +kernel
theorem dX8_ahead_46 : decode cX8_ahead 46 = .ok (.iinc 4 1, 3) := by decide +kernel
theorem dX8_ahead_49 : decode cX8_ahead 49 = .ok (.goto (-23), 3) := by decide +kernel
theorem dX8_ahead_52 : decode cX8_ahead 52 = .ok (.iload_n 3, 1) := by decide +kernel
theorem dX8_ahead_53 : decode cX8_ahead 53 = .ok (.bipush 6, 2) := by decide +kernel
theorem dX8_ahead_55 : decode cX8_ahead 55 = .ok (.iload_n 2, 1) := by decide +kernel
theorem dX8_ahead_56 : decode cX8_ahead 56 = .ok (.invokestatic 173, 3) := by decide +kernel
theorem dX8_ahead_59 : decode cX8_ahead 59 = .ok (.i2l, 1) := by decide +kernel
theorem dX8_ahead_60 : decode cX8_ahead 60 = .ok (.lreturn, 1) := by decide +kernel
set_option maxRecDepth 20000 in
theorem ggX8_best_X8_isShip : GoodIn wsX8_best wsX8_isShip := goodIn_r _ [5, 6, 7, 4, 8] (by decide +kernel) (by decide +kernel)
set_option maxRecDepth 20000 in
theorem gX8_best_X8_isShip : GoodIn wsX8_best (va_wsS RX8 75 yX8_isShip wsX8_isShip) := goodIn_app (goodIn_of _ (by decide +kernel)) ggX8_best_X8_isShip
set_option maxRecDepth 20000 in
theorem ggX8_best_X0_weigh : GoodIn wsX8_best wsX0_weigh := goodIn_r _ [13, 14, 15, 16, 17, 18, 19, 20, 21, 22, 23, 24, 25, 26, 27, 28, 29, 30, 12, 31, 32, 33, 34, 35, 36, 37, 38, 39, 40, 41, 42, 43, 4, 44, 45, 46, 47, 48, 70, 71, 72, 73, 74] (by decide +kernel) (by decide +kernel)
set_option maxRecDepth 20000 in
theorem gX8_best_X0_weigh : GoodIn wsX8_best (wsV RX8 180 RX0 yX0_weigh wsX0_weigh) := goodIn_app (goodIn_of _ (by decide +kernel)) ggX8_best_X0_weigh
set_option maxRecDepth 20000 in
theorem ggX8_best_X0_sum : GoodIn wsX8_best wsX0_sum := goodIn_r _ [52, 16, 70, 71, 72] (by decide +kernel) (by decide +kernel)
set_option maxRecDepth 20000 in
theorem gX8_best_X0_sum : GoodIn wsX8_best (wsV RX8 183 RX0 yX0_sum wsX0_sum) := goodIn_app (goodIn_of _ (by decide +kernel)) ggX8_best_X0_sum
set_option maxRecDepth 20000 in
theorem ggX8_best_X0_nameOf : GoodIn wsX8_best wsX0_nameOf := goodIn_r _ [56, 57, 58, 59, 12, 60, 16, 43, 4, 44, 45, 46, 47, 48, 14, 70, 71, 72] (by decide +kernel) (by decide +kernel)
set_option maxRecDepth 20000 in
theorem gX8_best_X0_nameOf : GoodIn wsX8_best (wsV RX8 186 RX0 yX0_nameOf wsX0_nameOf) := goodIn_app (goodIn_of _ (by decide +kernel)) ggX8_best_X0_nameOf
theorem dX8_best_0 : decode cX8_best 0 = .ok (.iload_n 1, 1) := by decide +kernel
theorem dX8_best_1 : decode cX8_best 1 = .ok (.iconst (-1), 1) := by decide +kernel
theorem dX8_best_2 : decode cX8_best 2 = .ok (.if_icmp .eq 13, 3) := by decide +kernel
theorem dX8_best_5 : decode cX8_best 5 = .ok (.iload_n 1, 1) := by decide +kernel
theorem dX8_best_6 : decode cX8_best 6 = .ok (.invokestatic 75, 3) := by decide +kernel
theorem dX8_best_9 : decode cX8_best 9 = .ok (.ifCond .ne 6, 3) := by decide +kernel
theorem dX8_best_12 : decode cX8_best 12 = .ok (.bipush (-2), 2) := by decide +kernel
theorem dX8_best_14 : decode cX8_best 14 = .ok (.ireturn, 1) := by decide +kernel
theorem dX8_best_15 : decode cX8_best 15 = .ok (.aload_n 0, 1) := by decide +kernel
theorem dX8_best_16 : decode cX8_best 16 = .ok (.getfield 60, 3) := by decide +kernel
theorem dX8_best_19 : decode cX8_best 19 = .ok (.invokevirtual 180, 3) := by decide +kernel
theorem dX8_best_22 : decode cX8_best 22 = .ok (.iload_n 1, 1) := by decide +kernel
theorem dX8_best_23 : decode cX8_best 23 = .ok (.iconst (-1), 1) := by decide +kernel
theorem dX8_best_24 : decode cX8_best 24 = .ok (.if_icmp .ne 13, 3) := by decide +kernel
theorem dX8_best_27 : decode cX8_best 27 = .ok (.aload_n 0, 1) := by decide +kernel
theorem dX8_best_28 : decode cX8_best 28 = .ok (.getfield 60, 3) := by decide +kernel
theorem dX8_best_31 : decode cX8_best 31 = .ok (.invokevirtual 183, 3) := by decide +kernel
theorem dX8_best_34 : decode cX8_best 34 = .ok (.goto 11, 3) := by decide +kernel
theorem dX8_best_37 : decode cX8_best 37 = .ok (.aload_n 0, 1) := by decide +kernel
theorem dX8_best_38 : decode cX8_best 38 = .ok (.getfield 60, 3) := by decide +kernel
theorem dX8_best_41 : decode cX8_best 41 = .ok (.iload_n 1, 1) := by decide +kernel
theorem dX8_best_42 : decode cX8_best 42 = .ok (.invokevirtual 186, 3) := by decide +kernel
theorem dX8_best_45 : decode cX8_best 45 = .ok (.ireturn, 1) := by decide +kernel
set_option maxRecDepth 20000 in
theorem ggX8_rather_X8_isYear : GoodIn wsX8_rather wsX8_isYear := goodIn_r _ [6, 7, 8, 9, 10, 5, 11, 36, 37, 38, 39, 40, 41, 42, 43, 44, 45, 46, 47, 48] (by decide +kernel) (by decide +kernel)
set_option maxRecDepth 20000 in
theorem gX8_rather_X8_isYear : GoodIn wsX8_rather (wsV RX8 132 RX8 yX8_isYear wsX8_isYear) := goodIn_app (goodIn_of _ (by decide +kernel)) ggX8_rather_X8_isYear
set_option maxRecDepth 20000 in
theorem ggX8_rather_X7_wouldChange : GoodIn wsX8_rather wsX7_wouldChange := goodIn_r _ [16, 17, 18, 19, 20, 21, 22, 23, 24, 25, 26, 27, 28, 29, 30, 31, 32, 33, 34, 35, 49, 50, 45, 46, 47, 48, 51, 52] (by decide +kernel) (by decide +kernel)
set_option maxRecDepth 20000 in
theorem gX8_rather_X7_wouldChange : GoodIn wsX8_rather (wsV RX8 188 RX7 yX7_wouldChange wsX7_wouldChange) := goodIn_app (goodIn_of _ (by decide +kernel)) ggX8_rather_X7_wouldChange
theorem dX8_rather_0 : decode cX8_rather 0 = .ok (.aload_n 0, 1) := by decide +kernel
theorem dX8_rather_1 : decode cX8_rather 1 = .ok (.iload_n 1, 1) := by decide +kernel
theorem dX8_rather_2 : decode cX8_rather 2 = .ok (.invokevirtual 132, 3) := by decide +kernel
theorem dX8_rather_5 : decode cX8_rather 5 = .ok (.ifCond .ne 6, 3) := by decide +kernel
theorem dX8_rather_8 : decode cX8_rather 8 = .ok (.bipush (-2), 2) := by decide +kernel
theorem dX8_rather_10 : decode cX8_rather 10 = .ok (.ireturn, 1) := by decide +kernel
theorem dX8_rather_11 : decode cX8_rather 11 = .ok (.iconst 0, 1) := by decide +kernel
theorem dX8_rather_12 : decode cX8_rather 12 = .ok (.istore_n 2, 1) := by decide +kernel
theorem dX8_rather_13 : decode cX8_rather 13 = .ok (.iconst 0, 1) := by decide +kernel
theorem dX8_rather_14 : decode cX8_rather 14 = .ok (.istore_n 3, 1) := by decide +kernel
theorem dX8_rather_15 : decode cX8_rather 15 = .ok (.iload_n 3, 1) := by decide +kernel
theorem dX8_rather_16 : decode cX8_rather 16 = .ok (.bipush 6, 2) := by decide +kernel
theorem dX8_rather_18 : decode cX8_rather 18 = .ok (.if_icmp .ge 58, 3) := by decide +kernel
theorem dX8_rather_21 : decode cX8_rather 21 = .ok (.iload_n 3, 1) := by decide +kernel
theorem dX8_rather_22 : decode cX8_rather 22 = .ok (.iconst 1, 1) := by decide +kernel
theorem dX8_rather_23 : decode cX8_rather 23 = .ok (.iadd, 1) := by decide +kernel
theorem dX8_rather_24 : decode cX8_rather 24 = .ok (.istore 4, 2) := by decide +kernel
theorem dX8_rather_26 : decode cX8_rather 26 = .ok (.iload 4, 2) := by decide +kernel
theorem dX8_rather_28 : decode cX8_rather 28 = .ok (.bipush 6, 2) := by decide +kernel
theorem dX8_rather_30 : decode cX8_rather 30 = .ok (.if_icmp .ge 40, 3) := by decide +kernel
theorem dX8_rather_33 : decode cX8_rather 33 = .ok (.aload_n 0, 1) := by decide +kernel
theorem dX8_rather_34 : decode cX8_rather 34 = .ok (.getfield 28, 3) := by decide +kernel
theorem dX8_rather_37 : decode cX8_rather 37 = .ok (.iload_n 3, 1) := by decide +kernel
theorem dX8_rather_38 : decode cX8_rather 38 = .ok (.iload 4, 2) := by decide +kernel
theorem dX8_rather_40 : decode cX8_rather 40 = .ok (.iload_n 1, 1) := by decide +kernel
theorem dX8_rather_41 : decode cX8_rather 41 = .ok (.invokevirtual 188, 3) := by decide +kernel
theorem dX8_rather_44 : decode cX8_rather 44 = .ok (.ifCond .eq 20, 3) := by decide +kernel
theorem dX8_rather_47 : decode cX8_rather 47 = .ok (.aload_n 0, 1) := by decide +kernel
theorem dX8_rather_48 : decode cX8_rather 48 = .ok (.getfield 28, 3) := by decide +kernel
theorem dX8_rather_51 : decode cX8_rather 51 = .ok (.iload 4, 2) := by decide +kernel
theorem dX8_rather_53 : decode cX8_rather 53 = .ok (.iload_n 3, 1) := by decide +kernel
theorem dX8_rather_54 : decode cX8_rather 54 = .ok (.iload_n 1, 1) := by decide +kernel
theorem dX8_rather_55 : decode cX8_rather 55 = .ok (.invokevirtual 188, 3) := by decide +kernel
theorem dX8_rather_58 : decode cX8_rather 58 = .ok (.ifCond .eq 6, 3) := by decide +kernel
theorem dX8_rather_61 : decode cX8_rather 61 = .ok (.iinc 2 1, 3) := by decide +kernel
theorem dX8_rather_64 : decode cX8_rather 64 = .ok (.iinc 4 1, 3) := by decide +kernel
theorem dX8_rather_67 : decode cX8_rather 67 = .ok (.goto (-41), 3) := by decide +kernel
theorem dX8_rather_70 : decode cX8_rather 70 = .ok (.iinc 3 1, 3) := by decide +kernel
theorem dX8_rather_73 : decode cX8_rather 73 = .ok (.goto (-58), 3) := by decide +kernel
theorem dX8_rather_76 : decode cX8_rather 76 = .ok (.iload_n 2, 1) := by decide +kernel
theorem dX8_rather_77 : decode cX8_rather 77 = .ok (.ireturn, 1) := by decide +kernel
set_option maxRecDepth 20000 in
theorem ggX8_on_X8_isYear : GoodIn wsX8_on wsX8_isYear := goodIn_r _ [6, 7, 8, 9, 10, 5, 11, 27, 28, 29, 30, 31, 32, 33, 34, 35, 36, 37, 38, 39] (by decide +kernel) (by decide +kernel)
set_option maxRecDepth 20000 in
theorem gX8_on_X8_isYear : GoodIn wsX8_on (wsV RX8 132 RX8 yX8_isYear wsX8_isYear) := goodIn_app (goodIn_of _ (by decide +kernel)) ggX8_on_X8_isYear
set_option maxRecDepth 20000 in
theorem ggX8_on_X8_isShip : GoodIn wsX8_on wsX8_isShip := goodIn_r _ [14, 9, 10, 5, 11] (by decide +kernel) (by decide +kernel)
set_option maxRecDepth 20000 in
theorem gX8_on_X8_isShip : GoodIn wsX8_on (va_wsS RX8 75 yX8_isShip wsX8_isShip) := goodIn_app (goodIn_of _ (by decide +kernel)) ggX8_on_X8_isShip
set_option maxRecDepth 20000 in
theorem ggX8_on_X8_isBelow : GoodIn wsX8_on wsX8_isBelow := goodIn_r _ [11] (by decide +kernel) (by decide +kernel)
set_option maxRecDepth 20000 in
theorem gX8_on_X8_isBelow : GoodIn wsX8_on (va_wsS RX8 79 yX8_isBelow wsX8_isBelow) := goodIn_app (goodIn_of _ (by decide +kernel)) ggX8_on_X8_isBelow
set_option maxRecDepth 20000 in
theorem ggX8_on_X7_drawnOn : GoodIn wsX8_on wsX7_drawnOn := goodIn_r _ [19, 20, 21, 22, 23, 24, 25, 26, 40, 41, 36, 37, 38, 39] (by decide +kernel) (by decide +kernel)
set_option maxRecDepth 20000 in
theorem gX8_on_X7_drawnOn : GoodIn wsX8_on (wsV RX8 192 RX7 yX7_drawnOn wsX7_drawnOn) := goodIn_app (goodIn_of _ (by decide +kernel)) ggX8_on_X7_drawnOn
theorem dX8_on_0 : decode cX8_on 0 = .ok (.aload_n 0, 1) := by decide +kernel
theorem dX8_on_1 : decode cX8_on 1 = .ok (.iload_n 1, 1) := by decide +kernel
theorem dX8_on_2 : decode cX8_on 2 = .ok (.invokevirtual 132, 3) := by decide +kernel
theorem dX8_on_5 : decode cX8_on 5 = .ok (.ifCond .eq 20, 3) := by decide +kernel
theorem dX8_on_8 : decode cX8_on 8 = .ok (.iload_n 2, 1) := by decide +kernel
theorem dX8_on_9 : decode cX8_on 9 = .ok (.invokestatic 75, 3) := by decide +kernel
theorem dX8_on_12 : decode cX8_on 12 = .ok (.ifCond .eq 13, 3) := by decide +kernel
theorem dX8_on_15 : decode cX8_on 15 = .ok (.iload_n 3, 1) := by decide +kernel
theorem dX8_on_16 : decode cX8_on 16 = .ok (.sipush 1000, 3) := by decide +kernel
theorem dX8_on_19 : decode cX8_on 19 = .ok (.invokestatic 79, 3) := by decide +kernel
theorem dX8_on_22 : decode cX8_on 22 = .ok (.ifCond .ne 6, 3) := by decide +kernel
theorem dX8_on_25 : decode cX8_on 25 = .ok (.bipush (-2), 2) := by decide +kernel
theorem dX8_on_27 : decode cX8_on 27 = .ok (.ireturn, 1) := by decide +kernel
theorem dX8_on_28 : decode cX8_on 28 = .ok (.aload_n 0, 1) := by decide +kernel
theorem dX8_on_29 : decode cX8_on 29 = .ok (.getfield 28, 3) := by decide +kernel
theorem dX8_on_32 : decode cX8_on 32 = .ok (.iload_n 1, 1) := by decide +kernel
theorem dX8_on_33 : decode cX8_on 33 = .ok (.iload_n 2, 1) := by decide +kernel
theorem dX8_on_34 : decode cX8_on 34 = .ok (.iload_n 3, 1) := by decide +kernel
theorem dX8_on_35 : decode cX8_on 35 = .ok (.invokevirtual 192, 3) := by decide +kernel
theorem dX8_on_38 : decode cX8_on 38 = .ok (.ireturn, 1) := by decide +kernel
set_option maxRecDepth 20000 in
theorem ggX8_returns_X8_isYear : GoodIn wsX8_returns wsX8_isYear := goodIn_r _ [6, 7, 8, 9, 10, 5, 11, 36, 37, 38, 39, 40, 41, 42, 43, 44, 45, 46, 47, 48] (by decide +kernel) (by decide +kernel)
set_option maxRecDepth 20000 in
theorem gX8_returns_X8_isYear : GoodIn wsX8_returns (wsV RX8 132 RX8 yX8_isYear wsX8_isYear) := goodIn_app (goodIn_of _ (by decide +kernel)) ggX8_returns_X8_isYear
set_option maxRecDepth 20000 in
theorem ggX8_returns_X8_isShip : GoodIn wsX8_returns wsX8_isShip := goodIn_r _ [14, 9, 10, 5, 11] (by decide +kernel) (by decide +kernel)
set_option maxRecDepth 20000 in
theorem gX8_returns_X8_isShip : GoodIn wsX8_returns (va_wsS RX8 75 yX8_isShip wsX8_isShip) := goodIn_app (goodIn_of _ (by decide +kernel)) ggX8_returns_X8_isShip
set_option maxRecDepth 20000 in
theorem ggX8_returns_X7_allBack : GoodIn wsX8_returns wsX7_allBack := goodIn_r _ [19, 20, 21, 22, 18, 23, 24, 25, 26, 27, 28, 29, 30, 31, 32, 33, 34, 49, 50, 45, 46, 47, 48] (by decide +kernel) (by decide +kernel)
set_option maxRecDepth 20000 in
theorem gX8_returns_X7_allBack : GoodIn wsX8_returns (wsV RX8 195 RX7 yX7_allBack wsX7_allBack) := goodIn_app (goodIn_of _ (by decide +kernel)) ggX8_returns_X7_allBack
set_option maxRecDepth 20000 in
theorem ggX8_returns_X7_isBack : GoodIn wsX8_returns wsX7_isBack := goodIn_r _ [23, 24, 25, 26, 18, 27, 28, 29, 30, 31, 32, 33, 34, 49, 50, 45, 46, 47, 48] (by decide +kernel) (by decide +kernel)
set_option maxRecDepth 20000 in
theorem gX8_returns_X7_isBack : GoodIn wsX8_returns (wsV RX8 198 RX7 yX7_isBack wsX7_isBack) := goodIn_app (goodIn_of _ (by decide +kernel)) ggX8_returns_X7_isBack
theorem dX8_returns_0 : decode cX8_returns 0 = .ok (.aload_n 0, 1) := by decide +kernel
theorem dX8_returns_1 : decode cX8_returns 1 = .ok (.iload_n 1, 1) := by decide +kernel
theorem dX8_returns_2 : decode cX8_returns 2 = .ok (.invokevirtual 132, 3) := by decide +kernel
theorem dX8_returns_5 : decode cX8_returns 5 = .ok (.ifCond .eq 15, 3) := by decide +kernel
theorem dX8_returns_8 : decode cX8_returns 8 = .ok (.iload_n 2, 1) := by decide +kernel
theorem dX8_returns_9 : decode cX8_returns 9 = .ok (.iconst (-1), 1) := by decide +kernel
theorem dX8_returns_10 : decode cX8_returns 10 = .ok (.if_icmp .eq 13, 3) := by decide +kernel
theorem dX8_returns_13 : decode cX8_returns 13 = .ok (.iload_n 2, 1) := by decide +kernel
theorem dX8_returns_14 : decode cX8_returns 14 = .ok (.invokestatic 75, 3) := by decide +kernel
theorem dX8_returns_17 : decode cX8_returns 17 = .ok (.ifCond .ne 6, 3) := by decide +kernel
theorem dX8_returns_20 : decode cX8_returns 20 = .ok (.bipush (-2), 2) := by decide +kernel
theorem dX8_returns_22 : decode cX8_returns 22 = .ok (.ireturn, 1) := by decide +kernel
theorem dX8_returns_23 : decode cX8_returns 23 = .ok (.iconst 1, 1) := by decide +kernel
theorem dX8_returns_24 : decode cX8_returns 24 = .ok (.istore_n 3, 1) := by decide +kernel
theorem dX8_returns_25 : decode cX8_returns 25 = .ok (.iload_n 3, 1) := by decide +kernel
theorem dX8_returns_26 : decode cX8_returns 26 = .ok (.sipush 720, 3) := by decide +kernel
theorem dX8_returns_29 : decode cX8_returns 29 = .ok (.if_icmp .gt 45, 3) := by decide +kernel
theorem dX8_returns_32 : decode cX8_returns 32 = .ok (.iload_n 2, 1) := by decide +kernel
theorem dX8_returns_33 : decode cX8_returns 33 = .ok (.iconst (-1), 1) := by decide +kernel
theorem dX8_returns_34 : decode cX8_returns 34 = .ok (.if_icmp .ne 15, 3) := by decide +kernel
theorem dX8_returns_37 : decode cX8_returns 37 = .ok (.aload_n 0, 1) := by decide +kernel
theorem dX8_returns_38 : decode cX8_returns 38 = .ok (.getfield 28, 3) := by decide +kernel
theorem dX8_returns_41 : decode cX8_returns 41 = .ok (.iload_n 1, 1) := by decide +kernel
theorem dX8_returns_42 : decode cX8_returns 42 = .ok (.iload_n 3, 1) := by decide +kernel
theorem dX8_returns_43 : decode cX8_returns 43 = .ok (.invokevirtual 195, 3) := by decide +kernel
theorem dX8_returns_46 : decode cX8_returns 46 = .ok (.goto 13, 3) := by decide +kernel
theorem dX8_returns_49 : decode cX8_returns 49 = .ok (.aload_n 0, 1) := by decide +kernel
theorem dX8_returns_50 : decode cX8_returns 50 = .ok (.getfield 28, 3) := by decide +kernel
theorem dX8_returns_53 : decode cX8_returns 53 = .ok (.iload_n 1, 1) := by decide +kernel
theorem dX8_returns_54 : decode cX8_returns 54 = .ok (.iload_n 2, 1) := by decide +kernel
theorem dX8_returns_55 : decode cX8_returns 55 = .ok (.iload_n 3, 1) := by decide +kernel
theorem dX8_returns_56 : decode cX8_returns 56 = .ok (.invokevirtual 198, 3) := by decide +kernel
theorem dX8_returns_59 : decode cX8_returns 59 = .ok (.istore 4, 2) := by decide +kernel
theorem dX8_returns_61 : decode cX8_returns 61 = .ok (.iload 4, 2) := by decide +kernel
theorem dX8_returns_63 : decode cX8_returns 63 = .ok (.ifCond .eq 5, 3) := by decide +kernel
theorem dX8_returns_66 : decode cX8_returns 66 = .ok (.iload_n 3, 1) := by decide +kernel
theorem dX8_returns_67 : decode cX8_returns 67 = .ok (.ireturn, 1) := by decide +kernel
theorem dX8_returns_68 : decode cX8_returns 68 = .ok (.iinc 3 1, 3) := by decide +kernel
theorem dX8_returns_71 : decode cX8_returns 71 = .ok (.goto (-46), 3) := by decide +kernel
theorem dX8_returns_74 : decode cX8_returns 74 = .ok (.iconst (-1), 1) := by decide +kernel
theorem dX8_returns_75 : decode cX8_returns 75 = .ok (.ireturn, 1) := by decide +kernel
set_option maxRecDepth 20000 in
theorem ggX8_lot_X8_isShip : GoodIn wsX8_lot wsX8_isShip := goodIn_r _ [5, 6, 7, 4, 8] (by decide +kernel) (by decide +kernel)
set_option maxRecDepth 20000 in
theorem gX8_lot_X8_isShip : GoodIn wsX8_lot (va_wsS RX8 75 yX8_isShip wsX8_isShip) := goodIn_app (goodIn_of _ (by decide +kernel)) ggX8_lot_X8_isShip
set_option maxRecDepth 20000 in
theorem ggX8_lot_X8_nameAt : GoodIn wsX8_lot wsX8_nameAt := goodIn_r _ [11, 12, 13, 4, 14] (by decide +kernel) (by decide +kernel)
set_option maxRecDepth 20000 in
theorem gX8_lot_X8_nameAt : GoodIn wsX8_lot (va_wsS RX8 202 yX8_nameAt wsX8_nameAt) := goodIn_app (goodIn_of _ (by decide +kernel)) ggX8_lot_X8_nameAt
theorem dX8_lot_0 : decode cX8_lot 0 = .ok (.iload_n 2, 1) := by decide +kernel
theorem dX8_lot_1 : decode cX8_lot 1 = .ok (.invokestatic 75, 3) := by decide +kernel
theorem dX8_lot_4 : decode cX8_lot 4 = .ok (.ifCond .ne 6, 3) := by decide +kernel
theorem dX8_lot_7 : decode cX8_lot 7 = .ok (.bipush (-2), 2) := by decide +kernel
theorem dX8_lot_9 : decode cX8_lot 9 = .ok (.ireturn, 1) := by decide +kernel
theorem dX8_lot_10 : decode cX8_lot 10 = .ok (.bipush 63, 2) := by decide +kernel
theorem dX8_lot_12 : decode cX8_lot 12 = .ok (.istore_n 3, 1) := by decide +kernel
theorem dX8_lot_13 : decode cX8_lot 13 = .ok (.iconst (-1), 1) := by decide +kernel
theorem dX8_lot_14 : decode cX8_lot 14 = .ok (.istore 4, 2) := by decide +kernel
theorem dX8_lot_16 : decode cX8_lot 16 = .ok (.iload_n 1, 1) := by decide +kernel
theorem dX8_lot_17 : decode cX8_lot 17 = .ok (.istore 5, 2) := by decide +kernel
theorem dX8_lot_19 : decode cX8_lot 19 = .ok (.iconst 0, 1) := by decide +kernel
theorem dX8_lot_20 : decode cX8_lot 20 = .ok (.istore 6, 2) := by decide +kernel
theorem dX8_lot_22 : decode cX8_lot 22 = .ok (.iload 6, 2) := by decide +kernel
theorem dX8_lot_24 : decode cX8_lot 24 = .ok (.iload_n 2, 1) := by decide +kernel
theorem dX8_lot_25 : decode cX8_lot 25 = .ok (.if_icmp .gt 46, 3) := by decide +kernel
theorem dX8_lot_28 : decode cX8_lot 28 = .ok (.ldc 201, 2) := by decide +kernel
theorem dX8_lot_30 : decode cX8_lot 30 = .ok (.iload 5, 2) := by decide +kernel
theorem dX8_lot_32 : decode cX8_lot 32 = .ok (.imul, 1) := by decide +kernel
theorem dX8_lot_33 : decode cX8_lot 33 = .ok (.sipush 12345, 3) := by decide +kernel
theorem dX8_lot_36 : decode cX8_lot 36 = .ok (.iadd, 1) := by decide +kernel
theorem dX8_lot_37 : decode cX8_lot 37 = .ok (.istore 5, 2) := by decide +kernel
theorem dX8_lot_39 : decode cX8_lot 39 = .ok (.iload_n 3, 1) := by decide +kernel
theorem dX8_lot_40 : decode cX8_lot 40 = .ok (.iload 5, 2) := by decide +kernel
theorem dX8_lot_42 : decode cX8_lot 42 = .ok (.bipush 16, 2) := by decide +kernel
theorem dX8_lot_44 : decode cX8_lot 44 = .ok (.iushr, 1) := by decide +kernel
theorem dX8_lot_45 : decode cX8_lot 45 = .ok (.bipush 6, 2) := by decide +kernel
theorem dX8_lot_47 : decode cX8_lot 47 = .ok (.iload 6, 2) := by decide +kernel
theorem dX8_lot_49 : decode cX8_lot 49 = .ok (.isub, 1) := by decide +kernel
theorem dX8_lot_50 : decode cX8_lot 50 = .ok (.irem, 1) := by decide +kernel
theorem dX8_lot_51 : decode cX8_lot 51 = .ok (.invokestatic 202, 3) := by decide +kernel
theorem dX8_lot_54 : decode cX8_lot 54 = .ok (.istore 4, 2) := by decide +kernel
theorem dX8_lot_56 : decode cX8_lot 56 = .ok (.iload_n 3, 1) := by decide +kernel
theorem dX8_lot_57 : decode cX8_lot 57 = .ok (.iconst 1, 1) := by decide +kernel
theorem dX8_lot_58 : decode cX8_lot 58 = .ok (.iload 4, 2) := by decide +kernel
theorem dX8_lot_60 : decode cX8_lot 60 = .ok (.ishl, 1) := by decide +kernel
theorem dX8_lot_61 : decode cX8_lot 61 = .ok (.iconst (-1), 1) := by decide +kernel
theorem dX8_lot_62 : decode cX8_lot 62 = .ok (.ixor, 1) := by decide +kernel
theorem dX8_lot_63 : decode cX8_lot 63 = .ok (.iand, 1) := by decide +kernel
theorem dX8_lot_64 : decode cX8_lot 64 = .ok (.istore_n 3, 1) := by decide +kernel
theorem dX8_lot_65 : decode cX8_lot 65 = .ok (.iinc 6 1, 3) := by decide +kernel
theorem dX8_lot_68 : decode cX8_lot 68 = .ok (.goto (-46), 3) := by decide +kernel
theorem dX8_lot_71 : decode cX8_lot 71 = .ok (.iload 4, 2) := by decide +kernel
theorem dX8_lot_73 : decode cX8_lot 73 = .ok (.ireturn, 1) := by decide +kernel
set_option maxRecDepth 20000 in
theorem ggX8_claim_X8_isShip : GoodIn wsX8_claim wsX8_isShip := goodIn_r _ [6, 7, 8, 5, 9] (by decide +kernel) (by decide +kernel)
set_option maxRecDepth 20000 in
theorem gX8_claim_X8_isShip : GoodIn wsX8_claim (va_wsS RX8 75 yX8_isShip wsX8_isShip) := goodIn_app (goodIn_of _ (by decide +kernel)) ggX8_claim_X8_isShip
set_option maxRecDepth 20000 in
theorem ggX8_claim_X8_isBelow : GoodIn wsX8_claim wsX8_isBelow := goodIn_r _ [9] (by decide +kernel) (by decide +kernel)
set_option maxRecDepth 20000 in
theorem gX8_claim_X8_isBelow : GoodIn wsX8_claim (va_wsS RX8 79 yX8_isBelow wsX8_isBelow) := goodIn_app (goodIn_of _ (by decide +kernel)) ggX8_claim_X8_isBelow
set_option maxRecDepth 20000 in
theorem ggX8_claim_X2_add : GoodIn wsX8_claim wsX2_add := goodIn_r _ [14, 15, 16, 17, 18, 28, 29, 30, 31, 32] (by decide +kernel) (by decide +kernel)
set_option maxRecDepth 20000 in
theorem gX8_claim_X2_add : GoodIn wsX8_claim (wsV RX8 208 RX2 yX2_add wsX2_add) := goodIn_app (goodIn_of _ (by decide +kernel)) ggX8_claim_X2_add
theorem dX8_claim_0 : decode cX8_claim 0 = .ok (.iload_n 1, 1) := by decide +kernel
theorem dX8_claim_1 : decode cX8_claim 1 = .ok (.invokestatic 75, 3) := by decide +kernel
theorem dX8_claim_4 : decode cX8_claim 4 = .ok (.ifCond .eq 23, 3) := by decide +kernel
theorem dX8_claim_7 : decode cX8_claim 7 = .ok (.iload_n 2, 1) := by decide +kernel
theorem dX8_claim_8 : decode cX8_claim 8 = .ok (.bipush 12, 2) := by decide +kernel
theorem dX8_claim_10 : decode cX8_claim 10 = .ok (.invokestatic 79, 3) := by decide +kernel
theorem dX8_claim_13 : decode cX8_claim 13 = .ok (.ifCond .eq 14, 3) := by decide +kernel
theorem dX8_claim_16 : decode cX8_claim 16 = .ok (.iload_n 3, 1) := by decide +kernel
theorem dX8_claim_17 : decode cX8_claim 17 = .ok (.iconst 1, 1) := by decide +kernel
theorem dX8_claim_18 : decode cX8_claim 18 = .ok (.if_icmp .lt 9, 3) := by decide +kernel
theorem dX8_claim_21 : decode cX8_claim 21 = .ok (.iload_n 3, 1) := by decide +kernel
theorem dX8_claim_22 : decode cX8_claim 22 = .ok (.bipush 99, 2) := by decide +kernel
theorem dX8_claim_24 : decode cX8_claim 24 = .ok (.if_icmp .le 6, 3) := by decide +kernel
theorem dX8_claim_27 : decode cX8_claim 27 = .ok (.bipush (-2), 2) := by decide +kernel
theorem dX8_claim_29 : decode cX8_claim 29 = .ok (.ireturn, 1) := by decide +kernel
theorem dX8_claim_30 : decode cX8_claim 30 = .ok (.aload_n 0, 1) := by decide +kernel
theorem dX8_claim_31 : decode cX8_claim 31 = .ok (.getfield 37, 3) := by decide +kernel
theorem dX8_claim_34 : decode cX8_claim 34 = .ok (.getfield 205, 3) := by decide +kernel
theorem dX8_claim_37 : decode cX8_claim 37 = .ok (.bipush 12, 2) := by decide +kernel
theorem dX8_claim_39 : decode cX8_claim 39 = .ok (.if_icmp .lt 6, 3) := by decide +kernel
theorem dX8_claim_42 : decode cX8_claim 42 = .ok (.bipush (-4), 2) := by decide +kernel
theorem dX8_claim_44 : decode cX8_claim 44 = .ok (.ireturn, 1) := by decide +kernel
theorem dX8_claim_45 : decode cX8_claim 45 = .ok (.aload_n 0, 1) := by decide +kernel
theorem dX8_claim_46 : decode cX8_claim 46 = .ok (.getfield 37, 3) := by decide +kernel
theorem dX8_claim_49 : decode cX8_claim 49 = .ok (.iload_n 1, 1) := by decide +kernel
theorem dX8_claim_50 : decode cX8_claim 50 = .ok (.iload_n 2, 1) := by decide +kernel
theorem dX8_claim_51 : decode cX8_claim 51 = .ok (.iload_n 3, 1) := by decide +kernel
theorem dX8_claim_52 : decode cX8_claim 52 = .ok (.invokevirtual 208, 3) := by decide +kernel
theorem dX8_claim_55 : decode cX8_claim 55 = .ok (.aload_n 0, 1) := by decide +kernel
theorem dX8_claim_56 : decode cX8_claim 56 = .ok (.getfield 37, 3) := by decide +kernel
theorem dX8_claim_59 : decode cX8_claim 59 = .ok (.getfield 205, 3) := by decide +kernel
theorem dX8_claim_62 : decode cX8_claim 62 = .ok (.ireturn, 1) := by decide +kernel
set_option maxRecDepth 20000 in
theorem ggX8_owed_X8_isShip : GoodIn wsX8_owed wsX8_isShip := goodIn_r _ [5, 6, 7, 4, 8] (by decide +kernel) (by decide +kernel)
set_option maxRecDepth 20000 in
theorem gX8_owed_X8_isShip : GoodIn wsX8_owed (va_wsS RX8 75 yX8_isShip wsX8_isShip) := goodIn_app (goodIn_of _ (by decide +kernel)) ggX8_owed_X8_isShip
set_option maxRecDepth 20000 in
theorem ggX8_owed_X8_isBelow : GoodIn wsX8_owed wsX8_isBelow := goodIn_r _ [8] (by decide +kernel) (by decide +kernel)
set_option maxRecDepth 20000 in
theorem gX8_owed_X8_isBelow : GoodIn wsX8_owed (va_wsS RX8 79 yX8_isBelow wsX8_isBelow) := goodIn_app (goodIn_of _ (by decide +kernel)) ggX8_owed_X8_isBelow
set_option maxRecDepth 20000 in
theorem ggX8_owed_X2_sumFor : GoodIn wsX8_owed wsX2_sumFor := goodIn_r _ [13, 14, 15, 16, 17, 18, 19, 12, 20, 21, 22, 23, 24, 25, 26, 27, 28, 29, 30, 31, 32, 33, 34, 35, 36, 46, 47, 48, 49, 50, 51, 52, 53, 54] (by decide +kernel) (by decide +kernel)
set_option maxRecDepth 20000 in
theorem gX8_owed_X2_sumFor : GoodIn wsX8_owed (wsV RX8 212 RX2 yX2_sumFor wsX2_sumFor) := goodIn_app (goodIn_of _ (by decide +kernel)) ggX8_owed_X2_sumFor
theorem dX8_owed_0 : decode cX8_owed 0 = .ok (.iload_n 1, 1) := by decide +kernel
theorem dX8_owed_1 : decode cX8_owed 1 = .ok (.invokestatic 75, 3) := by decide +kernel
theorem dX8_owed_4 : decode cX8_owed 4 = .ok (.ifCond .eq 11, 3) := by decide +kernel
theorem dX8_owed_7 : decode cX8_owed 7 = .ok (.iload_n 2, 1) := by decide +kernel
theorem dX8_owed_8 : decode cX8_owed 8 = .ok (.iconst 3, 1) := by decide +kernel
theorem dX8_owed_9 : decode cX8_owed 9 = .ok (.invokestatic 79, 3) := by decide +kernel
theorem dX8_owed_12 : decode cX8_owed 12 = .ok (.ifCond .ne 6, 3) := by decide +kernel
theorem dX8_owed_15 : decode cX8_owed 15 = .ok (.bipush (-2), 2) := by decide +kernel
theorem dX8_owed_17 : decode cX8_owed 17 = .ok (.ireturn, 1) := by decide +kernel
theorem dX8_owed_18 : decode cX8_owed 18 = .ok (.aload_n 0, 1) := by decide +kernel
theorem dX8_owed_19 : decode cX8_owed 19 = .ok (.getfield 37, 3) := by decide +kernel
theorem dX8_owed_22 : decode cX8_owed 22 = .ok (.iload_n 1, 1) := by decide +kernel
theorem dX8_owed_23 : decode cX8_owed 23 = .ok (.iload_n 2, 1) := by decide +kernel
theorem dX8_owed_24 : decode cX8_owed 24 = .ok (.invokevirtual 212, 3) := by decide +kernel
theorem dX8_owed_27 : decode cX8_owed 27 = .ok (.ireturn, 1) := by decide +kernel
set_option maxRecDepth 20000 in
theorem ggX8_lightest_X8_isShip : GoodIn wsX8_lightest wsX8_isShip := goodIn_r _ [5, 6, 7, 4, 8] (by decide +kernel) (by decide +kernel)
set_option maxRecDepth 20000 in
theorem gX8_lightest_X8_isShip : GoodIn wsX8_lightest (va_wsS RX8 75 yX8_isShip wsX8_isShip) := goodIn_app (goodIn_of _ (by decide +kernel)) ggX8_lightest_X8_isShip
set_option maxRecDepth 20000 in
theorem ggX8_lightest_X2_sumFor : GoodIn wsX8_lightest wsX2_sumFor := goodIn_r _ [13, 14, 15, 16, 17, 18, 19, 12, 20, 21, 22, 23, 24, 25, 26, 27, 28, 29, 30, 31, 32, 33, 34, 35, 36, 46, 47, 48, 49, 50, 51, 52, 53, 54] (by decide +kernel) (by decide +kernel)
set_option maxRecDepth 20000 in
theorem gX8_lightest_X2_sumFor : GoodIn wsX8_lightest (wsV RX8 212 RX2 yX2_sumFor wsX2_sumFor) := goodIn_app (goodIn_of _ (by decide +kernel)) ggX8_lightest_X2_sumFor
theorem dX8_lightest_0 : decode cX8_lightest 0 = .ok (.iload_n 1, 1) := by decide +kernel
theorem dX8_lightest_1 : decode cX8_lightest 1 = .ok (.invokestatic 75, 3) := by decide +kernel
theorem dX8_lightest_4 : decode cX8_lightest 4 = .ok (.ifCond .ne 6, 3) := by decide +kernel
theorem dX8_lightest_7 : decode cX8_lightest 7 = .ok (.bipush (-2), 2) := by decide +kernel
theorem dX8_lightest_9 : decode cX8_lightest 9 = .ok (.ireturn, 1) := by decide +kernel
theorem dX8_lightest_10 : decode cX8_lightest 10 = .ok (.iconst 0, 1) := by decide +kernel
theorem dX8_lightest_11 : decode cX8_lightest 11 = .ok (.istore_n 2, 1) := by decide +kernel
theorem dX8_lightest_12 : decode cX8_lightest 12 = .ok (.iconst 1, 1) := by decide +kernel
theorem dX8_lightest_13 : decode cX8_lightest 13 = .ok (.istore_n 3, 1) := by decide +kernel
theorem dX8_lightest_14 : decode cX8_lightest 14 = .ok (.iload_n 3, 1) := by decide +kernel
theorem dX8_lightest_15 : decode cX8_lightest 15 = .ok (.iconst 3, 1) := by decide +kernel
theorem dX8_lightest_16 : decode cX8_lightest 16 = .ok (.if_icmp .ge 32, 3) := by decide +kernel
theorem dX8_lightest_19 : decode cX8_lightest 19 = .ok (.aload_n 0, 1) := by decide +kernel
theorem dX8_lightest_20 : decode cX8_lightest 20 = .ok (.getfield 37, 3) := by decide +kernel
theorem dX8_lightest_23 : decode cX8_lightest 23 = .ok (.iload_n 1, 1) := by decide +kernel
theorem dX8_lightest_24 : decode cX8_lightest 24 = .ok (.iload_n 3, 1) := by decide +kernel
theorem dX8_lightest_25 : decode cX8_lightest 25 = .ok (.invokevirtual 212, 3) := by decide +kernel
theorem dX8_lightest_28 : decode cX8_lightest 28 = .ok (.aload_n 0, 1) := by decide +kernel
theorem dX8_lightest_29 : decode cX8_lightest 29 = .ok (.getfield 37, 3) := by decide +kernel
theorem dX8_lightest_32 : decode cX8_lightest 32 = .ok (.iload_n 1, 1) := by decide +kernel
theorem dX8_lightest_33 : decode cX8_lightest 33 = .ok (.iload_n 2, 1) := by decide +kernel
theorem dX8_lightest_34 : decode cX8_lightest 34 = .ok (.invokevirtual 212, 3) := by decide +kernel
theorem dX8_lightest_37 : decode cX8_lightest 37 = .ok (.if_icmp .ge 5, 3) := by decide +kernel
theorem dX8_lightest_40 : decode cX8_lightest 40 = .ok (.iload_n 3, 1) := by decide +kernel
theorem dX8_lightest_41 : decode cX8_lightest 41 = .ok (.istore_n 2, 1) := by decide +kernel
theorem dX8_lightest_42 : decode cX8_lightest 42 = .ok (.iinc 3 1, 3) := by decide +kernel
theorem dX8_lightest_45 : decode cX8_lightest 45 = .ok (.goto (-31), 3) := by decide +kernel
theorem dX8_lightest_48 : decode cX8_lightest 48 = .ok (.iload_n 2, 1) := by decide +kernel
theorem dX8_lightest_49 : decode cX8_lightest 49 = .ok (.ireturn, 1) := by decide +kernel
set_option maxRecDepth 20000 in
theorem ggX8_disputed_X2_countDisputed : GoodIn wsX8_disputed wsX2_countDisputed := goodIn_r _ [6, 7, 8, 9, 10, 11, 5, 12, 13, 14, 15, 16, 17, 18, 19, 20, 21, 22, 23, 24, 25, 35, 36, 37, 38, 39, 40, 41, 42, 43] (by decide +kernel) (by decide +kernel)
set_option maxRecDepth 20000 in
theorem gX8_disputed_X2_countDisputed : GoodIn wsX8_disputed (wsV RX8 215 RX2 yX2_countDisputed wsX2_countDisputed) := goodIn_app (goodIn_of _ (by decide +kernel)) ggX8_disputed_X2_countDisputed
theorem dX8_disputed_0 : decode cX8_disputed 0 = .ok (.aload_n 0, 1) := by decide +kernel
theorem dX8_disputed_1 : decode cX8_disputed 1 = .ok (.getfield 37, 3) := by decide +kernel
theorem dX8_disputed_4 : decode cX8_disputed 4 = .ok (.invokevirtual 215, 3) := by decide +kernel
theorem dX8_disputed_7 : decode cX8_disputed 7 = .ok (.ireturn, 1) := by decide +kernel
set_option maxRecDepth 20000 in
theorem ggX8_seen_X8_isShip : GoodIn wsX8_seen wsX8_isShip := goodIn_r _ [6, 7, 8, 5, 9] (by decide +kernel) (by decide +kernel)
set_option maxRecDepth 20000 in
theorem gX8_seen_X8_isShip : GoodIn wsX8_seen (va_wsS RX8 75 yX8_isShip wsX8_isShip) := goodIn_app (goodIn_of _ (by decide +kernel)) ggX8_seen_X8_isShip
set_option maxRecDepth 20000 in
theorem ggX8_seen_X8_isBelow : GoodIn wsX8_seen wsX8_isBelow := goodIn_r _ [9] (by decide +kernel) (by decide +kernel)
set_option maxRecDepth 20000 in
theorem gX8_seen_X8_isBelow : GoodIn wsX8_seen (va_wsS RX8 79 yX8_isBelow wsX8_isBelow) := goodIn_app (goodIn_of _ (by decide +kernel)) ggX8_seen_X8_isBelow
set_option maxRecDepth 20000 in
theorem ggX8_seen_X8_isTrait : GoodIn wsX8_seen wsX8_isTrait := goodIn_r _ [12] (by decide +kernel) (by decide +kernel)
set_option maxRecDepth 20000 in
theorem gX8_seen_X8_isTrait : GoodIn wsX8_seen (va_wsS RX8 83 yX8_isTrait wsX8_isTrait) := goodIn_app (goodIn_of _ (by decide +kernel)) ggX8_seen_X8_isTrait
set_option maxRecDepth 20000 in
theorem ggX8_seen_X6_add : GoodIn wsX8_seen wsX6_add := goodIn_r _ [17, 18, 19, 20, 21, 31, 32, 33, 34, 35] (by decide +kernel) (by decide +kernel)
set_option maxRecDepth 20000 in
theorem gX8_seen_X6_add : GoodIn wsX8_seen (wsV RX8 219 RX6 yX6_add wsX6_add) := goodIn_app (goodIn_of _ (by decide +kernel)) ggX8_seen_X6_add
theorem dX8_seen_0 : decode cX8_seen 0 = .ok (.iload_n 1, 1) := by decide +kernel
theorem dX8_seen_1 : decode cX8_seen 1 = .ok (.invokestatic 75, 3) := by decide +kernel
theorem dX8_seen_4 : decode cX8_seen 4 = .ok (.ifCond .eq 19, 3) := by decide +kernel
theorem dX8_seen_7 : decode cX8_seen 7 = .ok (.iload_n 2, 1) := by decide +kernel
theorem dX8_seen_8 : decode cX8_seen 8 = .ok (.iconst 2, 1) := by decide +kernel
theorem dX8_seen_9 : decode cX8_seen 9 = .ok (.invokestatic 79, 3) := by decide +kernel
theorem dX8_seen_12 : decode cX8_seen 12 = .ok (.ifCond .eq 11, 3) := by decide +kernel
theorem dX8_seen_15 : decode cX8_seen 15 = .ok (.iload_n 2, 1) := by decide +kernel
theorem dX8_seen_16 : decode cX8_seen 16 = .ok (.iload_n 3, 1) := by decide +kernel
theorem dX8_seen_17 : decode cX8_seen 17 = .ok (.invokestatic 83, 3) := by decide +kernel
theorem dX8_seen_20 : decode cX8_seen 20 = .ok (.ifCond .ne 6, 3) := by decide +kernel
theorem dX8_seen_23 : decode cX8_seen 23 = .ok (.bipush (-2), 2) := by decide +kernel
theorem dX8_seen_25 : decode cX8_seen 25 = .ok (.ireturn, 1) := by decide +kernel
theorem dX8_seen_26 : decode cX8_seen 26 = .ok (.aload_n 0, 1) := by decide +kernel
theorem dX8_seen_27 : decode cX8_seen 27 = .ok (.getfield 46, 3) := by decide +kernel
theorem dX8_seen_30 : decode cX8_seen 30 = .ok (.getfield 218, 3) := by decide +kernel
theorem dX8_seen_33 : decode cX8_seen 33 = .ok (.bipush 8, 2) := by decide +kernel
theorem dX8_seen_35 : decode cX8_seen 35 = .ok (.if_icmp .lt 6, 3) := by decide +kernel
theorem dX8_seen_38 : decode cX8_seen 38 = .ok (.bipush (-4), 2) := by decide +kernel
theorem dX8_seen_40 : decode cX8_seen 40 = .ok (.ireturn, 1) := by decide +kernel
theorem dX8_seen_41 : decode cX8_seen 41 = .ok (.aload_n 0, 1) := by decide +kernel
theorem dX8_seen_42 : decode cX8_seen 42 = .ok (.getfield 46, 3) := by decide +kernel
theorem dX8_seen_45 : decode cX8_seen 45 = .ok (.iload_n 1, 1) := by decide +kernel
theorem dX8_seen_46 : decode cX8_seen 46 = .ok (.iload_n 2, 1) := by decide +kernel
theorem dX8_seen_47 : decode cX8_seen 47 = .ok (.iload_n 3, 1) := by decide +kernel
theorem dX8_seen_48 : decode cX8_seen 48 = .ok (.invokevirtual 219, 3) := by decide +kernel
theorem dX8_seen_51 : decode cX8_seen 51 = .ok (.aload_n 0, 1) := by decide +kernel
theorem dX8_seen_52 : decode cX8_seen 52 = .ok (.getfield 46, 3) := by decide +kernel
theorem dX8_seen_55 : decode cX8_seen 55 = .ok (.getfield 218, 3) := by decide +kernel
theorem dX8_seen_58 : decode cX8_seen 58 = .ok (.ireturn, 1) := by decide +kernel
set_option maxRecDepth 20000 in
theorem ggX8_forget_X8_isBelow : GoodIn wsX8_forget wsX8_isBelow := goodIn_r _ [6] (by decide +kernel) (by decide +kernel)
set_option maxRecDepth 20000 in
theorem gX8_forget_X8_isBelow : GoodIn wsX8_forget (va_wsS RX8 79 yX8_isBelow wsX8_isBelow) := goodIn_app (goodIn_of _ (by decide +kernel)) ggX8_forget_X8_isBelow
set_option maxRecDepth 20000 in
theorem ggX8_forget_X2_clear : GoodIn wsX8_forget wsX2_clear := goodIn_r _ [11, 12, 28, 29, 30, 31, 32] (by decide +kernel) (by decide +kernel)
set_option maxRecDepth 20000 in
theorem gX8_forget_X2_clear : GoodIn wsX8_forget (wsV RX8 220 RX2 yX2_clear wsX2_clear) := goodIn_app (goodIn_of _ (by decide +kernel)) ggX8_forget_X2_clear
set_option maxRecDepth 20000 in
theorem ggX8_forget_X6_clear : GoodIn wsX8_forget wsX6_clear := goodIn_r _ [17, 18, 33, 34, 35, 36, 37] (by decide +kernel) (by decide +kernel)
set_option maxRecDepth 20000 in
theorem gX8_forget_X6_clear : GoodIn wsX8_forget (wsV RX8 221 RX6 yX6_clear wsX6_clear) := goodIn_app (goodIn_of _ (by decide +kernel)) ggX8_forget_X6_clear
theorem dX8_forget_0 : decode cX8_forget 0 = .ok (.iload_n 1, 1) := by decide +kernel
theorem dX8_forget_1 : decode cX8_forget 1 = .ok (.iconst 2, 1) := by decide +kernel
theorem dX8_forget_2 : decode cX8_forget 2 = .ok (.invokestatic 79, 3) := by decide +kernel
theorem dX8_forget_5 : decode cX8_forget 5 = .ok (.ifCond .ne 6, 3) := by decide +kernel
theorem dX8_forget_8 : decode cX8_forget 8 = .ok (.bipush (-2), 2) := by decide +kernel
theorem dX8_forget_10 : decode cX8_forget 10 = .ok (.ireturn, 1) := by decide +kernel
theorem dX8_forget_11 : decode cX8_forget 11 = .ok (.iload_n 1, 1) := by decide +kernel
theorem dX8_forget_12 : decode cX8_forget 12 = .ok (.ifCond .ne 13, 3) := by decide +kernel
theorem dX8_forget_15 : decode cX8_forget 15 = .ok (.aload_n 0, 1) := by decide +kernel
theorem dX8_forget_16 : decode cX8_forget 16 = .ok (.getfield 37, 3) := by decide +kernel
theorem dX8_forget_19 : decode cX8_forget 19 = .ok (.invokevirtual 220, 3) := by decide +kernel
theorem dX8_forget_22 : decode cX8_forget 22 = .ok (.goto 10, 3) := by decide +kernel
theorem dX8_forget_25 : decode cX8_forget 25 = .ok (.aload_n 0, 1) := by decide +kernel
theorem dX8_forget_26 : decode cX8_forget 26 = .ok (.getfield 46, 3) := by decide +kernel
theorem dX8_forget_29 : decode cX8_forget 29 = .ok (.invokevirtual 221, 3) := by decide +kernel
theorem dX8_forget_32 : decode cX8_forget 32 = .ok (.ireturn, 1) := by decide +kernel
set_option maxRecDepth 20000 in
theorem ggX8_could_X8_isShip : GoodIn wsX8_could wsX8_isShip := goodIn_r _ [5, 6, 7, 4, 8] (by decide +kernel) (by decide +kernel)
set_option maxRecDepth 20000 in
theorem gX8_could_X8_isShip : GoodIn wsX8_could (va_wsS RX8 75 yX8_isShip wsX8_isShip) := goodIn_app (goodIn_of _ (by decide +kernel)) ggX8_could_X8_isShip
set_option maxRecDepth 20000 in
theorem ggX8_could_X8_drawSeen : GoodIn wsX8_could wsX8_drawSeen := goodIn_r _ [12, 1, 13, 14, 15, 16, 17, 18, 19, 20, 21, 22, 23, 24, 25, 26, 27, 28, 29, 30, 31, 32, 33, 34, 35, 36, 37, 38, 39, 40, 41, 42, 43, 44, 45, 46, 47, 48, 49, 50, 51, 52, 61, 62, 63, 64, 65, 66, 67, 68, 69, 70, 71, 72, 73, 74, 75, 76, 77, 78, 79] (by decide +kernel) (by decide +kernel)
set_option maxRecDepth 20000 in
theorem gX8_could_X8_drawSeen : GoodIn wsX8_could (wsV RX8 222 RX8 yX8_drawSeen wsX8_drawSeen) := goodIn_app (goodIn_of _ (by decide +kernel)) ggX8_could_X8_drawSeen
set_option maxRecDepth 20000 in
theorem ggX8_could_X3_rows : GoodIn wsX8_could wsX3_rows := goodIn_r _ [56, 32, 70, 71, 72] (by decide +kernel) (by decide +kernel)
set_option maxRecDepth 20000 in
theorem gX8_could_X3_rows : GoodIn wsX8_could (wsV RX8 160 RX3 yX3_rows wsX3_rows) := goodIn_app (goodIn_of _ (by decide +kernel)) ggX8_could_X3_rows
set_option maxRecDepth 20000 in
theorem ggX8_could_X3_rowsWith : GoodIn wsX8_could wsX3_rowsWith := goodIn_r _ [60, 31, 32, 37, 38, 39, 40, 41, 42, 43, 44, 45, 46, 29, 47, 48, 70, 71, 72] (by decide +kernel) (by decide +kernel)
set_option maxRecDepth 20000 in
theorem gX8_could_X3_rowsWith : GoodIn wsX8_could (wsV RX8 170 RX3 yX3_rowsWith wsX3_rowsWith) := goodIn_app (goodIn_of _ (by decide +kernel)) ggX8_could_X3_rowsWith
theorem dX8_could_0 : decode cX8_could 0 = .ok (.iload_n 1, 1) := by decide +kernel
theorem dX8_could_1 : decode cX8_could 1 = .ok (.iconst (-1), 1) := by decide +kernel
theorem dX8_could_2 : decode cX8_could 2 = .ok (.if_icmp .eq 13, 3) := by decide +kernel
theorem dX8_could_5 : decode cX8_could 5 = .ok (.iload_n 1, 1) := by decide +kernel
theorem dX8_could_6 : decode cX8_could 6 = .ok (.invokestatic 75, 3) := by decide +kernel
theorem dX8_could_9 : decode cX8_could 9 = .ok (.ifCond .ne 6, 3) := by decide +kernel
theorem dX8_could_12 : decode cX8_could 12 = .ok (.bipush (-2), 2) := by decide +kernel
theorem dX8_could_14 : decode cX8_could 14 = .ok (.ireturn, 1) := by decide +kernel
theorem dX8_could_15 : decode cX8_could 15 = .ok (.aload_n 0, 1) := by decide +kernel
theorem dX8_could_16 : decode cX8_could 16 = .ok (.invokevirtual 222, 3) := by decide +kernel
theorem dX8_could_19 : decode cX8_could 19 = .ok (.iload_n 1, 1) := by decide +kernel
theorem dX8_could_20 : decode cX8_could 20 = .ok (.iconst (-1), 1) := by decide +kernel
theorem dX8_could_21 : decode cX8_could 21 = .ok (.if_icmp .ne 11, 3) := by decide +kernel
theorem dX8_could_24 : decode cX8_could 24 = .ok (.aload_n 0, 1) := by decide +kernel
theorem dX8_could_25 : decode cX8_could 25 = .ok (.getfield 53, 3) := by decide +kernel
theorem dX8_could_28 : decode cX8_could 28 = .ok (.invokevirtual 160, 3) := by decide +kernel
theorem dX8_could_31 : decode cX8_could 31 = .ok (.ireturn, 1) := by decide +kernel
theorem dX8_could_32 : decode cX8_could 32 = .ok (.iconst 0, 1) := by decide +kernel
theorem dX8_could_33 : decode cX8_could 33 = .ok (.istore_n 2, 1) := by decide +kernel
theorem dX8_could_34 : decode cX8_could 34 = .ok (.iconst 0, 1) := by decide +kernel
theorem dX8_could_35 : decode cX8_could 35 = .ok (.istore_n 3, 1) := by decide +kernel
theorem dX8_could_36 : decode cX8_could 36 = .ok (.iload_n 3, 1) := by decide +kernel
theorem dX8_could_37 : decode cX8_could 37 = .ok (.bipush 6, 2) := by decide +kernel
theorem dX8_could_39 : decode cX8_could 39 = .ok (.if_icmp .ge 27, 3) := by decide +kernel
theorem dX8_could_42 : decode cX8_could 42 = .ok (.aload_n 0, 1) := by decide +kernel
theorem dX8_could_43 : decode cX8_could 43 = .ok (.getfield 53, 3) := by decide +kernel
theorem dX8_could_46 : decode cX8_could 46 = .ok (.iload_n 1, 1) := by decide +kernel
theorem dX8_could_47 : decode cX8_could 47 = .ok (.iload_n 3, 1) := by decide +kernel
theorem dX8_could_48 : decode cX8_could 48 = .ok (.invokevirtual 170, 3) := by decide +kernel
theorem dX8_could_51 : decode cX8_could 51 = .ok (.ifCond .le 9, 3) := by decide +kernel
theorem dX8_could_54 : decode cX8_could 54 = .ok (.iload_n 2, 1) := by decide +kernel
theorem dX8_could_55 : decode cX8_could 55 = .ok (.iconst 1, 1) := by decide +kernel
theorem dX8_could_56 : decode cX8_could 56 = .ok (.iload_n 3, 1) := by decide +kernel
theorem dX8_could_57 : decode cX8_could 57 = .ok (.ishl, 1) := by decide +kernel
theorem dX8_could_58 : decode cX8_could 58 = .ok (.ior, 1) := by decide +kernel
theorem dX8_could_59 : decode cX8_could 59 = .ok (.istore_n 2, 1) := by decide +kernel
theorem dX8_could_60 : decode cX8_could 60 = .ok (.iinc 3 1, 3) := by decide +kernel
theorem dX8_could_63 : decode cX8_could 63 = .ok (.goto (-27), 3) := by decide +kernel
theorem dX8_could_66 : decode cX8_could 66 = .ok (.iload_n 2, 1) := by decide +kernel
theorem dX8_could_67 : decode cX8_could 67 = .ok (.ireturn, 1) := by decide +kernel
set_option maxRecDepth 20000 in
theorem ggX8_isFalse_X6_namesFor : GoodIn wsX8_isFalse wsX6_namesFor := goodIn_r _ [6, 7, 8, 9, 10, 11, 12, 22, 23, 24, 25, 26, 27, 28] (by decide +kernel) (by decide +kernel)
set_option maxRecDepth 20000 in
theorem gX8_isFalse_X6_namesFor : GoodIn wsX8_isFalse (wsV RX8 225 RX6 yX6_namesFor wsX6_namesFor) := goodIn_app (goodIn_of _ (by decide +kernel)) ggX8_isFalse_X6_namesFor
theorem dX8_isFalse_0 : decode cX8_isFalse 0 = .ok (.iconst 0, 1) := by decide +kernel
theorem dX8_isFalse_1 : decode cX8_isFalse 1 = .ok (.istore_n 1, 1) := by decide +kernel
theorem dX8_isFalse_2 : decode cX8_isFalse 2 = .ok (.iconst 0, 1) := by decide +kernel
theorem dX8_isFalse_3 : decode cX8_isFalse 3 = .ok (.istore_n 2, 1) := by decide +kernel
theorem dX8_isFalse_4 : decode cX8_isFalse 4 = .ok (.iload_n 2, 1) := by decide +kernel
theorem dX8_isFalse_5 : decode cX8_isFalse 5 = .ok (.bipush 6, 2) := by decide +kernel
theorem dX8_isFalse_7 : decode cX8_isFalse 7 = .ok (.if_icmp .ge 20, 3) := by decide +kernel
theorem dX8_isFalse_10 : decode cX8_isFalse 10 = .ok (.iload_n 1, 1) := by decide +kernel
theorem dX8_isFalse_11 : decode cX8_isFalse 11 = .ok (.aload_n 0, 1) := by decide +kernel
theorem dX8_isFalse_12 : decode cX8_isFalse 12 = .ok (.getfield 46, 3) := by decide +kernel
theorem dX8_isFalse_15 : decode cX8_isFalse 15 = .ok (.iload_n 2, 1) := by decide +kernel
theorem dX8_isFalse_16 : decode cX8_isFalse 16 = .ok (.invokevirtual 225, 3) := by decide +kernel
theorem dX8_isFalse_19 : decode cX8_isFalse 19 = .ok (.ior, 1) := by decide +kernel
theorem dX8_isFalse_20 : decode cX8_isFalse 20 = .ok (.istore_n 1, 1) := by decide +kernel
theorem dX8_isFalse_21 : decode cX8_isFalse 21 = .ok (.iinc 2 1, 3) := by decide +kernel
theorem dX8_isFalse_24 : decode cX8_isFalse 24 = .ok (.goto (-20), 3) := by decide +kernel
theorem dX8_isFalse_27 : decode cX8_isFalse 27 = .ok (.bipush 63, 2) := by decide +kernel
theorem dX8_isFalse_29 : decode cX8_isFalse 29 = .ok (.iload_n 1, 1) := by decide +kernel
theorem dX8_isFalse_30 : decode cX8_isFalse 30 = .ok (.iconst (-1), 1) := by decide +kernel
theorem dX8_isFalse_31 : decode cX8_isFalse 31 = .ok (.ixor, 1) := by decide +kernel
theorem dX8_isFalse_32 : decode cX8_isFalse 32 = .ok (.iand, 1) := by decide +kernel
theorem dX8_isFalse_33 : decode cX8_isFalse 33 = .ok (.ireturn, 1) := by decide +kernel
set_option maxRecDepth 20000 in
theorem ggX8_sheet_X8_isBelow : GoodIn wsX8_sheet wsX8_isBelow := goodIn_r _ [5] (by decide +kernel) (by decide +kernel)
set_option maxRecDepth 20000 in
theorem gX8_sheet_X8_isBelow : GoodIn wsX8_sheet (va_wsS RX8 79 yX8_isBelow wsX8_isBelow) := goodIn_app (goodIn_of _ (by decide +kernel)) ggX8_sheet_X8_isBelow
set_option maxRecDepth 20000 in
theorem ggX8_sheet_X8_found : GoodIn wsX8_sheet wsX8_found := goodIn_r _ [9, 10, 24, 25, 26, 27, 28, 29, 30, 31, 32] (by decide +kernel) (by decide +kernel)
set_option maxRecDepth 20000 in
theorem gX8_sheet_X8_found : GoodIn wsX8_sheet (wsV RX8 117 RX8 yX8_found wsX8_found) := goodIn_app (goodIn_of _ (by decide +kernel)) ggX8_sheet_X8_found
set_option maxRecDepth 20000 in
theorem ggX8_sheet_X5_renew : GoodIn wsX8_sheet wsX5_renew := goodIn_r _ [15, 16, 17, 18, 19, 20, 21, 22, 23, 33, 34, 35, 36] (by decide +kernel) (by decide +kernel)
set_option maxRecDepth 20000 in
theorem gX8_sheet_X5_renew : GoodIn wsX8_sheet (wsV RX8 228 RX5 yX5_renew wsX5_renew) := goodIn_app (goodIn_of _ (by decide +kernel)) ggX8_sheet_X5_renew
theorem dX8_sheet_0 : decode cX8_sheet 0 = .ok (.iload_n 1, 1) := by decide +kernel
theorem dX8_sheet_1 : decode cX8_sheet 1 = .ok (.iconst 4, 1) := by decide +kernel
theorem dX8_sheet_2 : decode cX8_sheet 2 = .ok (.invokestatic 79, 3) := by decide +kernel
theorem dX8_sheet_5 : decode cX8_sheet 5 = .ok (.ifCond .eq 17, 3) := by decide +kernel
theorem dX8_sheet_8 : decode cX8_sheet 8 = .ok (.iload_n 2, 1) := by decide +kernel
theorem dX8_sheet_9 : decode cX8_sheet 9 = .ok (.iconst 3, 1) := by decide +kernel
theorem dX8_sheet_10 : decode cX8_sheet 10 = .ok (.invokestatic 79, 3) := by decide +kernel
theorem dX8_sheet_13 : decode cX8_sheet 13 = .ok (.ifCond .eq 9, 3) := by decide +kernel
theorem dX8_sheet_16 : decode cX8_sheet 16 = .ok (.iload_n 3, 1) := by decide +kernel
theorem dX8_sheet_17 : decode cX8_sheet 17 = .ok (.bipush 48, 2) := by decide +kernel
theorem dX8_sheet_19 : decode cX8_sheet 19 = .ok (.if_icmp .le 6, 3) := by decide +kernel
theorem dX8_sheet_22 : decode cX8_sheet 22 = .ok (.bipush (-2), 2) := by decide +kernel
theorem dX8_sheet_24 : decode cX8_sheet 24 = .ok (.ireturn, 1) := by decide +kernel
theorem dX8_sheet_25 : decode cX8_sheet 25 = .ok (.iload_n 3, 1) := by decide +kernel
theorem dX8_sheet_26 : decode cX8_sheet 26 = .ok (.ifCond .ge 9, 3) := by decide +kernel
theorem dX8_sheet_29 : decode cX8_sheet 29 = .ok (.aload_n 0, 1) := by decide +kernel
theorem dX8_sheet_30 : decode cX8_sheet 30 = .ok (.iconst 5, 1) := by decide +kernel
theorem dX8_sheet_31 : decode cX8_sheet 31 = .ok (.invokevirtual 117, 3) := by decide +kernel
theorem dX8_sheet_34 : decode cX8_sheet 34 = .ok (.ireturn, 1) := by decide +kernel
theorem dX8_sheet_35 : decode cX8_sheet 35 = .ok (.aload_n 0, 1) := by decide +kernel
theorem dX8_sheet_36 : decode cX8_sheet 36 = .ok (.getfield 66, 3) := by decide +kernel
theorem dX8_sheet_39 : decode cX8_sheet 39 = .ok (.iload_n 1, 1) := by decide +kernel
theorem dX8_sheet_40 : decode cX8_sheet 40 = .ok (.aaload, 1) := by decide +kernel
theorem dX8_sheet_41 : decode cX8_sheet 41 = .ok (.iload_n 2, 1) := by decide +kernel
theorem dX8_sheet_42 : decode cX8_sheet 42 = .ok (.iload_n 3, 1) := by decide +kernel
theorem dX8_sheet_43 : decode cX8_sheet 43 = .ok (.invokevirtual 228, 3) := by decide +kernel
theorem dX8_sheet_46 : decode cX8_sheet 46 = .ok (.iload_n 3, 1) := by decide +kernel
theorem dX8_sheet_47 : decode cX8_sheet 47 = .ok (.ireturn, 1) := by decide +kernel
set_option maxRecDepth 20000 in
theorem ggX8_lose_X8_isBelow : GoodIn wsX8_lose wsX8_isBelow := goodIn_r _ [7] (by decide +kernel) (by decide +kernel)
set_option maxRecDepth 20000 in
theorem gX8_lose_X8_isBelow : GoodIn wsX8_lose (va_wsS RX8 79 yX8_isBelow wsX8_isBelow) := goodIn_app (goodIn_of _ (by decide +kernel)) ggX8_lose_X8_isBelow
set_option maxRecDepth 20000 in
theorem ggX8_lose_X8_found : GoodIn wsX8_lose wsX8_found := goodIn_r _ [11, 12, 13, 14, 15, 16, 17, 18, 19, 20, 21] (by decide +kernel) (by decide +kernel)
set_option maxRecDepth 20000 in
theorem gX8_lose_X8_found : GoodIn wsX8_lose (wsV RX8 117 RX8 yX8_found wsX8_found) := goodIn_app (goodIn_of _ (by decide +kernel)) ggX8_lose_X8_found
theorem dX8_lose_0 : decode cX8_lose 0 = .ok (.iload_n 1, 1) := by decide +kernel
theorem dX8_lose_1 : decode cX8_lose 1 = .ok (.iconst 4, 1) := by decide +kernel
theorem dX8_lose_2 : decode cX8_lose 2 = .ok (.invokestatic 79, 3) := by decide +kernel
theorem dX8_lose_5 : decode cX8_lose 5 = .ok (.ifCond .ne 6, 3) := by decide +kernel
theorem dX8_lose_8 : decode cX8_lose 8 = .ok (.bipush (-2), 2) := by decide +kernel
theorem dX8_lose_10 : decode cX8_lose 10 = .ok (.ireturn, 1) := by decide +kernel
theorem dX8_lose_11 : decode cX8_lose 11 = .ok (.aload_n 0, 1) := by decide +kernel
theorem dX8_lose_12 : decode cX8_lose 12 = .ok (.getfield 66, 3) := by decide +kernel
theorem dX8_lose_15 : decode cX8_lose 15 = .ok (.iload_n 1, 1) := by decide +kernel
theorem dX8_lose_16 : decode cX8_lose 16 = .ok (.aaload, 1) := by decide +kernel
theorem dX8_lose_17 : decode cX8_lose 17 = .ok (.astore_n 2, 1) := by decide +kernel
theorem dX8_lose_18 : decode cX8_lose 18 = .ok (.aload_n 2, 1) := by decide +kernel
theorem dX8_lose_19 : decode cX8_lose 19 = .ok (.getfield 113, 3) := by decide +kernel
theorem dX8_lose_22 : decode cX8_lose 22 = .ok (.ifCond .eq 9, 3) := by decide +kernel
theorem dX8_lose_25 : decode cX8_lose 25 = .ok (.aload_n 0, 1) := by decide +kernel
theorem dX8_lose_26 : decode cX8_lose 26 = .ok (.iconst 1, 1) := by decide +kernel
theorem dX8_lose_27 : decode cX8_lose 27 = .ok (.invokevirtual 117, 3) := by decide +kernel
theorem dX8_lose_30 : decode cX8_lose 30 = .ok (.ireturn, 1) := by decide +kernel
theorem dX8_lose_31 : decode cX8_lose 31 = .ok (.aload_n 2, 1) := by decide +kernel
theorem dX8_lose_32 : decode cX8_lose 32 = .ok (.iconst 1, 1) := by decide +kernel
theorem dX8_lose_33 : decode cX8_lose 33 = .ok (.putfield 113, 3) := by decide +kernel
theorem dX8_lose_36 : decode cX8_lose 36 = .ok (.aload_n 2, 1) := by decide +kernel
theorem dX8_lose_37 : decode cX8_lose 37 = .ok (.getfield 232, 3) := by decide +kernel
theorem dX8_lose_40 : decode cX8_lose 40 = .ok (.ireturn, 1) := by decide +kernel
set_option maxRecDepth 20000 in
theorem ggX8_put_X8_isBelow : GoodIn wsX8_put wsX8_isBelow := goodIn_r _ [5] (by decide +kernel) (by decide +kernel)
set_option maxRecDepth 20000 in
theorem gX8_put_X8_isBelow : GoodIn wsX8_put (va_wsS RX8 79 yX8_isBelow wsX8_isBelow) := goodIn_app (goodIn_of _ (by decide +kernel)) ggX8_put_X8_isBelow
set_option maxRecDepth 20000 in
theorem ggX8_put_X5_findingAt : GoodIn wsX8_put wsX5_findingAt := goodIn_r _ [10, 11, 12, 13, 3, 4, 5, 37, 38, 39, 40] (by decide +kernel) (by decide +kernel)
set_option maxRecDepth 20000 in
theorem gX8_put_X5_findingAt : GoodIn wsX8_put (wsV RX8 233 RX5 yX5_findingAt wsX5_findingAt) := goodIn_app (goodIn_of _ (by decide +kernel)) ggX8_put_X5_findingAt
set_option maxRecDepth 20000 in
theorem ggX8_put_X8_found : GoodIn wsX8_put wsX8_found := goodIn_r _ [17, 18, 28, 29, 30, 31, 32, 33, 34, 35, 36] (by decide +kernel) (by decide +kernel)
set_option maxRecDepth 20000 in
theorem gX8_put_X8_found : GoodIn wsX8_put (wsV RX8 117 RX8 yX8_found wsX8_found) := goodIn_app (goodIn_of _ (by decide +kernel)) ggX8_put_X8_found
set_option maxRecDepth 20000 in
theorem ggX8_put_X5_set : GoodIn wsX8_put wsX5_set := goodIn_r _ [22, 23, 24, 25, 26, 9, 27, 12, 37, 38, 39, 40] (by decide +kernel) (by decide +kernel)
set_option maxRecDepth 20000 in
theorem gX8_put_X5_set : GoodIn wsX8_put (wsV RX8 236 RX5 yX5_set wsX5_set) := goodIn_app (goodIn_of _ (by decide +kernel)) ggX8_put_X5_set
theorem dX8_put_0 : decode cX8_put 0 = .ok (.iload_n 1, 1) := by decide +kernel
theorem dX8_put_1 : decode cX8_put 1 = .ok (.iconst 4, 1) := by decide +kernel
theorem dX8_put_2 : decode cX8_put 2 = .ok (.invokestatic 79, 3) := by decide +kernel
theorem dX8_put_5 : decode cX8_put 5 = .ok (.ifCond .eq 11, 3) := by decide +kernel
theorem dX8_put_8 : decode cX8_put 8 = .ok (.iload_n 2, 1) := by decide +kernel
theorem dX8_put_9 : decode cX8_put 9 = .ok (.iconst 3, 1) := by decide +kernel
theorem dX8_put_10 : decode cX8_put 10 = .ok (.invokestatic 79, 3) := by decide +kernel
theorem dX8_put_13 : decode cX8_put 13 = .ok (.ifCond .ne 6, 3) := by decide +kernel
theorem dX8_put_16 : decode cX8_put 16 = .ok (.bipush (-2), 2) := by decide +kernel
theorem dX8_put_18 : decode cX8_put 18 = .ok (.ireturn, 1) := by decide +kernel
theorem dX8_put_19 : decode cX8_put 19 = .ok (.aload_n 0, 1) := by decide +kernel
theorem dX8_put_20 : decode cX8_put 20 = .ok (.getfield 66, 3) := by decide +kernel
theorem dX8_put_23 : decode cX8_put 23 = .ok (.iload_n 1, 1) := by decide +kernel
theorem dX8_put_24 : decode cX8_put 24 = .ok (.aaload, 1) := by decide +kernel
theorem dX8_put_25 : decode cX8_put 25 = .ok (.iload_n 2, 1) := by decide +kernel
theorem dX8_put_26 : decode cX8_put 26 = .ok (.iload_n 3, 1) := by decide +kernel
theorem dX8_put_27 : decode cX8_put 27 = .ok (.invokevirtual 233, 3) := by decide +kernel
theorem dX8_put_30 : decode cX8_put 30 = .ok (.istore 5, 2) := by decide +kernel
theorem dX8_put_32 : decode cX8_put 32 = .ok (.iload 5, 2) := by decide +kernel
theorem dX8_put_34 : decode cX8_put 34 = .ok (.ifCond .eq 10, 3) := by decide +kernel
theorem dX8_put_37 : decode cX8_put 37 = .ok (.aload_n 0, 1) := by decide +kernel
theorem dX8_put_38 : decode cX8_put 38 = .ok (.iload 5, 2) := by decide +kernel
theorem dX8_put_40 : decode cX8_put 40 = .ok (.invokevirtual 117, 3) := by decide +kernel
theorem dX8_put_43 : decode cX8_put 43 = .ok (.ireturn, 1) := by decide +kernel
theorem dX8_put_44 : decode cX8_put 44 = .ok (.aload_n 0, 1) := by decide +kernel
theorem dX8_put_45 : decode cX8_put 45 = .ok (.getfield 66, 3) := by decide +kernel
theorem dX8_put_48 : decode cX8_put 48 = .ok (.iload_n 1, 1) := by decide +kernel
theorem dX8_put_49 : decode cX8_put 49 = .ok (.aaload, 1) := by decide +kernel
theorem dX8_put_50 : decode cX8_put 50 = .ok (.iload_n 3, 1) := by decide +kernel
theorem dX8_put_51 : decode cX8_put 51 = .ok (.iload 4, 2) := by decide +kernel
theorem dX8_put_53 : decode cX8_put 53 = .ok (.invokevirtual 236, 3) := by decide +kernel
theorem dX8_put_56 : decode cX8_put 56 = .ok (.iconst 1, 1) := by decide +kernel
theorem dX8_put_57 : decode cX8_put 57 = .ok (.ireturn, 1) := by decide +kernel
set_option maxRecDepth 20000 in
theorem ggX8_get_X8_isBelow : GoodIn wsX8_get wsX8_isBelow := goodIn_r _ [8] (by decide +kernel) (by decide +kernel)
set_option maxRecDepth 20000 in
theorem gX8_get_X8_isBelow : GoodIn wsX8_get (va_wsS RX8 79 yX8_isBelow wsX8_isBelow) := goodIn_app (goodIn_of _ (by decide +kernel)) ggX8_get_X8_isBelow
set_option maxRecDepth 20000 in
theorem ggX8_get_X5_findingAt : GoodIn wsX8_get wsX5_findingAt := goodIn_r _ [13, 14, 15, 16, 6, 7, 8, 26, 27, 28, 29] (by decide +kernel) (by decide +kernel)
set_option maxRecDepth 20000 in
theorem gX8_get_X5_findingAt : GoodIn wsX8_get (wsV RX8 233 RX5 yX5_findingAt wsX5_findingAt) := goodIn_app (goodIn_of _ (by decide +kernel)) ggX8_get_X5_findingAt
theorem dX8_get_0 : decode cX8_get 0 = .ok (.iload_n 1, 1) := by decide +kernel
theorem dX8_get_1 : decode cX8_get 1 = .ok (.iconst 4, 1) := by decide +kernel
theorem dX8_get_2 : decode cX8_get 2 = .ok (.invokestatic 79, 3) := by decide +kernel
theorem dX8_get_5 : decode cX8_get 5 = .ok (.ifCond .eq 11, 3) := by decide +kernel
theorem dX8_get_8 : decode cX8_get 8 = .ok (.iload_n 2, 1) := by decide +kernel
theorem dX8_get_9 : decode cX8_get 9 = .ok (.iconst 3, 1) := by decide +kernel
theorem dX8_get_10 : decode cX8_get 10 = .ok (.invokestatic 79, 3) := by decide +kernel
theorem dX8_get_13 : decode cX8_get 13 = .ok (.ifCond .ne 6, 3) := by decide +kernel
theorem dX8_get_16 : decode cX8_get 16 = .ok (.ldc 239, 2) := by decide +kernel
theorem dX8_get_18 : decode cX8_get 18 = .ok (.ireturn, 1) := by decide +kernel
theorem dX8_get_19 : decode cX8_get 19 = .ok (.aload_n 0, 1) := by decide +kernel
theorem dX8_get_20 : decode cX8_get 20 = .ok (.getfield 66, 3) := by decide +kernel
theorem dX8_get_23 : decode cX8_get 23 = .ok (.iload_n 1, 1) := by decide +kernel
theorem dX8_get_24 : decode cX8_get 24 = .ok (.aaload, 1) := by decide +kernel
theorem dX8_get_25 : decode cX8_get 25 = .ok (.iload_n 2, 1) := by decide +kernel
theorem dX8_get_26 : decode cX8_get 26 = .ok (.iload_n 3, 1) := by decide +kernel
theorem dX8_get_27 : decode cX8_get 27 = .ok (.invokevirtual 233, 3) := by decide +kernel
theorem dX8_get_30 : decode cX8_get 30 = .ok (.istore 4, 2) := by decide +kernel
theorem dX8_get_32 : decode cX8_get 32 = .ok (.iload 4, 2) := by decide +kernel
theorem dX8_get_34 : decode cX8_get 34 = .ok (.ifCond .eq 12, 3) := by decide +kernel
theorem dX8_get_37 : decode cX8_get 37 = .ok (.aload_n 0, 1) := by decide +kernel
theorem dX8_get_38 : decode cX8_get 38 = .ok (.iload 4, 2) := by decide +kernel
theorem dX8_get_40 : decode cX8_get 40 = .ok (.putfield 70, 3) := by decide +kernel
theorem dX8_get_43 : decode cX8_get 43 = .ok (.ldc 239, 2) := by decide +kernel
theorem dX8_get_45 : decode cX8_get 45 = .ok (.ireturn, 1) := by decide +kernel
theorem dX8_get_46 : decode cX8_get 46 = .ok (.aload_n 0, 1) := by decide +kernel
theorem dX8_get_47 : decode cX8_get 47 = .ok (.getfield 66, 3) := by decide +kernel
theorem dX8_get_50 : decode cX8_get 50 = .ok (.iload_n 1, 1) := by decide +kernel
theorem dX8_get_51 : decode cX8_get 51 = .ok (.aaload, 1) := by decide +kernel
theorem dX8_get_52 : decode cX8_get 52 = .ok (.getfield 240, 3) := by decide +kernel
theorem dX8_get_55 : decode cX8_get 55 = .ok (.iload_n 3, 1) := by decide +kernel
theorem dX8_get_56 : decode cX8_get 56 = .ok (.iaload, 1) := by decide +kernel
theorem dX8_get_57 : decode cX8_get 57 = .ok (.ireturn, 1) := by decide +kernel
set_option maxRecDepth 20000 in
theorem ggX8_copy_X8_isBelow : GoodIn wsX8_copy wsX8_isBelow := goodIn_r _ [12] (by decide +kernel) (by decide +kernel)
set_option maxRecDepth 20000 in
theorem gX8_copy_X8_isBelow : GoodIn wsX8_copy (va_wsS RX8 79 yX8_isBelow wsX8_isBelow) := goodIn_app (goodIn_of _ (by decide +kernel)) ggX8_copy_X8_isBelow
set_option maxRecDepth 20000 in
theorem ggX8_copy_X8_found : GoodIn wsX8_copy wsX8_found := goodIn_r _ [16, 17, 24, 25, 26, 27, 28, 29, 30, 31, 32] (by decide +kernel) (by decide +kernel)
set_option maxRecDepth 20000 in
theorem gX8_copy_X8_found : GoodIn wsX8_copy (wsV RX8 117 RX8 yX8_found wsX8_found) := goodIn_app (goodIn_of _ (by decide +kernel)) ggX8_copy_X8_found
set_option maxRecDepth 20000 in
theorem ggX8_copy_X5_hasRange : GoodIn wsX8_copy wsX5_hasRange := goodIn_r _ [22, 23, 33, 34, 35, 36] (by decide +kernel) (by decide +kernel)
set_option maxRecDepth 20000 in
theorem gX8_copy_X5_hasRange : GoodIn wsX8_copy (wsV RX8 247 RX5 yX5_hasRange wsX5_hasRange) := goodIn_app (goodIn_of _ (by decide +kernel)) ggX8_copy_X5_hasRange
theorem dX8_copy_0 : decode cX8_copy 0 = .ok (.iload_n 1, 1) := by decide +kernel
theorem dX8_copy_1 : decode cX8_copy 1 = .ok (.iconst 4, 1) := by decide +kernel
theorem dX8_copy_2 : decode cX8_copy 2 = .ok (.invokestatic 79, 3) := by decide +kernel
theorem dX8_copy_5 : decode cX8_copy 5 = .ok (.ifCond .eq 11, 3) := by decide +kernel
theorem dX8_copy_8 : decode cX8_copy 8 = .ok (.iload_n 3, 1) := by decide +kernel
theorem dX8_copy_9 : decode cX8_copy 9 = .ok (.iconst 4, 1) := by decide +kernel
theorem dX8_copy_10 : decode cX8_copy 10 = .ok (.invokestatic 79, 3) := by decide +kernel
theorem dX8_copy_13 : decode cX8_copy 13 = .ok (.ifCond .ne 6, 3) := by decide +kernel
theorem dX8_copy_16 : decode cX8_copy 16 = .ok (.bipush (-2), 2) := by decide +kernel
theorem dX8_copy_18 : decode cX8_copy 18 = .ok (.ireturn, 1) := by decide +kernel
theorem dX8_copy_19 : decode cX8_copy 19 = .ok (.aload_n 0, 1) := by decide +kernel
theorem dX8_copy_20 : decode cX8_copy 20 = .ok (.getfield 66, 3) := by decide +kernel
theorem dX8_copy_23 : decode cX8_copy 23 = .ok (.iload_n 1, 1) := by decide +kernel
theorem dX8_copy_24 : decode cX8_copy 24 = .ok (.aaload, 1) := by decide +kernel
theorem dX8_copy_25 : decode cX8_copy 25 = .ok (.astore 6, 2) := by decide +kernel
theorem dX8_copy_27 : decode cX8_copy 27 = .ok (.aload_n 0, 1) := by decide +kernel
theorem dX8_copy_28 : decode cX8_copy 28 = .ok (.getfield 66, 3) := by decide +kernel
theorem dX8_copy_31 : decode cX8_copy 31 = .ok (.iload_n 3, 1) := by decide +kernel
theorem dX8_copy_32 : decode cX8_copy 32 = .ok (.aaload, 1) := by decide +kernel
theorem dX8_copy_33 : decode cX8_copy 33 = .ok (.astore 7, 2) := by decide +kernel
theorem dX8_copy_35 : decode cX8_copy 35 = .ok (.aload 6, 2) := by decide +kernel
theorem dX8_copy_37 : decode cX8_copy 37 = .ok (.getfield 113, 3) := by decide +kernel
theorem dX8_copy_40 : decode cX8_copy 40 = .ok (.ifCond .ne 11, 3) := by decide +kernel
theorem dX8_copy_43 : decode cX8_copy 43 = .ok (.aload 7, 2) := by decide +kernel
theorem dX8_copy_45 : decode cX8_copy 45 = .ok (.getfield 113, 3) := by decide +kernel
theorem dX8_copy_48 : decode cX8_copy 48 = .ok (.ifCond .eq 9, 3) := by decide +kernel
theorem dX8_copy_51 : decode cX8_copy 51 = .ok (.aload_n 0, 1) := by decide +kernel
theorem dX8_copy_52 : decode cX8_copy 52 = .ok (.iconst 1, 1) := by decide +kernel
theorem dX8_copy_53 : decode cX8_copy 53 = .ok (.invokevirtual 117, 3) := by decide +kernel
theorem dX8_copy_56 : decode cX8_copy 56 = .ok (.ireturn, 1) := by decide +kernel
theorem dX8_copy_57 : decode cX8_copy 57 = .ok (.aload 6, 2) := by decide +kernel
theorem dX8_copy_59 : decode cX8_copy 59 = .ok (.getfield 244, 3) := by decide +kernel
theorem dX8_copy_62 : decode cX8_copy 62 = .ok (.aload 7, 2) := by decide +kernel
theorem dX8_copy_64 : decode cX8_copy 64 = .ok (.getfield 244, 3) := by decide +kernel
theorem dX8_copy_67 : decode cX8_copy 67 = .ok (.if_icmp .eq 9, 3) := by decide +kernel
theorem dX8_copy_70 : decode cX8_copy 70 = .ok (.aload_n 0, 1) := by decide +kernel
theorem dX8_copy_71 : decode cX8_copy 71 = .ok (.iconst 4, 1) := by decide +kernel
theorem dX8_copy_72 : decode cX8_copy 72 = .ok (.invokevirtual 117, 3) := by decide +kernel
theorem dX8_copy_75 : decode cX8_copy 75 = .ok (.ireturn, 1) := by decide +kernel
theorem dX8_copy_76 : decode cX8_copy 76 = .ok (.aload 6, 2) := by decide +kernel
theorem dX8_copy_78 : decode cX8_copy 78 = .ok (.iload_n 2, 1) := by decide +kernel
theorem dX8_copy_79 : decode cX8_copy 79 = .ok (.iload 5, 2) := by decide +kernel
theorem dX8_copy_81 : decode cX8_copy 81 = .ok (.invokevirtual 247, 3) := by decide +kernel
theorem dX8_copy_84 : decode cX8_copy 84 = .ok (.ifCond .eq 15, 3) := by decide +kernel
theorem dX8_copy_87 : decode cX8_copy 87 = .ok (.aload 7, 2) := by decide +kernel
theorem dX8_copy_89 : decode cX8_copy 89 = .ok (.iload 4, 2) := by decide +kernel
theorem dX8_copy_91 : decode cX8_copy 91 = .ok (.iload 5, 2) := by decide +kernel
theorem dX8_copy_93 : decode cX8_copy 93 = .ok (.invokevirtual 247, 3) := by decide +kernel
theorem dX8_copy_96 : decode cX8_copy 96 = .ok (.ifCond .ne 9, 3) := by decide +kernel
theorem dX8_copy_99 : decode cX8_copy 99 = .ok (.aload_n 0, 1) := by decide +kernel
theorem dX8_copy_100 : decode cX8_copy 100 = .ok (.iconst 2, 1) := by decide +kernel
theorem dX8_copy_101 : decode cX8_copy 101 = .ok (.invokevirtual 117, 3) := by decide +kernel
theorem dX8_copy_104 : decode cX8_copy 104 = .ok (.ireturn, 1) := by decide +kernel
theorem dX8_copy_105 : decode cX8_copy 105 = .ok (.aload 6, 2) := by decide +kernel
theorem dX8_copy_107 : decode cX8_copy 107 = .ok (.getfield 240, 3) := by decide +kernel
theorem dX8_copy_110 : decode cX8_copy 110 = .ok (.iload_n 2, 1) := by decide +kernel
theorem dX8_copy_111 : decode cX8_copy 111 = .ok (.aload 7, 2) := by decide +kernel
theorem dX8_copy_113 : decode cX8_copy 113 = .ok (.getfield 240, 3) := by decide +kernel
theorem dX8_copy_116 : decode cX8_copy 116 = .ok (.iload 4, 2) := by decide +kernel
theorem dX8_copy_118 : decode cX8_copy 118 = .ok (.iload 5, 2) := by decide +kernel
theorem dX8_copy_120 : decode cX8_copy 120 = .ok (.invokestatic 250, 3) := by decide +kernel
theorem dX8_copy_123 : decode cX8_copy 123 = .ok (.iconst 1, 1) := by decide +kernel
theorem dX8_copy_124 : decode cX8_copy 124 = .ok (.ireturn, 1) := by decide +kernel
set_option maxRecDepth 20000 in
theorem ggX8_write_X8_isYear : GoodIn wsX8_write wsX8_isYear := goodIn_r _ [13, 8, 14, 15, 16, 12, 17, 40, 41, 42, 43, 44, 45, 46, 47, 48, 53, 54, 55, 56] (by decide +kernel) (by decide +kernel)
set_option maxRecDepth 20000 in
theorem gX8_write_X8_isYear : GoodIn wsX8_write (wsV RX8 132 RX8 yX8_isYear wsX8_isYear) := goodIn_app (goodIn_of _ (by decide +kernel)) ggX8_write_X8_isYear
set_option maxRecDepth 20000 in
theorem ggX8_write_X8_isBelow : GoodIn wsX8_write wsX8_isBelow := goodIn_r _ [17] (by decide +kernel) (by decide +kernel)
set_option maxRecDepth 20000 in
theorem gX8_write_X8_isBelow : GoodIn wsX8_write (va_wsS RX8 79 yX8_isBelow wsX8_isBelow) := goodIn_app (goodIn_of _ (by decide +kernel)) ggX8_write_X8_isBelow
set_option maxRecDepth 20000 in
theorem ggX8_write_X8_found : GoodIn wsX8_write wsX8_found := goodIn_r _ [21, 22, 40, 41, 42, 43, 44, 45, 46, 47, 48] (by decide +kernel) (by decide +kernel)
set_option maxRecDepth 20000 in
theorem gX8_write_X8_found : GoodIn wsX8_write (wsV RX8 117 RX8 yX8_found wsX8_found) := goodIn_app (goodIn_of _ (by decide +kernel)) ggX8_write_X8_found
set_option maxRecDepth 20000 in
theorem ggX8_write_X1_nameOf : GoodIn wsX8_write wsX1_nameOf := goodIn_r _ [27, 28, 53, 54, 55, 56] (by decide +kernel) (by decide +kernel)
set_option maxRecDepth 20000 in
theorem gX8_write_X1_nameOf : GoodIn wsX8_write (wsV RX8 135 RX1 yX1_nameOf wsX1_nameOf) := goodIn_app (goodIn_of _ (by decide +kernel)) ggX8_write_X1_nameOf
set_option maxRecDepth 20000 in
theorem ggX8_write_X5_set : GoodIn wsX8_write wsX5_set := goodIn_r _ [33, 34, 35, 36, 37, 32, 38, 39, 49, 50, 51, 52] (by decide +kernel) (by decide +kernel)
set_option maxRecDepth 20000 in
theorem gX8_write_X5_set : GoodIn wsX8_write (wsV RX8 236 RX5 yX5_set wsX5_set) := goodIn_app (goodIn_of _ (by decide +kernel)) ggX8_write_X5_set
theorem dX8_write_0 : decode cX8_write 0 = .ok (.aload_n 0, 1) := by decide +kernel
theorem dX8_write_1 : decode cX8_write 1 = .ok (.iload_n 1, 1) := by decide +kernel
theorem dX8_write_2 : decode cX8_write 2 = .ok (.invokevirtual 132, 3) := by decide +kernel
theorem dX8_write_5 : decode cX8_write 5 = .ok (.ifCond .eq 11, 3) := by decide +kernel
theorem dX8_write_8 : decode cX8_write 8 = .ok (.iload_n 2, 1) := by decide +kernel
theorem dX8_write_9 : decode cX8_write 9 = .ok (.iconst 4, 1) := by decide +kernel
theorem dX8_write_10 : decode cX8_write 10 = .ok (.invokestatic 79, 3) := by decide +kernel
theorem dX8_write_13 : decode cX8_write 13 = .ok (.ifCond .ne 6, 3) := by decide +kernel
theorem dX8_write_16 : decode cX8_write 16 = .ok (.bipush (-2), 2) := by decide +kernel
theorem dX8_write_18 : decode cX8_write 18 = .ok (.ireturn, 1) := by decide +kernel
theorem dX8_write_19 : decode cX8_write 19 = .ok (.aload_n 0, 1) := by decide +kernel
theorem dX8_write_20 : decode cX8_write 20 = .ok (.getfield 66, 3) := by decide +kernel
theorem dX8_write_23 : decode cX8_write 23 = .ok (.iload_n 2, 1) := by decide +kernel
theorem dX8_write_24 : decode cX8_write 24 = .ok (.aaload, 1) := by decide +kernel
theorem dX8_write_25 : decode cX8_write 25 = .ok (.astore_n 3, 1) := by decide +kernel
theorem dX8_write_26 : decode cX8_write 26 = .ok (.aload_n 3, 1) := by decide +kernel
theorem dX8_write_27 : decode cX8_write 27 = .ok (.getfield 113, 3) := by decide +kernel
theorem dX8_write_30 : decode cX8_write 30 = .ok (.ifCond .eq 9, 3) := by decide +kernel
theorem dX8_write_33 : decode cX8_write 33 = .ok (.aload_n 0, 1) := by decide +kernel
theorem dX8_write_34 : decode cX8_write 34 = .ok (.iconst 1, 1) := by decide +kernel
theorem dX8_write_35 : decode cX8_write 35 = .ok (.invokevirtual 117, 3) := by decide +kernel
theorem dX8_write_38 : decode cX8_write 38 = .ok (.ireturn, 1) := by decide +kernel
theorem dX8_write_39 : decode cX8_write 39 = .ok (.bipush 6, 2) := by decide +kernel
theorem dX8_write_41 : decode cX8_write 41 = .ok (.aload_n 3, 1) := by decide +kernel
theorem dX8_write_42 : decode cX8_write 42 = .ok (.getfield 232, 3) := by decide +kernel
theorem dX8_write_45 : decode cX8_write 45 = .ok (.invokestatic 256, 3) := by decide +kernel
theorem dX8_write_48 : decode cX8_write 48 = .ok (.istore 4, 2) := by decide +kernel
theorem dX8_write_50 : decode cX8_write 50 = .ok (.iconst 0, 1) := by decide +kernel
theorem dX8_write_51 : decode cX8_write 51 = .ok (.istore 5, 2) := by decide +kernel
theorem dX8_write_53 : decode cX8_write 53 = .ok (.iload 5, 2) := by decide +kernel
theorem dX8_write_55 : decode cX8_write 55 = .ok (.iload 4, 2) := by decide +kernel
theorem dX8_write_57 : decode cX8_write 57 = .ok (.if_icmp .ge 25, 3) := by decide +kernel
theorem dX8_write_60 : decode cX8_write 60 = .ok (.aload_n 3, 1) := by decide +kernel
theorem dX8_write_61 : decode cX8_write 61 = .ok (.iload 5, 2) := by decide +kernel
theorem dX8_write_63 : decode cX8_write 63 = .ok (.aload_n 0, 1) := by decide +kernel
theorem dX8_write_64 : decode cX8_write 64 = .ok (.getfield 19, 3) := by decide +kernel
theorem dX8_write_67 : decode cX8_write 67 = .ok (.iload 5, 2) := by decide +kernel
theorem dX8_write_69 : decode cX8_write 69 = .ok (.iload_n 1, 1) := by decide +kernel
theorem dX8_write_70 : decode cX8_write 70 = .ok (.invokevirtual 135, 3) := by decide +kernel
theorem dX8_write_73 : decode cX8_write 73 = .ok (.invokevirtual 236, 3) := by decide +kernel
theorem dX8_write_76 : decode cX8_write 76 = .ok (.iinc 5 1, 3) := by decide +kernel
theorem dX8_write_79 : decode cX8_write 79 = .ok (.goto (-26), 3) := by decide +kernel
theorem dX8_write_82 : decode cX8_write 82 = .ok (.iload 4, 2) := by decide +kernel
theorem dX8_write_84 : decode cX8_write 84 = .ok (.ireturn, 1) := by decide +kernel
set_option maxRecDepth 20000 in
theorem ggX8_count_X4_pairsThatSuit : GoodIn wsX8_count wsX4_pairsThatSuit := goodIn_r _ [15, 16, 17, 18, 14, 19, 20, 21, 22, 23, 24, 25, 26, 27, 28, 29, 30, 31, 32, 100, 101] (by decide +kernel) (by decide +kernel)
set_option maxRecDepth 20000 in
theorem gX8_count_X4_pairsThatSuit : GoodIn wsX8_count (wsV RX8 264 RX4 yX4_pairsThatSuit wsX4_pairsThatSuit) := goodIn_app (goodIn_of _ (by decide +kernel)) ggX8_count_X4_pairsThatSuit
set_option maxRecDepth 20000 in
theorem ggX8_count_X7_allEarned : GoodIn wsX8_count wsX7_allEarned := goodIn_r _ [37, 38, 39, 40, 41, 42, 36, 43, 44, 45, 46, 47, 48, 49, 50, 51, 52, 53, 14, 54, 25, 20, 21, 22, 23, 24, 102, 103, 86, 87, 88, 89, 100, 101] (by decide +kernel) (by decide +kernel)
set_option maxRecDepth 20000 in
theorem gX8_count_X7_allEarned : GoodIn wsX8_count (wsV RX8 267 RX7 yX7_allEarned wsX7_allEarned) := goodIn_app (goodIn_of _ (by decide +kernel)) ggX8_count_X7_allEarned
set_option maxRecDepth 20000 in
theorem ggX8_count_X7_allDebt : GoodIn wsX8_count wsX7_allDebt := goodIn_r _ [58, 38, 39, 59, 60, 61, 36, 62, 44, 63, 64, 65, 66, 67, 68, 69, 70, 71, 45, 46, 47, 48, 49, 50, 72, 21, 22, 14, 23, 24, 25, 102, 103, 86, 87, 88, 89, 100, 101] (by decide +kernel) (by decide +kernel)
set_option maxRecDepth 20000 in
theorem gX8_count_X7_allDebt : GoodIn wsX8_count (wsV RX8 270 RX7 yX7_allDebt wsX7_allDebt) := goodIn_app (goodIn_of _ (by decide +kernel)) ggX8_count_X7_allDebt
set_option maxRecDepth 20000 in
theorem ggX8_count_X7_allShame : GoodIn wsX8_count wsX7_allShame := goodIn_r _ [76, 38, 39, 64, 65, 66, 36, 67, 44, 68, 69, 70, 71, 45, 46, 47, 48, 49, 50, 72, 21, 22, 14, 23, 24, 25, 102, 103, 86, 87, 88, 89, 100, 101] (by decide +kernel) (by decide +kernel)
set_option maxRecDepth 20000 in
theorem gX8_count_X7_allShame : GoodIn wsX8_count (wsV RX8 273 RX7 yX7_allShame wsX7_allShame) := goodIn_app (goodIn_of _ (by decide +kernel)) ggX8_count_X7_allShame
theorem dX8_count_0 : decode cX8_count 0 = .ok (.iload_n 1, 1) := by decide +kernel
theorem dX8_count_1 : decode cX8_count 1 = .ok (.tableswitch 120 0 8 #[51, 59, 67, 75, 83, 91, 99, 107, 115], 51) := by decide +kernel
theorem dX8_count_52 : decode cX8_count 52 = .ok (.aload_n 0, 1) := by decide +kernel
theorem dX8_count_53 : decode cX8_count 53 = .ok (.getfield 19, 3) := by decide +kernel
theorem dX8_count_56 : decode cX8_count 56 = .ok (.getfield 261, 3) := by decide +kernel
theorem dX8_count_59 : decode cX8_count 59 = .ok (.ireturn, 1) := by decide +kernel
theorem dX8_count_60 : decode cX8_count 60 = .ok (.aload_n 0, 1) := by decide +kernel
theorem dX8_count_61 : decode cX8_count 61 = .ok (.getfield 19, 3) := by decide +kernel
theorem dX8_count_64 : decode cX8_count 64 = .ok (.getfield 104, 3) := by decide +kernel
theorem dX8_count_67 : decode cX8_count 67 = .ok (.ireturn, 1) := by decide +kernel
theorem dX8_count_68 : decode cX8_count 68 = .ok (.aload_n 0, 1) := by decide +kernel
theorem dX8_count_69 : decode cX8_count 69 = .ok (.getfield 37, 3) := by decide +kernel
theorem dX8_count_72 : decode cX8_count 72 = .ok (.getfield 205, 3) := by decide +kernel
theorem dX8_count_75 : decode cX8_count 75 = .ok (.ireturn, 1) := by decide +kernel
theorem dX8_count_76 : decode cX8_count 76 = .ok (.aload_n 0, 1) := by decide +kernel
theorem dX8_count_77 : decode cX8_count 77 = .ok (.getfield 46, 3) := by decide +kernel
theorem dX8_count_80 : decode cX8_count 80 = .ok (.getfield 218, 3) := by decide +kernel
theorem dX8_count_83 : decode cX8_count 83 = .ok (.ireturn, 1) := by decide +kernel
theorem dX8_count_84 : decode cX8_count 84 = .ok (.aload_n 0, 1) := by decide +kernel
theorem dX8_count_85 : decode cX8_count 85 = .ok (.getfield 12, 3) := by decide +kernel
theorem dX8_count_88 : decode cX8_count 88 = .ok (.invokevirtual 264, 3) := by decide +kernel
theorem dX8_count_91 : decode cX8_count 91 = .ok (.ireturn, 1) := by decide +kernel
theorem dX8_count_92 : decode cX8_count 92 = .ok (.aload_n 0, 1) := by decide +kernel
theorem dX8_count_93 : decode cX8_count 93 = .ok (.getfield 28, 3) := by decide +kernel
theorem dX8_count_96 : decode cX8_count 96 = .ok (.invokevirtual 267, 3) := by decide +kernel
theorem dX8_count_99 : decode cX8_count 99 = .ok (.ireturn, 1) := by decide +kernel
theorem dX8_count_100 : decode cX8_count 100 = .ok (.aload_n 0, 1) := by decide +kernel
theorem dX8_count_101 : decode cX8_count 101 = .ok (.getfield 28, 3) := by decide +kernel
theorem dX8_count_104 : decode cX8_count 104 = .ok (.invokevirtual 270, 3) := by decide +kernel
theorem dX8_count_107 : decode cX8_count 107 = .ok (.ireturn, 1) := by decide +kernel
theorem dX8_count_108 : decode cX8_count 108 = .ok (.aload_n 0, 1) := by decide +kernel
theorem dX8_count_109 : decode cX8_count 109 = .ok (.getfield 28, 3) := by decide +kernel
theorem dX8_count_112 : decode cX8_count 112 = .ok (.invokevirtual 273, 3) := by decide +kernel
theorem dX8_count_115 : decode cX8_count 115 = .ok (.ireturn, 1) := by decide +kernel
theorem dX8_count_116 : decode cX8_count 116 = .ok (.aload_n 0, 1) := by decide +kernel
theorem dX8_count_117 : decode cX8_count 117 = .ok (.getfield 70, 3) := by decide +kernel
theorem dX8_count_120 : decode cX8_count 120 = .ok (.ireturn, 1) := by decide +kernel
theorem dX8_count_121 : decode cX8_count 121 = .ok (.bipush (-2), 2) := by decide +kernel
theorem dX8_count_123 : decode cX8_count 123 = .ok (.ireturn, 1) := by decide +kernel
set_option maxRecDepth 20000 in
theorem ggX8_digest_X8_count : GoodIn wsX8_digest wsX8_count := goodIn_r _ [9, 3, 4, 10, 11, 12, 13, 14, 15, 16, 17, 18, 19, 20, 21, 22, 23, 24, 25, 26, 27, 28, 29, 30, 31, 32, 33, 34, 35, 36, 37, 38, 39, 40, 41, 42, 43, 44, 45, 46, 47, 48, 49, 50, 51, 52, 53, 54, 55, 56, 57, 58, 59, 60, 61, 62, 63, 64, 65, 66, 67, 68, 69, 70, 71, 72, 73, 74, 75, 76, 77, 78, 79, 80, 81, 82, 83, 343, 344, 345, 346, 347, 348, 349, 350, 351, 352, 353, 354, 355, 356, 357, 358, 359, 360, 361, 362, 363, 364, 365, 366, 367, 368, 369] (by decide +kernel) (by decide +kernel)
set_option maxRecDepth 20000 in
theorem gX8_digest_X8_count : GoodIn wsX8_digest (wsV RX8 280 RX8 yX8_count wsX8_count) := goodIn_app (goodIn_of _ (by decide +kernel)) ggX8_digest_X8_count
set_option maxRecDepth 20000 in
theorem ggX8_digest_X8_fault : GoodIn wsX8_digest wsX8_fault := goodIn_r _ [87, 3, 88, 343, 344, 345, 346, 347, 348, 349, 350, 351, 352, 353, 354, 355] (by decide +kernel) (by decide +kernel)
set_option maxRecDepth 20000 in
theorem gX8_digest_X8_fault : GoodIn wsX8_digest (wsV RX8 283 RX8 yX8_fault wsX8_fault) := goodIn_app (goodIn_of _ (by decide +kernel)) ggX8_digest_X8_fault
set_option maxRecDepth 20000 in
theorem ggX8_digest_X8_digestOfHull : GoodIn wsX8_digest wsX8_digestOfHull := goodIn_r _ [92, 2, 3, 4, 93, 94, 95, 8, 96, 16, 97, 98, 99, 100, 101, 102, 103, 104, 105, 106, 107, 48, 49, 43, 50, 51, 45, 52, 53, 54, 55, 56, 57, 58, 59, 60, 21, 61, 32, 27, 28, 29, 30, 31, 108, 109, 110, 111, 112, 113, 114, 115, 116, 117, 118, 119, 120, 121, 122, 123, 46, 124, 125, 126, 127, 128, 129, 130, 131, 132, 133, 134, 135, 136, 137, 15, 138, 24, 25, 26, 139, 140, 141, 142, 143, 144, 145, 146, 147, 148, 149, 150, 34, 35, 36, 37, 38, 39, 151, 152, 153, 154, 155, 156, 157, 158, 159, 160, 161, 162, 163, 164, 165, 166, 167, 168, 169, 170, 171, 172, 173, 174, 175, 176, 177, 178, 179, 180, 181, 182, 183, 184, 185, 186, 187, 188, 189, 190, 191, 192, 193, 194, 195, 196, 197, 198, 199, 200, 201, 202, 203, 204, 205, 206, 207, 208, 209, 210, 211, 212, 213, 214, 215, 216, 217, 218, 219, 220, 221, 222, 223, 224, 225, 226, 227, 228, 229, 230, 231, 232, 233, 234, 235, 236, 237, 238, 239, 240, 241, 242, 243, 244, 245, 246, 247, 248, 11, 249, 250, 251, 252, 253, 254, 255, 256, 257, 258, 259, 260, 261, 262, 263, 264, 265, 266, 267, 268, 269, 270, 271, 272, 273, 274, 275, 276, 277, 278, 279, 13, 280, 281, 282, 283, 284, 285, 286, 287, 288, 289, 290, 343, 344, 345, 346, 347, 348, 349, 350, 351, 352, 353, 354, 355, 368, 369, 366, 367, 370, 371, 372, 373, 374, 375, 356, 357, 358, 359, 360, 361, 362, 363, 364, 365] (by decide +kernel) (by decide +kernel)
set_option maxRecDepth 20000 in
theorem gX8_digest_X8_digestOfHull : GoodIn wsX8_digest (wsV RX8 286 RX8 yX8_digestOfHull wsX8_digestOfHull) := goodIn_app (goodIn_of _ (by decide +kernel)) ggX8_digest_X8_digestOfHull
set_option maxRecDepth 20000 in
theorem ggX8_digest_X8_debt : GoodIn wsX8_digest wsX8_debt := goodIn_r _ [294, 16, 97, 98, 8, 99, 100, 101, 102, 103, 104, 105, 106, 3, 4, 295, 67, 68, 43, 69, 51, 70, 71, 72, 73, 74, 75, 76, 77, 78, 45, 52, 53, 54, 55, 56, 57, 79, 28, 29, 21, 30, 31, 32, 296, 343, 344, 345, 346, 347, 348, 349, 350, 351, 352, 353, 354, 355, 368, 369, 366, 367] (by decide +kernel) (by decide +kernel)
set_option maxRecDepth 20000 in
theorem gX8_digest_X8_debt : GoodIn wsX8_digest (wsV RX8 290 RX8 yX8_debt wsX8_debt) := goodIn_app (goodIn_of _ (by decide +kernel)) ggX8_digest_X8_debt
set_option maxRecDepth 20000 in
theorem ggX8_digest_X8_rather : GoodIn wsX8_digest wsX8_rather := goodIn_r _ [300, 16, 301, 302, 303, 8, 304, 3, 4, 100, 101, 102, 305, 306, 307, 43, 308, 51, 45, 52, 53, 54, 55, 56, 57, 58, 59, 60, 21, 61, 32, 27, 28, 29, 30, 31, 343, 344, 345, 346, 347, 348, 349, 350, 351, 352, 353, 354, 355, 368, 369, 366, 367] (by decide +kernel) (by decide +kernel)
set_option maxRecDepth 20000 in
theorem gX8_digest_X8_rather : GoodIn wsX8_digest (wsV RX8 293 RX8 yX8_rather wsX8_rather) := goodIn_app (goodIn_of _ (by decide +kernel)) ggX8_digest_X8_rather
set_option maxRecDepth 20000 in
theorem ggX8_digest_X8_returns : GoodIn wsX8_digest wsX8_returns := goodIn_r _ [312, 16, 301, 302, 303, 8, 304, 3, 4, 100, 101, 102, 97, 98, 99, 313, 314, 315, 43, 316, 317, 318, 319, 320, 321, 322, 323, 324, 45, 52, 53, 54, 55, 56, 57, 325, 343, 344, 345, 346, 347, 348, 349, 350, 351, 352, 353, 354, 355, 368, 369] (by decide +kernel) (by decide +kernel)
set_option maxRecDepth 20000 in
theorem gX8_digest_X8_returns : GoodIn wsX8_digest (wsV RX8 296 RX8 yX8_returns wsX8_returns) := goodIn_app (goodIn_of _ (by decide +kernel)) ggX8_digest_X8_returns
set_option maxRecDepth 20000 in
theorem ggX8_digest_X8_on : GoodIn wsX8_digest wsX8_on := goodIn_r _ [329, 16, 301, 302, 303, 8, 304, 3, 4, 100, 101, 102, 97, 98, 99, 330, 322, 323, 43, 324, 45, 52, 53, 54, 55, 56, 57, 343, 344, 345, 346, 347, 348, 349, 350, 351, 352, 353, 354, 355, 368, 369] (by decide +kernel) (by decide +kernel)
set_option maxRecDepth 20000 in
theorem gX8_digest_X8_on : GoodIn wsX8_digest (wsV RX8 299 RX8 yX8_on wsX8_on) := goodIn_app (goodIn_of _ (by decide +kernel)) ggX8_digest_X8_on
set_option maxRecDepth 20000 in
theorem ggX8_digest_X8_sound : GoodIn wsX8_digest wsX8_sound := goodIn_r _ [131, 132, 97, 98, 8, 99, 100, 101, 102, 133, 134, 135, 136, 137, 15, 138, 24, 25, 21, 26, 27, 28, 29, 30, 31, 32, 139, 140, 141, 142, 143, 144, 145, 146, 147, 148, 149, 150, 34, 35, 36, 37, 38, 39, 151, 152, 153, 154, 155, 156, 157, 158, 159, 160, 161, 162, 163, 164, 165, 166, 167, 168, 169, 170, 171, 343, 344, 345, 346, 347, 348, 349, 350, 351, 370, 371, 372, 366, 367] (by decide +kernel) (by decide +kernel)
set_option maxRecDepth 20000 in
theorem gX8_digest_X8_sound : GoodIn wsX8_digest (wsV RX8 302 RX8 yX8_sound wsX8_sound) := goodIn_app (goodIn_of _ (by decide +kernel)) ggX8_digest_X8_sound
set_option maxRecDepth 20000 in
theorem ggX8_digest_X8_best : GoodIn wsX8_digest wsX8_best := goodIn_r _ [198, 199, 97, 98, 8, 99, 100, 101, 102, 200, 201, 202, 203, 204, 205, 206, 207, 208, 59, 60, 21, 61, 32, 27, 28, 29, 30, 31, 209, 210, 211, 212, 213, 214, 215, 216, 217, 34, 35, 36, 37, 38, 39, 218, 219, 220, 221, 222, 223, 224, 225, 226, 227, 228, 229, 230, 231, 232, 233, 234, 235, 343, 344, 345, 346, 347, 348, 349, 350, 351, 373, 374, 375, 366, 367] (by decide +kernel) (by decide +kernel)
set_option maxRecDepth 20000 in
theorem gX8_digest_X8_best : GoodIn wsX8_digest (wsV RX8 305 RX8 yX8_best wsX8_best) := goodIn_app (goodIn_of _ (by decide +kernel)) ggX8_digest_X8_best
set_option maxRecDepth 20000 in
theorem ggX8_digest_X8_could : GoodIn wsX8_digest wsX8_could := goodIn_r _ [275, 132, 97, 98, 8, 99, 100, 101, 102, 276, 277, 278, 279, 137, 13, 280, 281, 282, 283, 284, 285, 286, 287, 288, 289, 290, 139, 140, 141, 142, 143, 144, 145, 146, 147, 148, 149, 150, 34, 35, 36, 37, 38, 39, 151, 152, 153, 154, 155, 156, 157, 158, 159, 160, 161, 162, 163, 180, 181, 182, 183, 343, 344, 345, 346, 347, 348, 349, 350, 351, 370, 371, 372, 361, 362, 363, 364, 365, 366, 367] (by decide +kernel) (by decide +kernel)
set_option maxRecDepth 20000 in
theorem gX8_digest_X8_could : GoodIn wsX8_digest (wsV RX8 308 RX8 yX8_could wsX8_could) := goodIn_app (goodIn_of _ (by decide +kernel)) ggX8_digest_X8_could
set_option maxRecDepth 20000 in
theorem ggX8_digest_X8_disputed : GoodIn wsX8_digest wsX8_disputed := goodIn_r _ [334, 11, 335, 336, 337, 252, 338, 254, 256, 257, 258, 259, 260, 261, 262, 263, 267, 268, 269, 270, 271, 53, 54, 55, 56, 57, 343, 344, 345, 346, 347, 348, 349, 350, 351, 356, 357, 358, 359, 360, 352, 353, 354, 355] (by decide +kernel) (by decide +kernel)
set_option maxRecDepth 20000 in
theorem gX8_digest_X8_disputed : GoodIn wsX8_digest (wsV RX8 311 RX8 yX8_disputed wsX8_disputed) := goodIn_app (goodIn_of _ (by decide +kernel)) ggX8_digest_X8_disputed
set_option maxRecDepth 20000 in
theorem ggX8_digest_X8_isFalse : GoodIn wsX8_digest wsX8_isFalse := goodIn_r _ [342, 13, 280, 281, 282, 283, 284, 285, 286, 287, 288, 289, 290, 343, 344, 345, 346, 347, 348, 349, 350, 351, 361, 362, 363, 364, 365, 366, 367] (by decide +kernel) (by decide +kernel)
set_option maxRecDepth 20000 in
theorem gX8_digest_X8_isFalse : GoodIn wsX8_digest (wsV RX8 314 RX8 yX8_isFalse wsX8_isFalse) := goodIn_app (goodIn_of _ (by decide +kernel)) ggX8_digest_X8_isFalse
theorem dX8_digest_0 : decode cX8_digest 0 = .ok (.ldc2_w 276, 3) := by decide +kernel
theorem dX8_digest_3 : decode cX8_digest 3 = .ok (.lstore_n 1, 1) := by decide +kernel
theorem dX8_digest_4 : decode cX8_digest 4 = .ok (.iconst 0, 1) := by decide +kernel
theorem dX8_digest_5 : decode cX8_digest 5 = .ok (.istore_n 3, 1) := by decide +kernel
theorem dX8_digest_6 : decode cX8_digest 6 = .ok (.iload_n 3, 1) := by decide +kernel
theorem dX8_digest_7 : decode cX8_digest 7 = .ok (.bipush 8, 2) := by decide +kernel
theorem dX8_digest_9 : decode cX8_digest 9 = .ok (.if_icmp .ge 22, 3) := by decide +kernel
theorem dX8_digest_12 : decode cX8_digest 12 = .ok (.ldc2_w 278, 3) := by decide +kernel
theorem dX8_digest_15 : decode cX8_digest 15 = .ok (.lload_n 1, 1) := by decide +kernel
theorem dX8_digest_16 : decode cX8_digest 16 = .ok (.lmul, 1) := by decide +kernel
theorem dX8_digest_17 : decode cX8_digest 17 = .ok (.aload_n 0, 1) := by decide +kernel
theorem dX8_digest_18 : decode cX8_digest 18 = .ok (.iload_n 3, 1) := by decide +kernel
theorem dX8_digest_19 : decode cX8_digest 19 = .ok (.invokevirtual 280, 3) := by decide +kernel
theorem dX8_digest_22 : decode cX8_digest 22 = .ok (.i2l, 1) := by decide +kernel
theorem dX8_digest_23 : decode cX8_digest 23 = .ok (.ladd, 1) := by decide +kernel
theorem dX8_digest_24 : decode cX8_digest 24 = .ok (.lstore_n 1, 1) := by decide +kernel
theorem dX8_digest_25 : decode cX8_digest 25 = .ok (.iinc 3 1, 3) := by decide +kernel
theorem dX8_digest_28 : decode cX8_digest 28 = .ok (.goto (-22), 3) := by decide +kernel
theorem dX8_digest_31 : decode cX8_digest 31 = .ok (.ldc2_w 278, 3) := by decide +kernel
theorem dX8_digest_34 : decode cX8_digest 34 = .ok (.lload_n 1, 1) := by decide +kernel
theorem dX8_digest_35 : decode cX8_digest 35 = .ok (.lmul, 1) := by decide +kernel
theorem dX8_digest_36 : decode cX8_digest 36 = .ok (.aload_n 0, 1) := by decide +kernel
theorem dX8_digest_37 : decode cX8_digest 37 = .ok (.invokevirtual 283, 3) := by decide +kernel
theorem dX8_digest_40 : decode cX8_digest 40 = .ok (.i2l, 1) := by decide +kernel
theorem dX8_digest_41 : decode cX8_digest 41 = .ok (.ladd, 1) := by decide +kernel
theorem dX8_digest_42 : decode cX8_digest 42 = .ok (.lstore_n 1, 1) := by decide +kernel
theorem dX8_digest_43 : decode cX8_digest 43 = .ok (.iconst 0, 1) := by decide +kernel
theorem dX8_digest_44 : decode cX8_digest 44 = .ok (.istore_n 3, 1) := by decide +kernel
theorem dX8_digest_45 : decode cX8_digest 45 = .ok (.iload_n 3, 1) := by decide +kernel
theorem dX8_digest_46 : decode cX8_digest 46 = .ok (.bipush 6, 2) := by decide +kernel
theorem dX8_digest_48 : decode cX8_digest 48 = .ok (.if_icmp .ge 16, 3) := by decide +kernel
theorem dX8_digest_51 : decode cX8_digest 51 = .ok (.aload_n 0, 1) := by decide +kernel
theorem dX8_digest_52 : decode cX8_digest 52 = .ok (.lload_n 1, 1) := by decide +kernel
theorem dX8_digest_53 : decode cX8_digest 53 = .ok (.iload_n 3, 1) := by decide +kernel
theorem dX8_digest_54 : decode cX8_digest 54 = .ok (.invokevirtual 286, 3) := by decide +kernel
theorem dX8_digest_57 : decode cX8_digest 57 = .ok (.lstore_n 1, 1) := by decide +kernel
theorem dX8_digest_58 : decode cX8_digest 58 = .ok (.iinc 3 1, 3) := by decide +kernel
theorem dX8_digest_61 : decode cX8_digest 61 = .ok (.goto (-16), 3) := by decide +kernel
theorem dX8_digest_64 : decode cX8_digest 64 = .ok (.iconst 0, 1) := by decide +kernel
theorem dX8_digest_65 : decode cX8_digest 65 = .ok (.istore_n 3, 1) := by decide +kernel
theorem dX8_digest_66 : decode cX8_digest 66 = .ok (.iload_n 3, 1) := by decide +kernel
theorem dX8_digest_67 : decode cX8_digest 67 = .ok (.bipush 6, 2) := by decide +kernel
theorem dX8_digest_69 : decode cX8_digest 69 = .ok (.if_icmp .ge 51, 3) := by decide +kernel
theorem dX8_digest_72 : decode cX8_digest 72 = .ok (.ldc2_w 278, 3) := by decide +kernel
theorem dX8_digest_75 : decode cX8_digest 75 = .ok (.lload_n 1, 1) := by decide +kernel
theorem dX8_digest_76 : decode cX8_digest 76 = .ok (.lmul, 1) := by decide +kernel
theorem dX8_digest_77 : decode cX8_digest 77 = .ok (.aload_n 0, 1) := by decide +kernel
theorem dX8_digest_78 : decode cX8_digest 78 = .ok (.iload_n 3, 1) := by decide +kernel
theorem dX8_digest_79 : decode cX8_digest 79 = .ok (.aload_n 0, 1) := by decide +kernel
theorem dX8_digest_80 : decode cX8_digest 80 = .ok (.getfield 19, 3) := by decide +kernel
theorem dX8_digest_83 : decode cX8_digest 83 = .ok (.getfield 261, 3) := by decide +kernel
theorem dX8_digest_86 : decode cX8_digest 86 = .ok (.iconst 0, 1) := by decide +kernel
theorem dX8_digest_87 : decode cX8_digest 87 = .ok (.invokevirtual 290, 3) := by decide +kernel
theorem dX8_digest_90 : decode cX8_digest 90 = .ok (.i2l, 1) := by decide +kernel
theorem dX8_digest_91 : decode cX8_digest 91 = .ok (.ladd, 1) := by decide +kernel
theorem dX8_digest_92 : decode cX8_digest 92 = .ok (.lstore_n 1, 1) := by decide +kernel
theorem dX8_digest_93 : decode cX8_digest 93 = .ok (.ldc2_w 278, 3) := by decide +kernel
theorem dX8_digest_96 : decode cX8_digest 96 = .ok (.lload_n 1, 1) := by decide +kernel
theorem dX8_digest_97 : decode cX8_digest 97 = .ok (.lmul, 1) := by decide +kernel
theorem dX8_digest_98 : decode cX8_digest 98 = .ok (.aload_n 0, 1) := by decide +kernel
theorem dX8_digest_99 : decode cX8_digest 99 = .ok (.iload_n 3, 1) := by decide +kernel
theorem dX8_digest_100 : decode cX8_digest 100 = .ok (.aload_n 0, 1) := by decide +kernel
theorem dX8_digest_101 : decode cX8_digest 101 = .ok (.getfield 19, 3) := by decide +kernel
theorem dX8_digest_104 : decode cX8_digest 104 = .ok (.getfield 261, 3) := by decide +kernel
theorem dX8_digest_107 : decode cX8_digest 107 = .ok (.iconst 1, 1) := by decide +kernel
theorem dX8_digest_108 : decode cX8_digest 108 = .ok (.invokevirtual 290, 3) := by decide +kernel
theorem dX8_digest_111 : decode cX8_digest 111 = .ok (.i2l, 1) := by decide +kernel
theorem dX8_digest_112 : decode cX8_digest 112 = .ok (.ladd, 1) := by decide +kernel
theorem dX8_digest_113 : decode cX8_digest 113 = .ok (.lstore_n 1, 1) := by decide +kernel
theorem dX8_digest_114 : decode cX8_digest 114 = .ok (.iinc 3 1, 3) := by decide +kernel
theorem dX8_digest_117 : decode cX8_digest 117 = .ok (.goto (-51), 3) := by decide +kernel
theorem dX8_digest_120 : decode cX8_digest 120 = .ok (.iconst 0, 1) := by decide +kernel
theorem dX8_digest_121 : decode cX8_digest 121 = .ok (.istore_n 3, 1) := by decide +kernel
theorem dX8_digest_122 : decode cX8_digest 122 = .ok (.iload_n 3, 1) := by decide +kernel
theorem dX8_digest_123 : decode cX8_digest 123 = .ok (.aload_n 0, 1) := by decide +kernel
theorem dX8_digest_124 : decode cX8_digest 124 = .ok (.getfield 19, 3) := by decide +kernel
theorem dX8_digest_127 : decode cX8_digest 127 = .ok (.getfield 261, 3) := by decide +kernel
theorem dX8_digest_130 : decode cX8_digest 130 = .ok (.if_icmp .ge 51, 3) := by decide +kernel
theorem dX8_digest_133 : decode cX8_digest 133 = .ok (.ldc2_w 278, 3) := by decide +kernel
theorem dX8_digest_136 : decode cX8_digest 136 = .ok (.lload_n 1, 1) := by decide +kernel
theorem dX8_digest_137 : decode cX8_digest 137 = .ok (.lmul, 1) := by decide +kernel
theorem dX8_digest_138 : decode cX8_digest 138 = .ok (.aload_n 0, 1) := by decide +kernel
theorem dX8_digest_139 : decode cX8_digest 139 = .ok (.iload_n 3, 1) := by decide +kernel
theorem dX8_digest_140 : decode cX8_digest 140 = .ok (.invokevirtual 293, 3) := by decide +kernel
theorem dX8_digest_143 : decode cX8_digest 143 = .ok (.i2l, 1) := by decide +kernel
theorem dX8_digest_144 : decode cX8_digest 144 = .ok (.ladd, 1) := by decide +kernel
theorem dX8_digest_145 : decode cX8_digest 145 = .ok (.lstore_n 1, 1) := by decide +kernel
theorem dX8_digest_146 : decode cX8_digest 146 = .ok (.ldc2_w 278, 3) := by decide +kernel
theorem dX8_digest_149 : decode cX8_digest 149 = .ok (.lload_n 1, 1) := by decide +kernel
theorem dX8_digest_150 : decode cX8_digest 150 = .ok (.lmul, 1) := by decide +kernel
theorem dX8_digest_151 : decode cX8_digest 151 = .ok (.aload_n 0, 1) := by decide +kernel
theorem dX8_digest_152 : decode cX8_digest 152 = .ok (.iload_n 3, 1) := by decide +kernel
theorem dX8_digest_153 : decode cX8_digest 153 = .ok (.iconst (-1), 1) := by decide +kernel
theorem dX8_digest_154 : decode cX8_digest 154 = .ok (.invokevirtual 296, 3) := by decide +kernel
theorem dX8_digest_157 : decode cX8_digest 157 = .ok (.i2l, 1) := by decide +kernel
theorem dX8_digest_158 : decode cX8_digest 158 = .ok (.ladd, 1) := by decide +kernel
theorem dX8_digest_159 : decode cX8_digest 159 = .ok (.lstore_n 1, 1) := by decide +kernel
theorem dX8_digest_160 : decode cX8_digest 160 = .ok (.ldc2_w 278, 3) := by decide +kernel
theorem dX8_digest_163 : decode cX8_digest 163 = .ok (.lload_n 1, 1) := by decide +kernel
theorem dX8_digest_164 : decode cX8_digest 164 = .ok (.lmul, 1) := by decide +kernel
theorem dX8_digest_165 : decode cX8_digest 165 = .ok (.aload_n 0, 1) := by decide +kernel
theorem dX8_digest_166 : decode cX8_digest 166 = .ok (.iload_n 3, 1) := by decide +kernel
theorem dX8_digest_167 : decode cX8_digest 167 = .ok (.iconst 0, 1) := by decide +kernel
theorem dX8_digest_168 : decode cX8_digest 168 = .ok (.iconst 5, 1) := by decide +kernel
theorem dX8_digest_169 : decode cX8_digest 169 = .ok (.invokevirtual 299, 3) := by decide +kernel
theorem dX8_digest_172 : decode cX8_digest 172 = .ok (.i2l, 1) := by decide +kernel
theorem dX8_digest_173 : decode cX8_digest 173 = .ok (.ladd, 1) := by decide +kernel
theorem dX8_digest_174 : decode cX8_digest 174 = .ok (.lstore_n 1, 1) := by decide +kernel
theorem dX8_digest_175 : decode cX8_digest 175 = .ok (.iinc 3 1, 3) := by decide +kernel
theorem dX8_digest_178 : decode cX8_digest 178 = .ok (.goto (-56), 3) := by decide +kernel
theorem dX8_digest_181 : decode cX8_digest 181 = .ok (.ldc2_w 278, 3) := by decide +kernel
theorem dX8_digest_184 : decode cX8_digest 184 = .ok (.lload_n 1, 1) := by decide +kernel
theorem dX8_digest_185 : decode cX8_digest 185 = .ok (.lmul, 1) := by decide +kernel
theorem dX8_digest_186 : decode cX8_digest 186 = .ok (.aload_n 0, 1) := by decide +kernel
theorem dX8_digest_187 : decode cX8_digest 187 = .ok (.iconst (-1), 1) := by decide +kernel
theorem dX8_digest_188 : decode cX8_digest 188 = .ok (.invokevirtual 302, 3) := by decide +kernel
theorem dX8_digest_191 : decode cX8_digest 191 = .ok (.i2l, 1) := by decide +kernel
theorem dX8_digest_192 : decode cX8_digest 192 = .ok (.ladd, 1) := by decide +kernel
theorem dX8_digest_193 : decode cX8_digest 193 = .ok (.lstore_n 1, 1) := by decide +kernel
theorem dX8_digest_194 : decode cX8_digest 194 = .ok (.ldc2_w 278, 3) := by decide +kernel
theorem dX8_digest_197 : decode cX8_digest 197 = .ok (.lload_n 1, 1) := by decide +kernel
theorem dX8_digest_198 : decode cX8_digest 198 = .ok (.lmul, 1) := by decide +kernel
theorem dX8_digest_199 : decode cX8_digest 199 = .ok (.aload_n 0, 1) := by decide +kernel
theorem dX8_digest_200 : decode cX8_digest 200 = .ok (.iconst (-1), 1) := by decide +kernel
theorem dX8_digest_201 : decode cX8_digest 201 = .ok (.invokevirtual 305, 3) := by decide +kernel
theorem dX8_digest_204 : decode cX8_digest 204 = .ok (.i2l, 1) := by decide +kernel
theorem dX8_digest_205 : decode cX8_digest 205 = .ok (.ladd, 1) := by decide +kernel
theorem dX8_digest_206 : decode cX8_digest 206 = .ok (.lstore_n 1, 1) := by decide +kernel
theorem dX8_digest_207 : decode cX8_digest 207 = .ok (.ldc2_w 278, 3) := by decide +kernel
theorem dX8_digest_210 : decode cX8_digest 210 = .ok (.lload_n 1, 1) := by decide +kernel
theorem dX8_digest_211 : decode cX8_digest 211 = .ok (.lmul, 1) := by decide +kernel
theorem dX8_digest_212 : decode cX8_digest 212 = .ok (.aload_n 0, 1) := by decide +kernel
theorem dX8_digest_213 : decode cX8_digest 213 = .ok (.iconst (-1), 1) := by decide +kernel
theorem dX8_digest_214 : decode cX8_digest 214 = .ok (.invokevirtual 308, 3) := by decide +kernel
theorem dX8_digest_217 : decode cX8_digest 217 = .ok (.i2l, 1) := by decide +kernel
theorem dX8_digest_218 : decode cX8_digest 218 = .ok (.ladd, 1) := by decide +kernel
theorem dX8_digest_219 : decode cX8_digest 219 = .ok (.lstore_n 1, 1) := by decide +kernel
theorem dX8_digest_220 : decode cX8_digest 220 = .ok (.ldc2_w 278, 3) := by decide +kernel
theorem dX8_digest_223 : decode cX8_digest 223 = .ok (.lload_n 1, 1) := by decide +kernel
theorem dX8_digest_224 : decode cX8_digest 224 = .ok (.lmul, 1) := by decide +kernel
theorem dX8_digest_225 : decode cX8_digest 225 = .ok (.aload_n 0, 1) := by decide +kernel
theorem dX8_digest_226 : decode cX8_digest 226 = .ok (.invokevirtual 311, 3) := by decide +kernel
theorem dX8_digest_229 : decode cX8_digest 229 = .ok (.i2l, 1) := by decide +kernel
theorem dX8_digest_230 : decode cX8_digest 230 = .ok (.ladd, 1) := by decide +kernel
theorem dX8_digest_231 : decode cX8_digest 231 = .ok (.lstore_n 1, 1) := by decide +kernel
theorem dX8_digest_232 : decode cX8_digest 232 = .ok (.ldc2_w 278, 3) := by decide +kernel
theorem dX8_digest_235 : decode cX8_digest 235 = .ok (.lload_n 1, 1) := by decide +kernel
theorem dX8_digest_236 : decode cX8_digest 236 = .ok (.lmul, 1) := by decide +kernel
theorem dX8_digest_237 : decode cX8_digest 237 = .ok (.aload_n 0, 1) := by decide +kernel
theorem dX8_digest_238 : decode cX8_digest 238 = .ok (.invokevirtual 314, 3) := by decide +kernel
theorem dX8_digest_241 : decode cX8_digest 241 = .ok (.i2l, 1) := by decide +kernel
theorem dX8_digest_242 : decode cX8_digest 242 = .ok (.ladd, 1) := by decide +kernel
theorem dX8_digest_243 : decode cX8_digest 243 = .ok (.lreturn, 1) := by decide +kernel
set_option maxRecDepth 20000 in
theorem ggX8_digestOfHull_X8_purse : GoodIn wsX8_digestOfHull wsX8_purse := goodIn_r _ [8, 9, 10, 11, 7, 12, 13, 14, 15, 16, 17, 18, 19, 2, 3, 20, 21, 22, 23, 24, 25, 26, 27, 28, 29, 30, 31, 32, 33, 34, 35, 36, 37, 38, 39, 40, 41, 42, 43, 240, 241, 242, 243, 244, 245, 246, 247, 248, 249, 250, 251, 252, 253, 254, 255, 256] (by decide +kernel) (by decide +kernel)
set_option maxRecDepth 20000 in
theorem gX8_digestOfHull_X8_purse : GoodIn wsX8_digestOfHull (wsV RX8 317 RX8 yX8_purse wsX8_purse) := goodIn_app (goodIn_of _ (by decide +kernel)) ggX8_digestOfHull_X8_purse
set_option maxRecDepth 20000 in
theorem ggX8_digestOfHull_X8_been : GoodIn wsX8_digestOfHull wsX8_been := goodIn_r _ [47, 9, 10, 11, 7, 12, 13, 14, 15, 16, 17, 18, 19, 2, 3, 48, 49, 50, 23, 51, 26, 27, 28, 29, 30, 31, 32, 240, 241, 242, 243, 244, 245, 246, 247, 248, 249, 250, 251, 252, 253, 254] (by decide +kernel) (by decide +kernel)
set_option maxRecDepth 20000 in
theorem gX8_digestOfHull_X8_been : GoodIn wsX8_digestOfHull (wsV RX8 320 RX8 yX8_been wsX8_been) := goodIn_app (goodIn_of _ (by decide +kernel)) ggX8_digestOfHull_X8_been
set_option maxRecDepth 20000 in
theorem ggX8_digestOfHull_X8_home : GoodIn wsX8_digestOfHull wsX8_home := goodIn_r _ [55, 9, 10, 11, 7, 12, 13, 14, 15, 56, 57, 58, 23, 59, 26, 60, 27, 28, 29, 30, 31, 32, 240, 241, 242, 243, 244, 245, 246, 247, 248, 253, 254, 249, 250, 251, 252] (by decide +kernel) (by decide +kernel)
set_option maxRecDepth 20000 in
theorem gX8_digestOfHull_X8_home : GoodIn wsX8_digestOfHull (wsV RX8 323 RX8 yX8_home wsX8_home) := goodIn_app (goodIn_of _ (by decide +kernel)) ggX8_digestOfHull_X8_home
set_option maxRecDepth 20000 in
theorem ggX8_digestOfHull_X8_other : GoodIn wsX8_digestOfHull wsX8_other := goodIn_r _ [64, 9, 10, 11, 7, 12, 13, 14, 15, 56, 57, 58, 23, 59, 26, 60, 27, 28, 29, 30, 31, 32, 240, 241, 242, 243, 244, 245, 246, 247, 248, 253, 254, 249, 250, 251, 252] (by decide +kernel) (by decide +kernel)
set_option maxRecDepth 20000 in
theorem gX8_digestOfHull_X8_other : GoodIn wsX8_digestOfHull (wsV RX8 326 RX8 yX8_other wsX8_other) := goodIn_app (goodIn_of _ (by decide +kernel)) ggX8_digestOfHull_X8_other
set_option maxRecDepth 20000 in
theorem ggX8_digestOfHull_X8_sound : GoodIn wsX8_digestOfHull wsX8_sound := goodIn_r _ [68, 69, 10, 11, 7, 12, 13, 14, 15, 70, 71, 72, 73, 74, 75, 76, 77, 78, 36, 79, 39, 40, 41, 42, 43, 38, 80, 81, 82, 83, 84, 85, 86, 87, 88, 89, 90, 91, 92, 93, 94, 95, 96, 97, 98, 99, 100, 101, 102, 103, 104, 105, 106, 107, 108, 109, 110, 111, 112, 113, 114, 115, 116, 117, 118, 240, 241, 242, 243, 244, 245, 246, 247, 248, 257, 258, 259, 255, 256] (by decide +kernel) (by decide +kernel)
set_option maxRecDepth 20000 in
theorem gX8_digestOfHull_X8_sound : GoodIn wsX8_digestOfHull (wsV RX8 302 RX8 yX8_sound wsX8_sound) := goodIn_app (goodIn_of _ (by decide +kernel)) ggX8_digestOfHull_X8_sound
set_option maxRecDepth 20000 in
theorem ggX8_digestOfHull_X8_chance : GoodIn wsX8_digestOfHull wsX8_chance := goodIn_r _ [122, 69, 10, 11, 7, 12, 13, 14, 15, 123, 124, 125, 126, 70, 71, 72, 73, 74, 75, 76, 77, 78, 36, 79, 39, 40, 41, 42, 43, 38, 80, 81, 82, 83, 84, 85, 86, 87, 88, 89, 90, 91, 92, 93, 94, 95, 96, 97, 98, 99, 100, 101, 102, 103, 104, 105, 106, 107, 108, 109, 110, 127, 128, 129, 130, 131, 132, 133, 134, 135, 136, 240, 241, 242, 243, 244, 245, 246, 247, 248, 257, 258, 259, 255, 256] (by decide +kernel) (by decide +kernel)
set_option maxRecDepth 20000 in
theorem gX8_digestOfHull_X8_chance : GoodIn wsX8_digestOfHull (wsV RX8 329 RX8 yX8_chance wsX8_chance) := goodIn_app (goodIn_of _ (by decide +kernel)) ggX8_digestOfHull_X8_chance
set_option maxRecDepth 20000 in
theorem ggX8_digestOfHull_X8_ahead : GoodIn wsX8_digestOfHull wsX8_ahead := goodIn_r _ [140, 75, 10, 11, 7, 12, 13, 14, 15, 123, 124, 125, 126, 141, 34, 35, 36, 37, 38, 39, 40, 41, 42, 43, 131, 132, 133, 134, 135, 136, 240, 241, 242, 243, 244, 245, 246, 247, 248, 255, 256] (by decide +kernel) (by decide +kernel)
set_option maxRecDepth 20000 in
theorem gX8_digestOfHull_X8_ahead : GoodIn wsX8_digestOfHull (wsV RX8 333 RX8 yX8_ahead wsX8_ahead) := goodIn_app (goodIn_of _ (by decide +kernel)) ggX8_digestOfHull_X8_ahead
set_option maxRecDepth 20000 in
theorem ggX8_digestOfHull_X8_best : GoodIn wsX8_digestOfHull wsX8_best := goodIn_r _ [145, 146, 10, 11, 7, 12, 13, 14, 15, 147, 148, 149, 150, 151, 152, 153, 154, 155, 34, 35, 36, 37, 38, 39, 40, 41, 42, 43, 156, 157, 158, 159, 160, 161, 162, 163, 164, 92, 93, 94, 95, 96, 97, 165, 166, 167, 168, 169, 170, 171, 172, 173, 174, 175, 176, 177, 178, 179, 180, 181, 182, 240, 241, 242, 243, 244, 245, 246, 247, 248, 260, 261, 262, 255, 256] (by decide +kernel) (by decide +kernel)
set_option maxRecDepth 20000 in
theorem gX8_digestOfHull_X8_best : GoodIn wsX8_digestOfHull (wsV RX8 305 RX8 yX8_best wsX8_best) := goodIn_app (goodIn_of _ (by decide +kernel)) ggX8_digestOfHull_X8_best
set_option maxRecDepth 20000 in
theorem ggX8_digestOfHull_X8_lot : GoodIn wsX8_digestOfHull wsX8_lot := goodIn_r _ [186, 187, 10, 11, 7, 12, 13, 14, 15, 188, 189, 190, 191, 165, 166] (by decide +kernel) (by decide +kernel)
set_option maxRecDepth 20000 in
theorem gX8_digestOfHull_X8_lot : GoodIn wsX8_digestOfHull (wsV RX8 337 RX8 yX8_lot wsX8_lot) := goodIn_app (goodIn_of _ (by decide +kernel)) ggX8_digestOfHull_X8_lot
set_option maxRecDepth 20000 in
theorem ggX8_digestOfHull_X8_owed : GoodIn wsX8_digestOfHull wsX8_owed := goodIn_r _ [195, 196, 10, 11, 7, 12, 13, 14, 15, 197, 198, 199, 200, 201, 202, 203, 204, 205, 206, 207, 208, 209, 210, 211, 212, 213, 214, 215, 216, 217, 218, 219, 28, 29, 30, 31, 32, 240, 241, 242, 243, 244, 245, 246, 247, 248, 263, 264, 265, 266, 267, 249, 250, 251, 252] (by decide +kernel) (by decide +kernel)
set_option maxRecDepth 20000 in
theorem gX8_digestOfHull_X8_owed : GoodIn wsX8_digestOfHull (wsV RX8 340 RX8 yX8_owed wsX8_owed) := goodIn_app (goodIn_of _ (by decide +kernel)) ggX8_digestOfHull_X8_owed
set_option maxRecDepth 20000 in
theorem ggX8_digestOfHull_X8_could : GoodIn wsX8_digestOfHull wsX8_could := goodIn_r _ [223, 69, 10, 11, 7, 12, 13, 14, 15, 224, 225, 226, 227, 74, 228, 229, 230, 231, 232, 233, 234, 235, 236, 237, 238, 239, 80, 81, 82, 83, 84, 85, 86, 87, 88, 89, 90, 91, 92, 93, 94, 95, 96, 97, 98, 99, 100, 101, 102, 103, 104, 105, 106, 107, 108, 109, 110, 127, 128, 129, 130, 240, 241, 242, 243, 244, 245, 246, 247, 248, 257, 258, 259, 268, 269, 270, 271, 272, 255, 256] (by decide +kernel) (by decide +kernel)
set_option maxRecDepth 20000 in
theorem gX8_digestOfHull_X8_could : GoodIn wsX8_digestOfHull (wsV RX8 308 RX8 yX8_could wsX8_could) := goodIn_app (goodIn_of _ (by decide +kernel)) ggX8_digestOfHull_X8_could
theorem dX8_digestOfHull_0 : decode cX8_digestOfHull 0 = .ok (.lload_n 1, 1) := by decide +kernel
theorem dX8_digestOfHull_1 : decode cX8_digestOfHull 1 = .ok (.lstore 4, 2) := by decide +kernel
theorem dX8_digestOfHull_3 : decode cX8_digestOfHull 3 = .ok (.ldc2_w 278, 3) := by decide +kernel
theorem dX8_digestOfHull_6 : decode cX8_digestOfHull 6 = .ok (.lload 4, 2) := by decide +kernel
theorem dX8_digestOfHull_8 : decode cX8_digestOfHull 8 = .ok (.lmul, 1) := by decide +kernel
theorem dX8_digestOfHull_9 : decode cX8_digestOfHull 9 = .ok (.aload_n 0, 1) := by decide +kernel
theorem dX8_digestOfHull_10 : decode cX8_digestOfHull 10 = .ok (.iload_n 3, 1) := by decide +kernel
theorem dX8_digestOfHull_11 : decode cX8_digestOfHull 11 = .ok (.aload_n 0, 1) := by decide +kernel
theorem dX8_digestOfHull_12 : decode cX8_digestOfHull 12 = .ok (.getfield 19, 3) := by decide +kernel
theorem dX8_digestOfHull_15 : decode cX8_digestOfHull 15 = .ok (.getfield 261, 3) := by decide +kernel
theorem dX8_digestOfHull_18 : decode cX8_digestOfHull 18 = .ok (.invokevirtual 317, 3) := by decide +kernel
theorem dX8_digestOfHull_21 : decode cX8_digestOfHull 21 = .ok (.i2l, 1) := by decide +kernel
theorem dX8_digestOfHull_22 : decode cX8_digestOfHull 22 = .ok (.ladd, 1) := by decide +kernel
theorem dX8_digestOfHull_23 : decode cX8_digestOfHull 23 = .ok (.lstore 4, 2) := by decide +kernel
theorem dX8_digestOfHull_25 : decode cX8_digestOfHull 25 = .ok (.ldc2_w 278, 3) := by decide +kernel
theorem dX8_digestOfHull_28 : decode cX8_digestOfHull 28 = .ok (.lload 4, 2) := by decide +kernel
theorem dX8_digestOfHull_30 : decode cX8_digestOfHull 30 = .ok (.lmul, 1) := by decide +kernel
theorem dX8_digestOfHull_31 : decode cX8_digestOfHull 31 = .ok (.aload_n 0, 1) := by decide +kernel
theorem dX8_digestOfHull_32 : decode cX8_digestOfHull 32 = .ok (.iload_n 3, 1) := by decide +kernel
theorem dX8_digestOfHull_33 : decode cX8_digestOfHull 33 = .ok (.aload_n 0, 1) := by decide +kernel
theorem dX8_digestOfHull_34 : decode cX8_digestOfHull 34 = .ok (.getfield 19, 3) := by decide +kernel
theorem dX8_digestOfHull_37 : decode cX8_digestOfHull 37 = .ok (.getfield 261, 3) := by decide +kernel
theorem dX8_digestOfHull_40 : decode cX8_digestOfHull 40 = .ok (.invokevirtual 320, 3) := by decide +kernel
theorem dX8_digestOfHull_43 : decode cX8_digestOfHull 43 = .ok (.i2l, 1) := by decide +kernel
theorem dX8_digestOfHull_44 : decode cX8_digestOfHull 44 = .ok (.ladd, 1) := by decide +kernel
theorem dX8_digestOfHull_45 : decode cX8_digestOfHull 45 = .ok (.lstore 4, 2) := by decide +kernel
theorem dX8_digestOfHull_47 : decode cX8_digestOfHull 47 = .ok (.ldc2_w 278, 3) := by decide +kernel
theorem dX8_digestOfHull_50 : decode cX8_digestOfHull 50 = .ok (.lload 4, 2) := by decide +kernel
theorem dX8_digestOfHull_52 : decode cX8_digestOfHull 52 = .ok (.lmul, 1) := by decide +kernel
theorem dX8_digestOfHull_53 : decode cX8_digestOfHull 53 = .ok (.aload_n 0, 1) := by decide +kernel
theorem dX8_digestOfHull_54 : decode cX8_digestOfHull 54 = .ok (.iload_n 3, 1) := by decide +kernel
theorem dX8_digestOfHull_55 : decode cX8_digestOfHull 55 = .ok (.invokevirtual 323, 3) := by decide +kernel
theorem dX8_digestOfHull_58 : decode cX8_digestOfHull 58 = .ok (.i2l, 1) := by decide +kernel
theorem dX8_digestOfHull_59 : decode cX8_digestOfHull 59 = .ok (.ladd, 1) := by decide +kernel
theorem dX8_digestOfHull_60 : decode cX8_digestOfHull 60 = .ok (.lstore 4, 2) := by decide +kernel
theorem dX8_digestOfHull_62 : decode cX8_digestOfHull 62 = .ok (.ldc2_w 278, 3) := by decide +kernel
theorem dX8_digestOfHull_65 : decode cX8_digestOfHull 65 = .ok (.lload 4, 2) := by decide +kernel
theorem dX8_digestOfHull_67 : decode cX8_digestOfHull 67 = .ok (.lmul, 1) := by decide +kernel
theorem dX8_digestOfHull_68 : decode cX8_digestOfHull 68 = .ok (.aload_n 0, 1) := by decide +kernel
theorem dX8_digestOfHull_69 : decode cX8_digestOfHull 69 = .ok (.iload_n 3, 1) := by decide +kernel
theorem dX8_digestOfHull_70 : decode cX8_digestOfHull 70 = .ok (.iload_n 3, 1) := by decide +kernel
theorem dX8_digestOfHull_71 : decode cX8_digestOfHull 71 = .ok (.iconst 1, 1) := by decide +kernel
theorem dX8_digestOfHull_72 : decode cX8_digestOfHull 72 = .ok (.iadd, 1) := by decide +kernel
theorem dX8_digestOfHull_73 : decode cX8_digestOfHull 73 = .ok (.bipush 6, 2) := by decide +kernel
theorem dX8_digestOfHull_75 : decode cX8_digestOfHull 75 = .ok (.irem, 1) := by decide +kernel
theorem dX8_digestOfHull_76 : decode cX8_digestOfHull 76 = .ok (.invokevirtual 326, 3) := by decide +kernel
theorem dX8_digestOfHull_79 : decode cX8_digestOfHull 79 = .ok (.i2l, 1) := by decide +kernel
theorem dX8_digestOfHull_80 : decode cX8_digestOfHull 80 = .ok (.ladd, 1) := by decide +kernel
theorem dX8_digestOfHull_81 : decode cX8_digestOfHull 81 = .ok (.lstore 4, 2) := by decide +kernel
theorem dX8_digestOfHull_83 : decode cX8_digestOfHull 83 = .ok (.ldc2_w 278, 3) := by decide +kernel
theorem dX8_digestOfHull_86 : decode cX8_digestOfHull 86 = .ok (.lload 4, 2) := by decide +kernel
theorem dX8_digestOfHull_88 : decode cX8_digestOfHull 88 = .ok (.lmul, 1) := by decide +kernel
theorem dX8_digestOfHull_89 : decode cX8_digestOfHull 89 = .ok (.aload_n 0, 1) := by decide +kernel
theorem dX8_digestOfHull_90 : decode cX8_digestOfHull 90 = .ok (.iload_n 3, 1) := by decide +kernel
theorem dX8_digestOfHull_91 : decode cX8_digestOfHull 91 = .ok (.invokevirtual 302, 3) := by decide +kernel
theorem dX8_digestOfHull_94 : decode cX8_digestOfHull 94 = .ok (.i2l, 1) := by decide +kernel
theorem dX8_digestOfHull_95 : decode cX8_digestOfHull 95 = .ok (.ladd, 1) := by decide +kernel
theorem dX8_digestOfHull_96 : decode cX8_digestOfHull 96 = .ok (.lstore 4, 2) := by decide +kernel
theorem dX8_digestOfHull_98 : decode cX8_digestOfHull 98 = .ok (.ldc2_w 278, 3) := by decide +kernel
theorem dX8_digestOfHull_101 : decode cX8_digestOfHull 101 = .ok (.lload 4, 2) := by decide +kernel
theorem dX8_digestOfHull_103 : decode cX8_digestOfHull 103 = .ok (.lmul, 1) := by decide +kernel
theorem dX8_digestOfHull_104 : decode cX8_digestOfHull 104 = .ok (.aload_n 0, 1) := by decide +kernel
theorem dX8_digestOfHull_105 : decode cX8_digestOfHull 105 = .ok (.iload_n 3, 1) := by decide +kernel
theorem dX8_digestOfHull_106 : decode cX8_digestOfHull 106 = .ok (.iload_n 3, 1) := by decide +kernel
theorem dX8_digestOfHull_107 : decode cX8_digestOfHull 107 = .ok (.iconst 0, 1) := by decide +kernel
theorem dX8_digestOfHull_108 : decode cX8_digestOfHull 108 = .ok (.invokevirtual 329, 3) := by decide +kernel
theorem dX8_digestOfHull_111 : decode cX8_digestOfHull 111 = .ok (.ladd, 1) := by decide +kernel
theorem dX8_digestOfHull_112 : decode cX8_digestOfHull 112 = .ok (.lstore 4, 2) := by decide +kernel
theorem dX8_digestOfHull_114 : decode cX8_digestOfHull 114 = .ok (.ldc2_w 278, 3) := by decide +kernel
theorem dX8_digestOfHull_117 : decode cX8_digestOfHull 117 = .ok (.lload 4, 2) := by decide +kernel
theorem dX8_digestOfHull_119 : decode cX8_digestOfHull 119 = .ok (.lmul, 1) := by decide +kernel
theorem dX8_digestOfHull_120 : decode cX8_digestOfHull 120 = .ok (.aload_n 0, 1) := by decide +kernel
theorem dX8_digestOfHull_121 : decode cX8_digestOfHull 121 = .ok (.iload_n 3, 1) := by decide +kernel
theorem dX8_digestOfHull_122 : decode cX8_digestOfHull 122 = .ok (.iload_n 3, 1) := by decide +kernel
theorem dX8_digestOfHull_123 : decode cX8_digestOfHull 123 = .ok (.iconst 1, 1) := by decide +kernel
theorem dX8_digestOfHull_124 : decode cX8_digestOfHull 124 = .ok (.invokevirtual 329, 3) := by decide +kernel
theorem dX8_digestOfHull_127 : decode cX8_digestOfHull 127 = .ok (.ladd, 1) := by decide +kernel
theorem dX8_digestOfHull_128 : decode cX8_digestOfHull 128 = .ok (.lstore 4, 2) := by decide +kernel
theorem dX8_digestOfHull_130 : decode cX8_digestOfHull 130 = .ok (.ldc2_w 278, 3) := by decide +kernel
theorem dX8_digestOfHull_133 : decode cX8_digestOfHull 133 = .ok (.lload 4, 2) := by decide +kernel
theorem dX8_digestOfHull_135 : decode cX8_digestOfHull 135 = .ok (.lmul, 1) := by decide +kernel
theorem dX8_digestOfHull_136 : decode cX8_digestOfHull 136 = .ok (.aload_n 0, 1) := by decide +kernel
theorem dX8_digestOfHull_137 : decode cX8_digestOfHull 137 = .ok (.iload_n 3, 1) := by decide +kernel
theorem dX8_digestOfHull_138 : decode cX8_digestOfHull 138 = .ok (.iconst 0, 1) := by decide +kernel
theorem dX8_digestOfHull_139 : decode cX8_digestOfHull 139 = .ok (.invokevirtual 333, 3) := by decide +kernel
theorem dX8_digestOfHull_142 : decode cX8_digestOfHull 142 = .ok (.ladd, 1) := by decide +kernel
theorem dX8_digestOfHull_143 : decode cX8_digestOfHull 143 = .ok (.lstore 4, 2) := by decide +kernel
theorem dX8_digestOfHull_145 : decode cX8_digestOfHull 145 = .ok (.ldc2_w 278, 3) := by decide +kernel
theorem dX8_digestOfHull_148 : decode cX8_digestOfHull 148 = .ok (.lload 4, 2) := by decide +kernel
theorem dX8_digestOfHull_150 : decode cX8_digestOfHull 150 = .ok (.lmul, 1) := by decide +kernel
theorem dX8_digestOfHull_151 : decode cX8_digestOfHull 151 = .ok (.aload_n 0, 1) := by decide +kernel
theorem dX8_digestOfHull_152 : decode cX8_digestOfHull 152 = .ok (.iload_n 3, 1) := by decide +kernel
theorem dX8_digestOfHull_153 : decode cX8_digestOfHull 153 = .ok (.iconst 1, 1) := by decide +kernel
theorem dX8_digestOfHull_154 : decode cX8_digestOfHull 154 = .ok (.invokevirtual 333, 3) := by decide +kernel
theorem dX8_digestOfHull_157 : decode cX8_digestOfHull 157 = .ok (.ladd, 1) := by decide +kernel
theorem dX8_digestOfHull_158 : decode cX8_digestOfHull 158 = .ok (.lstore 4, 2) := by decide +kernel
theorem dX8_digestOfHull_160 : decode cX8_digestOfHull 160 = .ok (.ldc2_w 278, 3) := by decide +kernel
theorem dX8_digestOfHull_163 : decode cX8_digestOfHull 163 = .ok (.lload 4, 2) := by decide +kernel
theorem dX8_digestOfHull_165 : decode cX8_digestOfHull 165 = .ok (.lmul, 1) := by decide +kernel
theorem dX8_digestOfHull_166 : decode cX8_digestOfHull 166 = .ok (.aload_n 0, 1) := by decide +kernel
theorem dX8_digestOfHull_167 : decode cX8_digestOfHull 167 = .ok (.iload_n 3, 1) := by decide +kernel
theorem dX8_digestOfHull_168 : decode cX8_digestOfHull 168 = .ok (.invokevirtual 305, 3) := by decide +kernel
theorem dX8_digestOfHull_171 : decode cX8_digestOfHull 171 = .ok (.i2l, 1) := by decide +kernel
theorem dX8_digestOfHull_172 : decode cX8_digestOfHull 172 = .ok (.ladd, 1) := by decide +kernel
theorem dX8_digestOfHull_173 : decode cX8_digestOfHull 173 = .ok (.lstore 4, 2) := by decide +kernel
theorem dX8_digestOfHull_175 : decode cX8_digestOfHull 175 = .ok (.ldc2_w 278, 3) := by decide +kernel
theorem dX8_digestOfHull_178 : decode cX8_digestOfHull 178 = .ok (.lload 4, 2) := by decide +kernel
theorem dX8_digestOfHull_180 : decode cX8_digestOfHull 180 = .ok (.lmul, 1) := by decide +kernel
theorem dX8_digestOfHull_181 : decode cX8_digestOfHull 181 = .ok (.aload_n 0, 1) := by decide +kernel
theorem dX8_digestOfHull_182 : decode cX8_digestOfHull 182 = .ok (.bipush 7, 2) := by decide +kernel
theorem dX8_digestOfHull_184 : decode cX8_digestOfHull 184 = .ok (.iload_n 3, 1) := by decide +kernel
theorem dX8_digestOfHull_185 : decode cX8_digestOfHull 185 = .ok (.invokevirtual 337, 3) := by decide +kernel
theorem dX8_digestOfHull_188 : decode cX8_digestOfHull 188 = .ok (.i2l, 1) := by decide +kernel
theorem dX8_digestOfHull_189 : decode cX8_digestOfHull 189 = .ok (.ladd, 1) := by decide +kernel
theorem dX8_digestOfHull_190 : decode cX8_digestOfHull 190 = .ok (.lstore 4, 2) := by decide +kernel
theorem dX8_digestOfHull_192 : decode cX8_digestOfHull 192 = .ok (.iconst 0, 1) := by decide +kernel
theorem dX8_digestOfHull_193 : decode cX8_digestOfHull 193 = .ok (.istore 6, 2) := by decide +kernel
theorem dX8_digestOfHull_195 : decode cX8_digestOfHull 195 = .ok (.iload 6, 2) := by decide +kernel
theorem dX8_digestOfHull_197 : decode cX8_digestOfHull 197 = .ok (.iconst 3, 1) := by decide +kernel
theorem dX8_digestOfHull_198 : decode cX8_digestOfHull 198 = .ok (.if_icmp .ge 26, 3) := by decide +kernel
theorem dX8_digestOfHull_201 : decode cX8_digestOfHull 201 = .ok (.ldc2_w 278, 3) := by decide +kernel
theorem dX8_digestOfHull_204 : decode cX8_digestOfHull 204 = .ok (.lload 4, 2) := by decide +kernel
theorem dX8_digestOfHull_206 : decode cX8_digestOfHull 206 = .ok (.lmul, 1) := by decide +kernel
theorem dX8_digestOfHull_207 : decode cX8_digestOfHull 207 = .ok (.aload_n 0, 1) := by decide +kernel
theorem dX8_digestOfHull_208 : decode cX8_digestOfHull 208 = .ok (.iload_n 3, 1) := by decide +kernel
theorem dX8_digestOfHull_209 : decode cX8_digestOfHull 209 = .ok (.iload 6, 2) := by decide +kernel
theorem dX8_digestOfHull_211 : decode cX8_digestOfHull 211 = .ok (.invokevirtual 340, 3) := by decide +kernel
theorem dX8_digestOfHull_214 : decode cX8_digestOfHull 214 = .ok (.i2l, 1) := by decide +kernel
theorem dX8_digestOfHull_215 : decode cX8_digestOfHull 215 = .ok (.ladd, 1) := by decide +kernel
theorem dX8_digestOfHull_216 : decode cX8_digestOfHull 216 = .ok (.lstore 4, 2) := by decide +kernel
theorem dX8_digestOfHull_218 : decode cX8_digestOfHull 218 = .ok (.iinc 6 1, 3) := by decide +kernel
theorem dX8_digestOfHull_221 : decode cX8_digestOfHull 221 = .ok (.goto (-26), 3) := by decide +kernel
theorem dX8_digestOfHull_224 : decode cX8_digestOfHull 224 = .ok (.ldc2_w 278, 3) := by decide +kernel
theorem dX8_digestOfHull_227 : decode cX8_digestOfHull 227 = .ok (.lload 4, 2) := by decide +kernel
theorem dX8_digestOfHull_229 : decode cX8_digestOfHull 229 = .ok (.lmul, 1) := by decide +kernel
theorem dX8_digestOfHull_230 : decode cX8_digestOfHull 230 = .ok (.aload_n 0, 1) := by decide +kernel
theorem dX8_digestOfHull_231 : decode cX8_digestOfHull 231 = .ok (.iload_n 3, 1) := by decide +kernel
theorem dX8_digestOfHull_232 : decode cX8_digestOfHull 232 = .ok (.invokevirtual 308, 3) := by decide +kernel
theorem dX8_digestOfHull_235 : decode cX8_digestOfHull 235 = .ok (.i2l, 1) := by decide +kernel
theorem dX8_digestOfHull_236 : decode cX8_digestOfHull 236 = .ok (.ladd, 1) := by decide +kernel
theorem dX8_digestOfHull_237 : decode cX8_digestOfHull 237 = .ok (.lreturn, 1) := by decide +kernel
set_option maxRecDepth 20000 in
theorem ggX8_drawSound_X4_namesFor : GoodIn wsX8_drawSound wsX4_namesFor := goodIn_r _ [8, 9, 10, 11, 7, 12, 13, 14, 54, 55] (by decide +kernel) (by decide +kernel)
set_option maxRecDepth 20000 in
theorem gX8_drawSound_X4_namesFor : GoodIn wsX8_drawSound (wsV RX8 346 RX4 yX4_namesFor wsX4_namesFor) := goodIn_app (goodIn_of _ (by decide +kernel)) ggX8_drawSound_X4_namesFor
set_option maxRecDepth 20000 in
theorem ggX8_drawSound_X3_countWays : GoodIn wsX8_drawSound wsX3_countWays := goodIn_r _ [19, 20, 21, 22, 23, 24, 18, 25, 26, 27, 28, 29, 30, 31, 32, 33, 34, 35, 36, 37, 38, 39, 40, 41, 51, 52, 53] (by decide +kernel) (by decide +kernel)
set_option maxRecDepth 20000 in
theorem gX8_drawSound_X3_countWays : GoodIn wsX8_drawSound (wsV RX8 347 RX3 yX3_countWays wsX3_countWays) := goodIn_app (goodIn_of _ (by decide +kernel)) ggX8_drawSound_X3_countWays
theorem dX8_drawSound_0 : decode cX8_drawSound 0 = .ok (.iconst 0, 1) := by decide +kernel
theorem dX8_drawSound_1 : decode cX8_drawSound 1 = .ok (.istore_n 1, 1) := by decide +kernel
theorem dX8_drawSound_2 : decode cX8_drawSound 2 = .ok (.iload_n 1, 1) := by decide +kernel
theorem dX8_drawSound_3 : decode cX8_drawSound 3 = .ok (.bipush 6, 2) := by decide +kernel
theorem dX8_drawSound_5 : decode cX8_drawSound 5 = .ok (.if_icmp .ge 26, 3) := by decide +kernel
theorem dX8_drawSound_8 : decode cX8_drawSound 8 = .ok (.aload_n 0, 1) := by decide +kernel
theorem dX8_drawSound_9 : decode cX8_drawSound 9 = .ok (.getfield 53, 3) := by decide +kernel
theorem dX8_drawSound_12 : decode cX8_drawSound 12 = .ok (.getfield 343, 3) := by decide +kernel
theorem dX8_drawSound_15 : decode cX8_drawSound 15 = .ok (.iload_n 1, 1) := by decide +kernel
theorem dX8_drawSound_16 : decode cX8_drawSound 16 = .ok (.aload_n 0, 1) := by decide +kernel
theorem dX8_drawSound_17 : decode cX8_drawSound 17 = .ok (.getfield 12, 3) := by decide +kernel
theorem dX8_drawSound_20 : decode cX8_drawSound 20 = .ok (.iload_n 1, 1) := by decide +kernel
theorem dX8_drawSound_21 : decode cX8_drawSound 21 = .ok (.invokevirtual 346, 3) := by decide +kernel
theorem dX8_drawSound_24 : decode cX8_drawSound 24 = .ok (.iastore, 1) := by decide +kernel
theorem dX8_drawSound_25 : decode cX8_drawSound 25 = .ok (.iinc 1 1, 3) := by decide +kernel
theorem dX8_drawSound_28 : decode cX8_drawSound 28 = .ok (.goto (-26), 3) := by decide +kernel
theorem dX8_drawSound_31 : decode cX8_drawSound 31 = .ok (.aload_n 0, 1) := by decide +kernel
theorem dX8_drawSound_32 : decode cX8_drawSound 32 = .ok (.getfield 53, 3) := by decide +kernel
theorem dX8_drawSound_35 : decode cX8_drawSound 35 = .ok (.invokevirtual 347, 3) := by decide +kernel
theorem dX8_drawSound_38 : decode cX8_drawSound 38 = .ok (.return_, 1) := by decide +kernel
set_option maxRecDepth 20000 in
theorem ggX8_drawSeen_X6_namesFor : GoodIn wsX8_drawSeen wsX6_namesFor := goodIn_r _ [8, 9, 10, 11, 12, 13, 14, 54, 55, 56, 57, 58, 59, 60] (by decide +kernel) (by decide +kernel)
set_option maxRecDepth 20000 in
theorem gX8_drawSeen_X6_namesFor : GoodIn wsX8_drawSeen (wsV RX8 225 RX6 yX6_namesFor wsX6_namesFor) := goodIn_app (goodIn_of _ (by decide +kernel)) ggX8_drawSeen_X6_namesFor
set_option maxRecDepth 20000 in
theorem ggX8_drawSeen_X3_countWays : GoodIn wsX8_drawSeen wsX3_countWays := goodIn_r _ [19, 20, 21, 22, 23, 24, 18, 25, 26, 27, 28, 29, 30, 31, 32, 33, 34, 35, 36, 37, 38, 39, 40, 41, 51, 52, 53] (by decide +kernel) (by decide +kernel)
set_option maxRecDepth 20000 in
theorem gX8_drawSeen_X3_countWays : GoodIn wsX8_drawSeen (wsV RX8 347 RX3 yX3_countWays wsX3_countWays) := goodIn_app (goodIn_of _ (by decide +kernel)) ggX8_drawSeen_X3_countWays
theorem dX8_drawSeen_0 : decode cX8_drawSeen 0 = .ok (.iconst 0, 1) := by decide +kernel
theorem dX8_drawSeen_1 : decode cX8_drawSeen 1 = .ok (.istore_n 1, 1) := by decide +kernel
theorem dX8_drawSeen_2 : decode cX8_drawSeen 2 = .ok (.iload_n 1, 1) := by decide +kernel
theorem dX8_drawSeen_3 : decode cX8_drawSeen 3 = .ok (.bipush 6, 2) := by decide +kernel
theorem dX8_drawSeen_5 : decode cX8_drawSeen 5 = .ok (.if_icmp .ge 26, 3) := by decide +kernel
theorem dX8_drawSeen_8 : decode cX8_drawSeen 8 = .ok (.aload_n 0, 1) := by decide +kernel
theorem dX8_drawSeen_9 : decode cX8_drawSeen 9 = .ok (.getfield 53, 3) := by decide +kernel
theorem dX8_drawSeen_12 : decode cX8_drawSeen 12 = .ok (.getfield 343, 3) := by decide +kernel
theorem dX8_drawSeen_15 : decode cX8_drawSeen 15 = .ok (.iload_n 1, 1) := by decide +kernel
theorem dX8_drawSeen_16 : decode cX8_drawSeen 16 = .ok (.aload_n 0, 1) := by decide +kernel
theorem dX8_drawSeen_17 : decode cX8_drawSeen 17 = .ok (.getfield 46, 3) := by decide +kernel
theorem dX8_drawSeen_20 : decode cX8_drawSeen 20 = .ok (.iload_n 1, 1) := by decide +kernel
theorem dX8_drawSeen_21 : decode cX8_drawSeen 21 = .ok (.invokevirtual 225, 3) := by decide +kernel
theorem dX8_drawSeen_24 : decode cX8_drawSeen 24 = .ok (.iastore, 1) := by decide +kernel
theorem dX8_drawSeen_25 : decode cX8_drawSeen 25 = .ok (.iinc 1 1, 3) := by decide +kernel
theorem dX8_drawSeen_28 : decode cX8_drawSeen 28 = .ok (.goto (-26), 3) := by decide +kernel
theorem dX8_drawSeen_31 : decode cX8_drawSeen 31 = .ok (.aload_n 0, 1) := by decide +kernel
theorem dX8_drawSeen_32 : decode cX8_drawSeen 32 = .ok (.getfield 53, 3) := by decide +kernel
theorem dX8_drawSeen_35 : decode cX8_drawSeen 35 = .ok (.invokevirtual 347, 3) := by decide +kernel
theorem dX8_drawSeen_38 : decode cX8_drawSeen 38 = .ok (.return_, 1) := by decide +kernel
theorem dX8_found_0 : decode cX8_found 0 = .ok (.aload_n 0, 1) := by decide +kernel
theorem dX8_found_1 : decode cX8_found 1 = .ok (.iload_n 1, 1) := by decide +kernel
theorem dX8_found_2 : decode cX8_found 2 = .ok (.putfield 70, 3) := by decide +kernel
theorem dX8_found_5 : decode cX8_found 5 = .ok (.bipush (-10), 2) := by decide +kernel
theorem dX8_found_7 : decode cX8_found 7 = .ok (.iload_n 1, 1) := by decide +kernel
theorem dX8_found_8 : decode cX8_found 8 = .ok (.isub, 1) := by decide +kernel
theorem dX8_found_9 : decode cX8_found 9 = .ok (.ireturn, 1) := by decide +kernel
set_option maxRecDepth 20000 in
theorem ggX8_isYear_X8_isBelow : GoodIn wsX8_isYear wsX8_isBelow := goodIn_r _ [6] (by decide +kernel) (by decide +kernel)
set_option maxRecDepth 20000 in
theorem gX8_isYear_X8_isBelow : GoodIn wsX8_isYear (va_wsS RX8 79 yX8_isBelow wsX8_isBelow) := goodIn_app (goodIn_of _ (by decide +kernel)) ggX8_isYear_X8_isBelow
theorem dX8_isYear_0 : decode cX8_isYear 0 = .ok (.iload_n 1, 1) := by decide +kernel
theorem dX8_isYear_1 : decode cX8_isYear 1 = .ok (.aload_n 0, 1) := by decide +kernel
theorem dX8_isYear_2 : decode cX8_isYear 2 = .ok (.getfield 19, 3) := by decide +kernel
theorem dX8_isYear_5 : decode cX8_isYear 5 = .ok (.getfield 261, 3) := by decide +kernel
theorem dX8_isYear_8 : decode cX8_isYear 8 = .ok (.invokestatic 79, 3) := by decide +kernel
theorem dX8_isYear_11 : decode cX8_isYear 11 = .ok (.ireturn, 1) := by decide +kernel
set_option maxRecDepth 20000 in
theorem ggX8_isSpan_X8_isBelow : GoodIn wsX8_isSpan wsX8_isBelow := goodIn_r _ [6] (by decide +kernel) (by decide +kernel)
set_option maxRecDepth 20000 in
theorem gX8_isSpan_X8_isBelow : GoodIn wsX8_isSpan (va_wsS RX8 79 yX8_isBelow wsX8_isBelow) := goodIn_app (goodIn_of _ (by decide +kernel)) ggX8_isSpan_X8_isBelow
theorem dX8_isSpan_0 : decode cX8_isSpan 0 = .ok (.iload_n 1, 1) := by decide +kernel
theorem dX8_isSpan_1 : decode cX8_isSpan 1 = .ok (.aload_n 0, 1) := by decide +kernel
theorem dX8_isSpan_2 : decode cX8_isSpan 2 = .ok (.getfield 19, 3) := by decide +kernel
theorem dX8_isSpan_5 : decode cX8_isSpan 5 = .ok (.getfield 261, 3) := by decide +kernel
theorem dX8_isSpan_8 : decode cX8_isSpan 8 = .ok (.iconst 1, 1) := by decide +kernel
theorem dX8_isSpan_9 : decode cX8_isSpan 9 = .ok (.iadd, 1) := by decide +kernel
theorem dX8_isSpan_10 : decode cX8_isSpan 10 = .ok (.invokestatic 79, 3) := by decide +kernel
theorem dX8_isSpan_13 : decode cX8_isSpan 13 = .ok (.ireturn, 1) := by decide +kernel
set_option maxRecDepth 20000 in
theorem ggX8_isShip_X8_isBelow : GoodIn wsX8_isShip wsX8_isBelow := goodIn_r _ [4] (by decide +kernel) (by decide +kernel)
set_option maxRecDepth 20000 in
theorem gX8_isShip_X8_isBelow : GoodIn wsX8_isShip (va_wsS RX8 79 yX8_isBelow wsX8_isBelow) := goodIn_app (goodIn_of _ (by decide +kernel)) ggX8_isShip_X8_isBelow
theorem dX8_isShip_0 : decode cX8_isShip 0 = .ok (.iload_n 0, 1) := by decide +kernel
theorem dX8_isShip_1 : decode cX8_isShip 1 = .ok (.bipush 6, 2) := by decide +kernel
theorem dX8_isShip_3 : decode cX8_isShip 3 = .ok (.invokestatic 79, 3) := by decide +kernel
theorem dX8_isShip_6 : decode cX8_isShip 6 = .ok (.ireturn, 1) := by decide +kernel
theorem dX8_isBelow_0 : decode cX8_isBelow 0 = .ok (.iload_n 0, 1) := by decide +kernel
theorem dX8_isBelow_1 : decode cX8_isBelow 1 = .ok (.ifCond .lt 12, 3) := by decide +kernel
theorem dX8_isBelow_4 : decode cX8_isBelow 4 = .ok (.iload_n 0, 1) := by decide +kernel
theorem dX8_isBelow_5 : decode cX8_isBelow 5 = .ok (.iload_n 1, 1) := by decide +kernel
theorem dX8_isBelow_6 : decode cX8_isBelow 6 = .ok (.if_icmp .ge 7, 3) := by decide +kernel
theorem dX8_isBelow_9 : decode cX8_isBelow 9 = .ok (.iconst 1, 1) := by decide +kernel
theorem dX8_isBelow_10 : decode cX8_isBelow 10 = .ok (.goto 4, 3) := by decide +kernel
theorem dX8_isBelow_13 : decode cX8_isBelow 13 = .ok (.iconst 0, 1) := by decide +kernel
theorem dX8_isBelow_14 : decode cX8_isBelow 14 = .ok (.ireturn, 1) := by decide +kernel
theorem dX8_isTrait_0 : decode cX8_isTrait 0 = .ok (.iload_n 1, 1) := by decide +kernel
theorem dX8_isTrait_1 : decode cX8_isTrait 1 = .ok (.iload_n 0, 1) := by decide +kernel
theorem dX8_isTrait_2 : decode cX8_isTrait 2 = .ok (.ifCond .ne 7, 3) := by decide +kernel
theorem dX8_isTrait_5 : decode cX8_isTrait 5 = .ok (.iconst 1, 1) := by decide +kernel
theorem dX8_isTrait_6 : decode cX8_isTrait 6 = .ok (.goto 4, 3) := by decide +kernel
theorem dX8_isTrait_9 : decode cX8_isTrait 9 = .ok (.iconst 0, 1) := by decide +kernel
theorem dX8_isTrait_10 : decode cX8_isTrait 10 = .ok (.if_icmp .lt 13, 3) := by decide +kernel
theorem dX8_isTrait_13 : decode cX8_isTrait 13 = .ok (.iload_n 1, 1) := by decide +kernel
theorem dX8_isTrait_14 : decode cX8_isTrait 14 = .ok (.bipush 9, 2) := by decide +kernel
theorem dX8_isTrait_16 : decode cX8_isTrait 16 = .ok (.if_icmp .gt 7, 3) := by decide +kernel
theorem dX8_isTrait_19 : decode cX8_isTrait 19 = .ok (.iconst 1, 1) := by decide +kernel
theorem dX8_isTrait_20 : decode cX8_isTrait 20 = .ok (.goto 4, 3) := by decide +kernel
theorem dX8_isTrait_23 : decode cX8_isTrait 23 = .ok (.iconst 0, 1) := by decide +kernel
theorem dX8_isTrait_24 : decode cX8_isTrait 24 = .ok (.ireturn, 1) := by decide +kernel
theorem dX8_refusal_0 : decode cX8_refusal 0 = .ok (.ldc2_w 350, 3) := by decide +kernel
theorem dX8_refusal_3 : decode cX8_refusal 3 = .ok (.iload_n 0, 1) := by decide +kernel
theorem dX8_refusal_4 : decode cX8_refusal 4 = .ok (.i2l, 1) := by decide +kernel
theorem dX8_refusal_5 : decode cX8_refusal 5 = .ok (.lsub, 1) := by decide +kernel
theorem dX8_refusal_6 : decode cX8_refusal 6 = .ok (.lreturn, 1) := by decide +kernel
set_option maxRecDepth 20000 in
theorem ggX8_nameAt_X8_isIn : GoodIn wsX8_nameAt wsX8_isIn := goodIn_r _ [4] (by decide +kernel) (by decide +kernel)
set_option maxRecDepth 20000 in
theorem gX8_nameAt_X8_isIn : GoodIn wsX8_nameAt (va_wsS RX8 352 yX8_isIn wsX8_isIn) := goodIn_app (goodIn_of _ (by decide +kernel)) ggX8_nameAt_X8_isIn
theorem dX8_nameAt_0 : decode cX8_nameAt 0 = .ok (.iconst 0, 1) := by decide +kernel
theorem dX8_nameAt_1 : decode cX8_nameAt 1 = .ok (.istore_n 2, 1) := by decide +kernel
theorem dX8_nameAt_2 : decode cX8_nameAt 2 = .ok (.iconst 0, 1) := by decide +kernel
theorem dX8_nameAt_3 : decode cX8_nameAt 3 = .ok (.istore_n 3, 1) := by decide +kernel
theorem dX8_nameAt_4 : decode cX8_nameAt 4 = .ok (.iload_n 3, 1) := by decide +kernel
theorem dX8_nameAt_5 : decode cX8_nameAt 5 = .ok (.bipush 6, 2) := by decide +kernel
theorem dX8_nameAt_7 : decode cX8_nameAt 7 = .ok (.if_icmp .ge 27, 3) := by decide +kernel
theorem dX8_nameAt_10 : decode cX8_nameAt 10 = .ok (.iload_n 0, 1) := by decide +kernel
theorem dX8_nameAt_11 : decode cX8_nameAt 11 = .ok (.iload_n 3, 1) := by decide +kernel
theorem dX8_nameAt_12 : decode cX8_nameAt 12 = .ok (.invokestatic 352, 3) := by decide +kernel
theorem dX8_nameAt_15 : decode cX8_nameAt 15 = .ok (.ifCond .eq 13, 3) := by decide +kernel
theorem dX8_nameAt_18 : decode cX8_nameAt 18 = .ok (.iload_n 2, 1) := by decide +kernel
theorem dX8_nameAt_19 : decode cX8_nameAt 19 = .ok (.iload_n 1, 1) := by decide +kernel
theorem dX8_nameAt_20 : decode cX8_nameAt 20 = .ok (.if_icmp .ne 5, 3) := by decide +kernel
theorem dX8_nameAt_23 : decode cX8_nameAt 23 = .ok (.iload_n 3, 1) := by decide +kernel
theorem dX8_nameAt_24 : decode cX8_nameAt 24 = .ok (.ireturn, 1) := by decide +kernel
theorem dX8_nameAt_25 : decode cX8_nameAt 25 = .ok (.iinc 2 1, 3) := by decide +kernel
theorem dX8_nameAt_28 : decode cX8_nameAt 28 = .ok (.iinc 3 1, 3) := by decide +kernel
theorem dX8_nameAt_31 : decode cX8_nameAt 31 = .ok (.goto (-27), 3) := by decide +kernel
theorem dX8_nameAt_34 : decode cX8_nameAt 34 = .ok (.iconst (-1), 1) := by decide +kernel
theorem dX8_nameAt_35 : decode cX8_nameAt 35 = .ok (.ireturn, 1) := by decide +kernel
theorem dX8_isIn_0 : decode cX8_isIn 0 = .ok (.iload_n 0, 1) := by decide +kernel
theorem dX8_isIn_1 : decode cX8_isIn 1 = .ok (.iload_n 1, 1) := by decide +kernel
theorem dX8_isIn_2 : decode cX8_isIn 2 = .ok (.ishr, 1) := by decide +kernel
theorem dX8_isIn_3 : decode cX8_isIn 3 = .ok (.iconst 1, 1) := by decide +kernel
theorem dX8_isIn_4 : decode cX8_isIn 4 = .ok (.iand, 1) := by decide +kernel
theorem dX8_isIn_5 : decode cX8_isIn 5 = .ok (.iconst 1, 1) := by decide +kernel
theorem dX8_isIn_6 : decode cX8_isIn 6 = .ok (.if_icmp .ne 7, 3) := by decide +kernel
theorem dX8_isIn_9 : decode cX8_isIn 9 = .ok (.iconst 1, 1) := by decide +kernel
theorem dX8_isIn_10 : decode cX8_isIn 10 = .ok (.goto 4, 3) := by decide +kernel
theorem dX8_isIn_13 : decode cX8_isIn 13 = .ok (.iconst 0, 1) := by decide +kernel
theorem dX8_isIn_14 : decode cX8_isIn 14 = .ok (.ireturn, 1) := by decide +kernel
set_option maxRecDepth 20000 in
theorem ggX8_fraction_X8_commonDivisor : GoodIn wsX8_fraction wsX8_commonDivisor := goodIn_r _ [4] (by decide +kernel) (by decide +kernel)
set_option maxRecDepth 20000 in
theorem gX8_fraction_X8_commonDivisor : GoodIn wsX8_fraction (va_wsS RX8 355 yX8_commonDivisor wsX8_commonDivisor) := goodIn_app (goodIn_of _ (by decide +kernel)) ggX8_fraction_X8_commonDivisor
theorem dX8_fraction_0 : decode cX8_fraction 0 = .ok (.iload_n 0, 1) := by decide +kernel
theorem dX8_fraction_1 : decode cX8_fraction 1 = .ok (.iload_n 1, 1) := by decide +kernel
theorem dX8_fraction_2 : decode cX8_fraction 2 = .ok (.invokestatic 355, 3) := by decide +kernel
theorem dX8_fraction_5 : decode cX8_fraction 5 = .ok (.istore_n 3, 1) := by decide +kernel
theorem dX8_fraction_6 : decode cX8_fraction 6 = .ok (.iload_n 2, 1) := by decide +kernel
theorem dX8_fraction_7 : decode cX8_fraction 7 = .ok (.ifCond .ne 7, 3) := by decide +kernel
theorem dX8_fraction_10 : decode cX8_fraction 10 = .ok (.iload_n 0, 1) := by decide +kernel
theorem dX8_fraction_11 : decode cX8_fraction 11 = .ok (.goto 4, 3) := by decide +kernel
theorem dX8_fraction_14 : decode cX8_fraction 14 = .ok (.iload_n 1, 1) := by decide +kernel
theorem dX8_fraction_15 : decode cX8_fraction 15 = .ok (.iload_n 3, 1) := by decide +kernel
theorem dX8_fraction_16 : decode cX8_fraction 16 = .ok (.idiv, 1) := by decide +kernel
theorem dX8_fraction_17 : decode cX8_fraction 17 = .ok (.ireturn, 1) := by decide +kernel
theorem dX8_commonDivisor_0 : decode cX8_commonDivisor 0 = .ok (.iload_n 1, 1) := by decide +kernel
theorem dX8_commonDivisor_1 : decode cX8_commonDivisor 1 = .ok (.istore_n 2, 1) := by decide +kernel
theorem dX8_commonDivisor_2 : decode cX8_commonDivisor 2 = .ok (.iload_n 2, 1) := by decide +kernel
theorem dX8_commonDivisor_3 : decode cX8_commonDivisor 3 = .ok (.iconst 1, 1) := by decide +kernel
theorem dX8_commonDivisor_4 : decode cX8_commonDivisor 4 = .ok (.if_icmp .le 23, 3) := by decide +kernel
theorem dX8_commonDivisor_7 : decode cX8_commonDivisor 7 = .ok (.iload_n 0, 1) := by decide +kernel
theorem dX8_commonDivisor_8 : decode cX8_commonDivisor 8 = .ok (.iload_n 2, 1) := by decide +kernel
theorem dX8_commonDivisor_9 : decode cX8_commonDivisor 9 = .ok (.irem, 1) := by decide +kernel
theorem dX8_commonDivisor_10 : decode cX8_commonDivisor 10 = .ok (.ifCond .ne 11, 3) := by decide +kernel
theorem dX8_commonDivisor_13 : decode cX8_commonDivisor 13 = .ok (.iload_n 1, 1) := by decide +kernel
theorem dX8_commonDivisor_14 : decode cX8_commonDivisor 14 = .ok (.iload_n 2, 1) := by decide +kernel
theorem dX8_commonDivisor_15 : decode cX8_commonDivisor 15 = .ok (.irem, 1) := by decide +kernel
theorem dX8_commonDivisor_16 : decode cX8_commonDivisor 16 = .ok (.ifCond .ne 5, 3) := by decide +kernel
theorem dX8_commonDivisor_19 : decode cX8_commonDivisor 19 = .ok (.iload_n 2, 1) := by decide +kernel
theorem dX8_commonDivisor_20 : decode cX8_commonDivisor 20 = .ok (.ireturn, 1) := by decide +kernel
theorem dX8_commonDivisor_21 : decode cX8_commonDivisor 21 = .ok (.iinc 2 (-1), 3) := by decide +kernel
theorem dX8_commonDivisor_24 : decode cX8_commonDivisor 24 = .ok (.goto (-22), 3) := by decide +kernel
theorem dX8_commonDivisor_27 : decode cX8_commonDivisor 27 = .ok (.iconst 1, 1) := by decide +kernel
theorem dX8_commonDivisor_28 : decode cX8_commonDivisor 28 = .ok (.ireturn, 1) := by decide +kernel
