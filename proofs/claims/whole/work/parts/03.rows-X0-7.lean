theorem dX0_init_0 : decode cX0_init 0 = .ok (.aload_n 0, 1) := by decide +kernel
theorem dX0_init_1 : decode cX0_init 1 = .ok (.invokespecial 3, 3) := by decide +kernel
theorem dX0_init_4 : decode cX0_init 4 = .ok (.aload_n 0, 1) := by decide +kernel
theorem dX0_init_5 : decode cX0_init 5 = .ok (.bipush 6, 2) := by decide +kernel
theorem dX0_init_7 : decode cX0_init 7 = .ok (.bipush 6, 2) := by decide +kernel
theorem dX0_init_9 : decode cX0_init 9 = .ok (.multianewarray 9 2, 4) := by decide +kernel
theorem dX0_init_13 : decode cX0_init 13 = .ok (.putfield 11, 3) := by decide +kernel
theorem dX0_init_16 : decode cX0_init 16 = .ok (.aload_n 0, 1) := by decide +kernel
theorem dX0_init_17 : decode cX0_init 17 = .ok (.bipush 64, 2) := by decide +kernel
theorem dX0_init_19 : decode cX0_init 19 = .ok (.newarray .int, 2) := by decide +kernel
theorem dX0_init_21 : decode cX0_init 21 = .ok (.putfield 16, 3) := by decide +kernel
theorem dX0_init_24 : decode cX0_init 24 = .ok (.aload_n 0, 1) := by decide +kernel
theorem dX0_init_25 : decode cX0_init 25 = .ok (.aload_n 1, 1) := by decide +kernel
theorem dX0_init_26 : decode cX0_init 26 = .ok (.putfield 20, 3) := by decide +kernel
theorem dX0_init_29 : decode cX0_init 29 = .ok (.return_, 1) := by decide +kernel
set_option maxRecDepth 20000 in
theorem ggX0_weigh_X4_earning : GoodIn wsX0_weigh wsX4_earning := goodIn_r _ [8, 9, 10, 11, 12, 7, 13, 14, 41, 42] (by decide +kernel) (by decide +kernel)
set_option maxRecDepth 20000 in
theorem gX0_weigh_X4_earning : GoodIn wsX0_weigh (wsV RX0 24 RX4 yX4_earning wsX4_earning) := goodIn_app (goodIn_of _ (by decide +kernel)) ggX0_weigh_X4_earning
set_option maxRecDepth 20000 in
theorem ggX0_weigh_X0_mostFrom : GoodIn wsX0_weigh wsX0_mostFrom := goodIn_r _ [19, 20, 21, 22, 23, 24, 25, 26, 27, 28, 29, 30, 31, 32, 33, 34, 35, 36, 18, 37, 1, 3, 38, 39, 40] (by decide +kernel) (by decide +kernel)
set_option maxRecDepth 20000 in
theorem gX0_weigh_X0_mostFrom : GoodIn wsX0_weigh (wsV RX0 30 RX0 yX0_mostFrom wsX0_mostFrom) := goodIn_app (goodIn_of _ (by decide +kernel)) ggX0_weigh_X0_mostFrom
theorem dX0_weigh_0 : decode cX0_weigh 0 = .ok (.iconst 0, 1) := by decide +kernel
theorem dX0_weigh_1 : decode cX0_weigh 1 = .ok (.istore_n 1, 1) := by decide +kernel
theorem dX0_weigh_2 : decode cX0_weigh 2 = .ok (.iload_n 1, 1) := by decide +kernel
theorem dX0_weigh_3 : decode cX0_weigh 3 = .ok (.bipush 6, 2) := by decide +kernel
theorem dX0_weigh_5 : decode cX0_weigh 5 = .ok (.if_icmp .ge 40, 3) := by decide +kernel
theorem dX0_weigh_8 : decode cX0_weigh 8 = .ok (.iconst 0, 1) := by decide +kernel
theorem dX0_weigh_9 : decode cX0_weigh 9 = .ok (.istore_n 2, 1) := by decide +kernel
theorem dX0_weigh_10 : decode cX0_weigh 10 = .ok (.iload_n 2, 1) := by decide +kernel
theorem dX0_weigh_11 : decode cX0_weigh 11 = .ok (.bipush 6, 2) := by decide +kernel
theorem dX0_weigh_13 : decode cX0_weigh 13 = .ok (.if_icmp .ge 26, 3) := by decide +kernel
theorem dX0_weigh_16 : decode cX0_weigh 16 = .ok (.aload_n 0, 1) := by decide +kernel
theorem dX0_weigh_17 : decode cX0_weigh 17 = .ok (.getfield 11, 3) := by decide +kernel
theorem dX0_weigh_20 : decode cX0_weigh 20 = .ok (.iload_n 1, 1) := by decide +kernel
theorem dX0_weigh_21 : decode cX0_weigh 21 = .ok (.aaload, 1) := by decide +kernel
theorem dX0_weigh_22 : decode cX0_weigh 22 = .ok (.iload_n 2, 1) := by decide +kernel
theorem dX0_weigh_23 : decode cX0_weigh 23 = .ok (.aload_n 0, 1) := by decide +kernel
theorem dX0_weigh_24 : decode cX0_weigh 24 = .ok (.getfield 20, 3) := by decide +kernel
theorem dX0_weigh_27 : decode cX0_weigh 27 = .ok (.iload_n 1, 1) := by decide +kernel
theorem dX0_weigh_28 : decode cX0_weigh 28 = .ok (.iload_n 2, 1) := by decide +kernel
theorem dX0_weigh_29 : decode cX0_weigh 29 = .ok (.invokevirtual 24, 3) := by decide +kernel
theorem dX0_weigh_32 : decode cX0_weigh 32 = .ok (.iastore, 1) := by decide +kernel
theorem dX0_weigh_33 : decode cX0_weigh 33 = .ok (.iinc 2 1, 3) := by decide +kernel
theorem dX0_weigh_36 : decode cX0_weigh 36 = .ok (.goto (-26), 3) := by decide +kernel
theorem dX0_weigh_39 : decode cX0_weigh 39 = .ok (.iinc 1 1, 3) := by decide +kernel
theorem dX0_weigh_42 : decode cX0_weigh 42 = .ok (.goto (-40), 3) := by decide +kernel
theorem dX0_weigh_45 : decode cX0_weigh 45 = .ok (.aload_n 0, 1) := by decide +kernel
theorem dX0_weigh_46 : decode cX0_weigh 46 = .ok (.getfield 16, 3) := by decide +kernel
theorem dX0_weigh_49 : decode cX0_weigh 49 = .ok (.bipush 63, 2) := by decide +kernel
theorem dX0_weigh_51 : decode cX0_weigh 51 = .ok (.iconst 0, 1) := by decide +kernel
theorem dX0_weigh_52 : decode cX0_weigh 52 = .ok (.iastore, 1) := by decide +kernel
theorem dX0_weigh_53 : decode cX0_weigh 53 = .ok (.bipush 62, 2) := by decide +kernel
theorem dX0_weigh_55 : decode cX0_weigh 55 = .ok (.istore_n 1, 1) := by decide +kernel
theorem dX0_weigh_56 : decode cX0_weigh 56 = .ok (.iload_n 1, 1) := by decide +kernel
theorem dX0_weigh_57 : decode cX0_weigh 57 = .ok (.ifCond .lt 20, 3) := by decide +kernel
theorem dX0_weigh_60 : decode cX0_weigh 60 = .ok (.aload_n 0, 1) := by decide +kernel
theorem dX0_weigh_61 : decode cX0_weigh 61 = .ok (.getfield 16, 3) := by decide +kernel
theorem dX0_weigh_64 : decode cX0_weigh 64 = .ok (.iload_n 1, 1) := by decide +kernel
theorem dX0_weigh_65 : decode cX0_weigh 65 = .ok (.aload_n 0, 1) := by decide +kernel
theorem dX0_weigh_66 : decode cX0_weigh 66 = .ok (.iload_n 1, 1) := by decide +kernel
theorem dX0_weigh_67 : decode cX0_weigh 67 = .ok (.invokevirtual 30, 3) := by decide +kernel
theorem dX0_weigh_70 : decode cX0_weigh 70 = .ok (.iastore, 1) := by decide +kernel
theorem dX0_weigh_71 : decode cX0_weigh 71 = .ok (.iinc 1 (-1), 3) := by decide +kernel
theorem dX0_weigh_74 : decode cX0_weigh 74 = .ok (.goto (-18), 3) := by decide +kernel
theorem dX0_weigh_77 : decode cX0_weigh 77 = .ok (.return_, 1) := by decide +kernel
theorem dX0_sum_0 : decode cX0_sum 0 = .ok (.aload_n 0, 1) := by decide +kernel
theorem dX0_sum_1 : decode cX0_sum 1 = .ok (.getfield 16, 3) := by decide +kernel
theorem dX0_sum_4 : decode cX0_sum 4 = .ok (.iconst 0, 1) := by decide +kernel
theorem dX0_sum_5 : decode cX0_sum 5 = .ok (.iaload, 1) := by decide +kernel
theorem dX0_sum_6 : decode cX0_sum 6 = .ok (.ireturn, 1) := by decide +kernel
set_option maxRecDepth 20000 in
theorem ggX0_nameOf_X0_leastThatEarnsMost : GoodIn wsX0_nameOf wsX0_leastThatEarnsMost := goodIn_r _ [5, 6, 7, 8, 9, 10, 11, 12, 4, 13, 14, 15, 16, 17] (by decide +kernel) (by decide +kernel)
set_option maxRecDepth 20000 in
theorem gX0_nameOf_X0_leastThatEarnsMost : GoodIn wsX0_nameOf (wsV RX0 34 RX0 yX0_leastThatEarnsMost wsX0_leastThatEarnsMost) := goodIn_app (goodIn_of _ (by decide +kernel)) ggX0_nameOf_X0_leastThatEarnsMost
theorem dX0_nameOf_0 : decode cX0_nameOf 0 = .ok (.iconst 0, 1) := by decide +kernel
theorem dX0_nameOf_1 : decode cX0_nameOf 1 = .ok (.istore_n 2, 1) := by decide +kernel
theorem dX0_nameOf_2 : decode cX0_nameOf 2 = .ok (.iconst (-1), 1) := by decide +kernel
theorem dX0_nameOf_3 : decode cX0_nameOf 3 = .ok (.istore_n 3, 1) := by decide +kernel
theorem dX0_nameOf_4 : decode cX0_nameOf 4 = .ok (.iconst 0, 1) := by decide +kernel
theorem dX0_nameOf_5 : decode cX0_nameOf 5 = .ok (.istore 4, 2) := by decide +kernel
theorem dX0_nameOf_7 : decode cX0_nameOf 7 = .ok (.iload 4, 2) := by decide +kernel
theorem dX0_nameOf_9 : decode cX0_nameOf 9 = .ok (.iload_n 1, 1) := by decide +kernel
theorem dX0_nameOf_10 : decode cX0_nameOf 10 = .ok (.if_icmp .gt 30, 3) := by decide +kernel
theorem dX0_nameOf_13 : decode cX0_nameOf 13 = .ok (.aload_n 0, 1) := by decide +kernel
theorem dX0_nameOf_14 : decode cX0_nameOf 14 = .ok (.iload_n 2, 1) := by decide +kernel
theorem dX0_nameOf_15 : decode cX0_nameOf 15 = .ok (.iload 4, 2) := by decide +kernel
theorem dX0_nameOf_17 : decode cX0_nameOf 17 = .ok (.invokevirtual 34, 3) := by decide +kernel
theorem dX0_nameOf_20 : decode cX0_nameOf 20 = .ok (.istore_n 3, 1) := by decide +kernel
theorem dX0_nameOf_21 : decode cX0_nameOf 21 = .ok (.iload_n 3, 1) := by decide +kernel
theorem dX0_nameOf_22 : decode cX0_nameOf 22 = .ok (.iconst (-1), 1) := by decide +kernel
theorem dX0_nameOf_23 : decode cX0_nameOf 23 = .ok (.if_icmp .ne 5, 3) := by decide +kernel
theorem dX0_nameOf_26 : decode cX0_nameOf 26 = .ok (.iconst (-1), 1) := by decide +kernel
theorem dX0_nameOf_27 : decode cX0_nameOf 27 = .ok (.ireturn, 1) := by decide +kernel
theorem dX0_nameOf_28 : decode cX0_nameOf 28 = .ok (.iload_n 2, 1) := by decide +kernel
theorem dX0_nameOf_29 : decode cX0_nameOf 29 = .ok (.iconst 1, 1) := by decide +kernel
theorem dX0_nameOf_30 : decode cX0_nameOf 30 = .ok (.iload_n 3, 1) := by decide +kernel
theorem dX0_nameOf_31 : decode cX0_nameOf 31 = .ok (.ishl, 1) := by decide +kernel
theorem dX0_nameOf_32 : decode cX0_nameOf 32 = .ok (.ior, 1) := by decide +kernel
theorem dX0_nameOf_33 : decode cX0_nameOf 33 = .ok (.istore_n 2, 1) := by decide +kernel
theorem dX0_nameOf_34 : decode cX0_nameOf 34 = .ok (.iinc 4 1, 3) := by decide +kernel
theorem dX0_nameOf_37 : decode cX0_nameOf 37 = .ok (.goto (-30), 3) := by decide +kernel
theorem dX0_nameOf_40 : decode cX0_nameOf 40 = .ok (.iload_n 3, 1) := by decide +kernel
theorem dX0_nameOf_41 : decode cX0_nameOf 41 = .ok (.ireturn, 1) := by decide +kernel
set_option maxRecDepth 20000 in
theorem ggX0_mostFrom_J6_bitCount_0f7a4 : GoodIn wsX0_mostFrom wsJ6_bitCount_0f7a4 := goodIn_r _ [8, 9, 10, 11] (by decide +kernel) (by decide +kernel)
set_option maxRecDepth 20000 in
theorem gX0_mostFrom_J6_bitCount_0f7a4 : GoodIn wsX0_mostFrom (va_wsS RX0 37 yJ6_bitCount_0f7a4 wsJ6_bitCount_0f7a4) := goodIn_app (goodIn_of _ (by decide +kernel)) ggX0_mostFrom_J6_bitCount_0f7a4
set_option maxRecDepth 20000 in
theorem ggX0_mostFrom_X8_isIn : GoodIn wsX0_mostFrom wsX8_isIn := goodIn_r _ [14] (by decide +kernel) (by decide +kernel)
set_option maxRecDepth 20000 in
theorem gX0_mostFrom_X8_isIn_n42 : GoodIn wsX0_mostFrom (wsX8_isIn) := ggX0_mostFrom_X8_isIn
set_option maxRecDepth 20000 in
theorem ggX0_mostFrom_X0_mostBy : GoodIn wsX0_mostFrom wsX0_mostBy := goodIn_r _ [19, 20, 21, 22, 23, 24] (by decide +kernel) (by decide +kernel)
set_option maxRecDepth 20000 in
theorem gX0_mostFrom_X0_mostBy : GoodIn wsX0_mostFrom (wsV RX0 46 RX0 yX0_mostBy wsX0_mostBy) := goodIn_app (goodIn_of _ (by decide +kernel)) ggX0_mostFrom_X0_mostBy
theorem dX0_mostFrom_0 : decode cX0_mostFrom 0 = .ok (.iload_n 1, 1) := by decide +kernel
theorem dX0_mostFrom_1 : decode cX0_mostFrom 1 = .ok (.invokestatic 37, 3) := by decide +kernel
theorem dX0_mostFrom_4 : decode cX0_mostFrom 4 = .ok (.istore_n 2, 1) := by decide +kernel
theorem dX0_mostFrom_5 : decode cX0_mostFrom 5 = .ok (.iconst 0, 1) := by decide +kernel
theorem dX0_mostFrom_6 : decode cX0_mostFrom 6 = .ok (.istore_n 3, 1) := by decide +kernel
theorem dX0_mostFrom_7 : decode cX0_mostFrom 7 = .ok (.iconst 0, 1) := by decide +kernel
theorem dX0_mostFrom_8 : decode cX0_mostFrom 8 = .ok (.istore 4, 2) := by decide +kernel
theorem dX0_mostFrom_10 : decode cX0_mostFrom 10 = .ok (.iload 4, 2) := by decide +kernel
theorem dX0_mostFrom_12 : decode cX0_mostFrom 12 = .ok (.bipush 6, 2) := by decide +kernel
theorem dX0_mostFrom_14 : decode cX0_mostFrom 14 = .ok (.if_icmp .ge 31, 3) := by decide +kernel
theorem dX0_mostFrom_17 : decode cX0_mostFrom 17 = .ok (.iload_n 1, 1) := by decide +kernel
theorem dX0_mostFrom_18 : decode cX0_mostFrom 18 = .ok (.iload 4, 2) := by decide +kernel
theorem dX0_mostFrom_20 : decode cX0_mostFrom 20 = .ok (.invokestatic 42, 3) := by decide +kernel
theorem dX0_mostFrom_23 : decode cX0_mostFrom 23 = .ok (.ifCond .ne 16, 3) := by decide +kernel
theorem dX0_mostFrom_26 : decode cX0_mostFrom 26 = .ok (.iload_n 3, 1) := by decide +kernel
theorem dX0_mostFrom_27 : decode cX0_mostFrom 27 = .ok (.aload_n 0, 1) := by decide +kernel
theorem dX0_mostFrom_28 : decode cX0_mostFrom 28 = .ok (.iload_n 1, 1) := by decide +kernel
theorem dX0_mostFrom_29 : decode cX0_mostFrom 29 = .ok (.iload_n 2, 1) := by decide +kernel
theorem dX0_mostFrom_30 : decode cX0_mostFrom 30 = .ok (.iload 4, 2) := by decide +kernel
theorem dX0_mostFrom_32 : decode cX0_mostFrom 32 = .ok (.invokevirtual 46, 3) := by decide +kernel
theorem dX0_mostFrom_35 : decode cX0_mostFrom 35 = .ok (.invokestatic 50, 3) := by decide +kernel
theorem dX0_mostFrom_38 : decode cX0_mostFrom 38 = .ok (.istore_n 3, 1) := by decide +kernel
theorem dX0_mostFrom_39 : decode cX0_mostFrom 39 = .ok (.iinc 4 1, 3) := by decide +kernel
theorem dX0_mostFrom_42 : decode cX0_mostFrom 42 = .ok (.goto (-32), 3) := by decide +kernel
theorem dX0_mostFrom_45 : decode cX0_mostFrom 45 = .ok (.iload_n 3, 1) := by decide +kernel
theorem dX0_mostFrom_46 : decode cX0_mostFrom 46 = .ok (.ireturn, 1) := by decide +kernel
set_option maxRecDepth 20000 in
theorem ggX0_leastThatEarnsMost_X8_isIn : GoodIn wsX0_leastThatEarnsMost wsX8_isIn := goodIn_r _ [4] (by decide +kernel) (by decide +kernel)
set_option maxRecDepth 20000 in
theorem gX0_leastThatEarnsMost_X8_isIn_n42 : GoodIn wsX0_leastThatEarnsMost (wsX8_isIn) := ggX0_leastThatEarnsMost_X8_isIn
set_option maxRecDepth 20000 in
theorem ggX0_leastThatEarnsMost_X0_mostBy : GoodIn wsX0_leastThatEarnsMost wsX0_mostBy := goodIn_r _ [9, 10, 1, 11, 12, 13] (by decide +kernel) (by decide +kernel)
set_option maxRecDepth 20000 in
theorem gX0_leastThatEarnsMost_X0_mostBy : GoodIn wsX0_leastThatEarnsMost (wsV RX0 46 RX0 yX0_mostBy wsX0_mostBy) := goodIn_app (goodIn_of _ (by decide +kernel)) ggX0_leastThatEarnsMost_X0_mostBy
theorem dX0_leastThatEarnsMost_0 : decode cX0_leastThatEarnsMost 0 = .ok (.iconst 0, 1) := by decide +kernel
theorem dX0_leastThatEarnsMost_1 : decode cX0_leastThatEarnsMost 1 = .ok (.istore_n 3, 1) := by decide +kernel
theorem dX0_leastThatEarnsMost_2 : decode cX0_leastThatEarnsMost 2 = .ok (.iload_n 3, 1) := by decide +kernel
theorem dX0_leastThatEarnsMost_3 : decode cX0_leastThatEarnsMost 3 = .ok (.bipush 6, 2) := by decide +kernel
theorem dX0_leastThatEarnsMost_5 : decode cX0_leastThatEarnsMost 5 = .ok (.if_icmp .ge 35, 3) := by decide +kernel
theorem dX0_leastThatEarnsMost_8 : decode cX0_leastThatEarnsMost 8 = .ok (.iload_n 1, 1) := by decide +kernel
theorem dX0_leastThatEarnsMost_9 : decode cX0_leastThatEarnsMost 9 = .ok (.iload_n 3, 1) := by decide +kernel
theorem dX0_leastThatEarnsMost_10 : decode cX0_leastThatEarnsMost 10 = .ok (.invokestatic 42, 3) := by decide +kernel
theorem dX0_leastThatEarnsMost_13 : decode cX0_leastThatEarnsMost 13 = .ok (.ifCond .ne 21, 3) := by decide +kernel
theorem dX0_leastThatEarnsMost_16 : decode cX0_leastThatEarnsMost 16 = .ok (.aload_n 0, 1) := by decide +kernel
theorem dX0_leastThatEarnsMost_17 : decode cX0_leastThatEarnsMost 17 = .ok (.iload_n 1, 1) := by decide +kernel
theorem dX0_leastThatEarnsMost_18 : decode cX0_leastThatEarnsMost 18 = .ok (.iload_n 2, 1) := by decide +kernel
theorem dX0_leastThatEarnsMost_19 : decode cX0_leastThatEarnsMost 19 = .ok (.iload_n 3, 1) := by decide +kernel
theorem dX0_leastThatEarnsMost_20 : decode cX0_leastThatEarnsMost 20 = .ok (.invokevirtual 46, 3) := by decide +kernel
theorem dX0_leastThatEarnsMost_23 : decode cX0_leastThatEarnsMost 23 = .ok (.aload_n 0, 1) := by decide +kernel
theorem dX0_leastThatEarnsMost_24 : decode cX0_leastThatEarnsMost 24 = .ok (.getfield 16, 3) := by decide +kernel
theorem dX0_leastThatEarnsMost_27 : decode cX0_leastThatEarnsMost 27 = .ok (.iload_n 1, 1) := by decide +kernel
theorem dX0_leastThatEarnsMost_28 : decode cX0_leastThatEarnsMost 28 = .ok (.iaload, 1) := by decide +kernel
theorem dX0_leastThatEarnsMost_29 : decode cX0_leastThatEarnsMost 29 = .ok (.if_icmp .ne 5, 3) := by decide +kernel
theorem dX0_leastThatEarnsMost_32 : decode cX0_leastThatEarnsMost 32 = .ok (.iload_n 3, 1) := by decide +kernel
theorem dX0_leastThatEarnsMost_33 : decode cX0_leastThatEarnsMost 33 = .ok (.ireturn, 1) := by decide +kernel
theorem dX0_leastThatEarnsMost_34 : decode cX0_leastThatEarnsMost 34 = .ok (.iinc 3 1, 3) := by decide +kernel
theorem dX0_leastThatEarnsMost_37 : decode cX0_leastThatEarnsMost 37 = .ok (.goto (-35), 3) := by decide +kernel
theorem dX0_leastThatEarnsMost_40 : decode cX0_leastThatEarnsMost 40 = .ok (.iconst (-1), 1) := by decide +kernel
theorem dX0_leastThatEarnsMost_41 : decode cX0_leastThatEarnsMost 41 = .ok (.ireturn, 1) := by decide +kernel
theorem dX0_mostBy_0 : decode cX0_mostBy 0 = .ok (.aload_n 0, 1) := by decide +kernel
theorem dX0_mostBy_1 : decode cX0_mostBy 1 = .ok (.getfield 11, 3) := by decide +kernel
theorem dX0_mostBy_4 : decode cX0_mostBy 4 = .ok (.iload_n 2, 1) := by decide +kernel
theorem dX0_mostBy_5 : decode cX0_mostBy 5 = .ok (.aaload, 1) := by decide +kernel
theorem dX0_mostBy_6 : decode cX0_mostBy 6 = .ok (.iload_n 3, 1) := by decide +kernel
theorem dX0_mostBy_7 : decode cX0_mostBy 7 = .ok (.iaload, 1) := by decide +kernel
theorem dX0_mostBy_8 : decode cX0_mostBy 8 = .ok (.aload_n 0, 1) := by decide +kernel
theorem dX0_mostBy_9 : decode cX0_mostBy 9 = .ok (.getfield 16, 3) := by decide +kernel
theorem dX0_mostBy_12 : decode cX0_mostBy 12 = .ok (.iload_n 1, 1) := by decide +kernel
theorem dX0_mostBy_13 : decode cX0_mostBy 13 = .ok (.iconst 1, 1) := by decide +kernel
theorem dX0_mostBy_14 : decode cX0_mostBy 14 = .ok (.iload_n 3, 1) := by decide +kernel
theorem dX0_mostBy_15 : decode cX0_mostBy 15 = .ok (.ishl, 1) := by decide +kernel
theorem dX0_mostBy_16 : decode cX0_mostBy 16 = .ok (.ior, 1) := by decide +kernel
theorem dX0_mostBy_17 : decode cX0_mostBy 17 = .ok (.iaload, 1) := by decide +kernel
theorem dX0_mostBy_18 : decode cX0_mostBy 18 = .ok (.iadd, 1) := by decide +kernel
theorem dX0_mostBy_19 : decode cX0_mostBy 19 = .ok (.ireturn, 1) := by decide +kernel
theorem dX1_init_0 : decode cX1_init 0 = .ok (.aload_n 0, 1) := by decide +kernel
theorem dX1_init_1 : decode cX1_init 1 = .ok (.invokespecial 3, 3) := by decide +kernel
theorem dX1_init_4 : decode cX1_init 4 = .ok (.aload_n 0, 1) := by decide +kernel
theorem dX1_init_5 : decode cX1_init 5 = .ok (.bipush 90, 2) := by decide +kernel
theorem dX1_init_7 : decode cX1_init 7 = .ok (.newarray .int, 2) := by decide +kernel
theorem dX1_init_9 : decode cX1_init 9 = .ok (.putfield 11, 3) := by decide +kernel
theorem dX1_init_12 : decode cX1_init 12 = .ok (.aload_n 0, 1) := by decide +kernel
theorem dX1_init_13 : decode cX1_init 13 = .ok (.iconst 0, 1) := by decide +kernel
theorem dX1_init_14 : decode cX1_init 14 = .ok (.putfield 15, 3) := by decide +kernel
theorem dX1_init_17 : decode cX1_init 17 = .ok (.aload_n 0, 1) := by decide +kernel
theorem dX1_init_18 : decode cX1_init 18 = .ok (.iconst 0, 1) := by decide +kernel
theorem dX1_init_19 : decode cX1_init 19 = .ok (.putfield 19, 3) := by decide +kernel
theorem dX1_init_22 : decode cX1_init 22 = .ok (.aload_n 0, 1) := by decide +kernel
theorem dX1_init_23 : decode cX1_init 23 = .ok (.iconst (-1), 1) := by decide +kernel
theorem dX1_init_24 : decode cX1_init 24 = .ok (.putfield 22, 3) := by decide +kernel
theorem dX1_init_27 : decode cX1_init 27 = .ok (.return_, 1) := by decide +kernel
theorem dX1_room_0 : decode cX1_room 0 = .ok (.bipush 90, 2) := by decide +kernel
theorem dX1_room_2 : decode cX1_room 2 = .ok (.aload_n 0, 1) := by decide +kernel
theorem dX1_room_3 : decode cX1_room 3 = .ok (.getfield 15, 3) := by decide +kernel
theorem dX1_room_6 : decode cX1_room 6 = .ok (.isub, 1) := by decide +kernel
theorem dX1_room_7 : decode cX1_room 7 = .ok (.ireturn, 1) := by decide +kernel
theorem dX1_bytesForYear_0 : decode cX1_bytesForYear 0 = .ok (.aload_n 0, 1) := by decide +kernel
theorem dX1_bytesForYear_1 : decode cX1_bytesForYear 1 = .ok (.getfield 15, 3) := by decide +kernel
theorem dX1_bytesForYear_4 : decode cX1_bytesForYear 4 = .ok (.ifCond .ne 8, 3) := by decide +kernel
theorem dX1_bytesForYear_7 : decode cX1_bytesForYear 7 = .ok (.bipush 6, 2) := by decide +kernel
theorem dX1_bytesForYear_9 : decode cX1_bytesForYear 9 = .ok (.goto 5, 3) := by decide +kernel
theorem dX1_bytesForYear_12 : decode cX1_bytesForYear 12 = .ok (.bipush 7, 2) := by decide +kernel
theorem dX1_bytesForYear_14 : decode cX1_bytesForYear 14 = .ok (.ireturn, 1) := by decide +kernel
set_option maxRecDepth 20000 in
theorem ggX1_append_X1_add : GoodIn wsX1_append wsX1_add := goodIn_r _ [5, 6, 7, 26, 27, 28, 29] (by decide +kernel) (by decide +kernel)
set_option maxRecDepth 20000 in
theorem gX1_append_X1_add : GoodIn wsX1_append (wsV RX1 25 RX1 yX1_add wsX1_add) := goodIn_app (goodIn_of _ (by decide +kernel)) ggX1_append_X1_add
set_option maxRecDepth 20000 in
theorem ggX1_append_X1_parse : GoodIn wsX1_append wsX1_parse := goodIn_r _ [11, 12, 6, 13, 14, 15, 16, 4, 17, 7, 18, 19, 20, 21, 22, 23, 24, 25, 26, 27, 28, 29] (by decide +kernel) (by decide +kernel)
set_option maxRecDepth 20000 in
theorem gX1_append_X1_parse : GoodIn wsX1_append (wsV RX1 29 RX1 yX1_parse wsX1_parse) := goodIn_app (goodIn_of _ (by decide +kernel)) ggX1_append_X1_parse
theorem dX1_append_0 : decode cX1_append 0 = .ok (.aload_n 0, 1) := by decide +kernel
theorem dX1_append_1 : decode cX1_append 1 = .ok (.iload_n 1, 1) := by decide +kernel
theorem dX1_append_2 : decode cX1_append 2 = .ok (.invokevirtual 25, 3) := by decide +kernel
theorem dX1_append_5 : decode cX1_append 5 = .ok (.aload_n 0, 1) := by decide +kernel
theorem dX1_append_6 : decode cX1_append 6 = .ok (.invokevirtual 29, 3) := by decide +kernel
theorem dX1_append_9 : decode cX1_append 9 = .ok (.return_, 1) := by decide +kernel
set_option maxRecDepth 20000 in
theorem ggX1_appendYear_X1_add : GoodIn wsX1_appendYear wsX1_add := goodIn_r _ [7, 1, 8, 27, 28, 29, 30] (by decide +kernel) (by decide +kernel)
set_option maxRecDepth 20000 in
theorem gX1_appendYear_X1_add : GoodIn wsX1_appendYear (wsV RX1 25 RX1 yX1_add wsX1_add) := goodIn_app (goodIn_of _ (by decide +kernel)) ggX1_appendYear_X1_add
set_option maxRecDepth 20000 in
theorem ggX1_appendYear_X1_parse : GoodIn wsX1_appendYear wsX1_parse := goodIn_r _ [12, 13, 1, 14, 15, 16, 17, 6, 18, 8, 19, 20, 21, 22, 23, 24, 25, 26, 27, 28, 29, 30] (by decide +kernel) (by decide +kernel)
set_option maxRecDepth 20000 in
theorem gX1_appendYear_X1_parse : GoodIn wsX1_appendYear (wsV RX1 29 RX1 yX1_parse wsX1_parse) := goodIn_app (goodIn_of _ (by decide +kernel)) ggX1_appendYear_X1_parse
theorem dX1_appendYear_0 : decode cX1_appendYear 0 = .ok (.aload_n 0, 1) := by decide +kernel
theorem dX1_appendYear_1 : decode cX1_appendYear 1 = .ok (.getfield 15, 3) := by decide +kernel
theorem dX1_appendYear_4 : decode cX1_appendYear 4 = .ok (.ifCond .le 9, 3) := by decide +kernel
theorem dX1_appendYear_7 : decode cX1_appendYear 7 = .ok (.aload_n 0, 1) := by decide +kernel
theorem dX1_appendYear_8 : decode cX1_appendYear 8 = .ok (.bipush 59, 2) := by decide +kernel
theorem dX1_appendYear_10 : decode cX1_appendYear 10 = .ok (.invokevirtual 25, 3) := by decide +kernel
theorem dX1_appendYear_13 : decode cX1_appendYear 13 = .ok (.iconst 0, 1) := by decide +kernel
theorem dX1_appendYear_14 : decode cX1_appendYear 14 = .ok (.istore_n 2, 1) := by decide +kernel
theorem dX1_appendYear_15 : decode cX1_appendYear 15 = .ok (.iload_n 2, 1) := by decide +kernel
theorem dX1_appendYear_16 : decode cX1_appendYear 16 = .ok (.bipush 6, 2) := by decide +kernel
theorem dX1_appendYear_18 : decode cX1_appendYear 18 = .ok (.if_icmp .ge 22, 3) := by decide +kernel
theorem dX1_appendYear_21 : decode cX1_appendYear 21 = .ok (.aload_n 0, 1) := by decide +kernel
theorem dX1_appendYear_22 : decode cX1_appendYear 22 = .ok (.bipush 48, 2) := by decide +kernel
theorem dX1_appendYear_24 : decode cX1_appendYear 24 = .ok (.aload_n 1, 1) := by decide +kernel
theorem dX1_appendYear_25 : decode cX1_appendYear 25 = .ok (.getfield 32, 3) := by decide +kernel
theorem dX1_appendYear_28 : decode cX1_appendYear 28 = .ok (.iload_n 2, 1) := by decide +kernel
theorem dX1_appendYear_29 : decode cX1_appendYear 29 = .ok (.iaload, 1) := by decide +kernel
theorem dX1_appendYear_30 : decode cX1_appendYear 30 = .ok (.iadd, 1) := by decide +kernel
theorem dX1_appendYear_31 : decode cX1_appendYear 31 = .ok (.invokevirtual 25, 3) := by decide +kernel
theorem dX1_appendYear_34 : decode cX1_appendYear 34 = .ok (.iinc 2 1, 3) := by decide +kernel
theorem dX1_appendYear_37 : decode cX1_appendYear 37 = .ok (.goto (-22), 3) := by decide +kernel
theorem dX1_appendYear_40 : decode cX1_appendYear 40 = .ok (.aload_n 0, 1) := by decide +kernel
theorem dX1_appendYear_41 : decode cX1_appendYear 41 = .ok (.invokevirtual 29, 3) := by decide +kernel
theorem dX1_appendYear_44 : decode cX1_appendYear 44 = .ok (.return_, 1) := by decide +kernel
set_option maxRecDepth 20000 in
theorem ggX1_clear_X1_parse : GoodIn wsX1_clear wsX1_parse := goodIn_r _ [6, 7, 1, 8, 9, 10, 11, 5, 12, 13, 14, 15, 16, 17, 18, 19, 20, 21, 22, 23, 24, 25] (by decide +kernel) (by decide +kernel)
set_option maxRecDepth 20000 in
theorem gX1_clear_X1_parse : GoodIn wsX1_clear (wsV RX1 29 RX1 yX1_parse wsX1_parse) := goodIn_app (goodIn_of _ (by decide +kernel)) ggX1_clear_X1_parse
theorem dX1_clear_0 : decode cX1_clear 0 = .ok (.aload_n 0, 1) := by decide +kernel
theorem dX1_clear_1 : decode cX1_clear 1 = .ok (.getfield 15, 3) := by decide +kernel
theorem dX1_clear_4 : decode cX1_clear 4 = .ok (.istore_n 1, 1) := by decide +kernel
theorem dX1_clear_5 : decode cX1_clear 5 = .ok (.aload_n 0, 1) := by decide +kernel
theorem dX1_clear_6 : decode cX1_clear 6 = .ok (.iconst 0, 1) := by decide +kernel
theorem dX1_clear_7 : decode cX1_clear 7 = .ok (.putfield 15, 3) := by decide +kernel
theorem dX1_clear_10 : decode cX1_clear 10 = .ok (.aload_n 0, 1) := by decide +kernel
theorem dX1_clear_11 : decode cX1_clear 11 = .ok (.invokevirtual 29, 3) := by decide +kernel
theorem dX1_clear_14 : decode cX1_clear 14 = .ok (.iload_n 1, 1) := by decide +kernel
theorem dX1_clear_15 : decode cX1_clear 15 = .ok (.ireturn, 1) := by decide +kernel
theorem dX1_nameOf_0 : decode cX1_nameOf 0 = .ok (.aload_n 0, 1) := by decide +kernel
theorem dX1_nameOf_1 : decode cX1_nameOf 1 = .ok (.getfield 11, 3) := by decide +kernel
theorem dX1_nameOf_4 : decode cX1_nameOf 4 = .ok (.iload_n 2, 1) := by decide +kernel
theorem dX1_nameOf_5 : decode cX1_nameOf 5 = .ok (.bipush 7, 2) := by decide +kernel
theorem dX1_nameOf_7 : decode cX1_nameOf 7 = .ok (.imul, 1) := by decide +kernel
theorem dX1_nameOf_8 : decode cX1_nameOf 8 = .ok (.iload_n 1, 1) := by decide +kernel
theorem dX1_nameOf_9 : decode cX1_nameOf 9 = .ok (.iadd, 1) := by decide +kernel
theorem dX1_nameOf_10 : decode cX1_nameOf 10 = .ok (.iaload, 1) := by decide +kernel
theorem dX1_nameOf_11 : decode cX1_nameOf 11 = .ok (.bipush 48, 2) := by decide +kernel
theorem dX1_nameOf_13 : decode cX1_nameOf 13 = .ok (.isub, 1) := by decide +kernel
theorem dX1_nameOf_14 : decode cX1_nameOf 14 = .ok (.ireturn, 1) := by decide +kernel
theorem dX1_add_0 : decode cX1_add 0 = .ok (.aload_n 0, 1) := by decide +kernel
theorem dX1_add_1 : decode cX1_add 1 = .ok (.getfield 15, 3) := by decide +kernel
theorem dX1_add_4 : decode cX1_add 4 = .ok (.bipush 90, 2) := by decide +kernel
theorem dX1_add_6 : decode cX1_add 6 = .ok (.if_icmp .ge 23, 3) := by decide +kernel
theorem dX1_add_9 : decode cX1_add 9 = .ok (.aload_n 0, 1) := by decide +kernel
theorem dX1_add_10 : decode cX1_add 10 = .ok (.getfield 11, 3) := by decide +kernel
theorem dX1_add_13 : decode cX1_add 13 = .ok (.aload_n 0, 1) := by decide +kernel
theorem dX1_add_14 : decode cX1_add 14 = .ok (.getfield 15, 3) := by decide +kernel
theorem dX1_add_17 : decode cX1_add 17 = .ok (.iload_n 1, 1) := by decide +kernel
theorem dX1_add_18 : decode cX1_add 18 = .ok (.iastore, 1) := by decide +kernel
theorem dX1_add_19 : decode cX1_add 19 = .ok (.aload_n 0, 1) := by decide +kernel
theorem dX1_add_20 : decode cX1_add 20 = .ok (.dup, 1) := by decide +kernel
theorem dX1_add_21 : decode cX1_add 21 = .ok (.getfield 15, 3) := by decide +kernel
theorem dX1_add_24 : decode cX1_add 24 = .ok (.iconst 1, 1) := by decide +kernel
theorem dX1_add_25 : decode cX1_add 25 = .ok (.iadd, 1) := by decide +kernel
theorem dX1_add_26 : decode cX1_add 26 = .ok (.putfield 15, 3) := by decide +kernel
theorem dX1_add_29 : decode cX1_add 29 = .ok (.return_, 1) := by decide +kernel
set_option maxRecDepth 20000 in
theorem ggX1_parse_X1_firstFault : GoodIn wsX1_parse wsX1_firstFault := goodIn_r _ [8, 2, 9, 10, 11, 12, 13, 14, 15, 16, 17, 18, 19, 20, 21] (by decide +kernel) (by decide +kernel)
set_option maxRecDepth 20000 in
theorem gX1_parse_X1_firstFault : GoodIn wsX1_parse (wsV RX1 37 RX1 yX1_firstFault wsX1_firstFault) := goodIn_app (goodIn_of _ (by decide +kernel)) ggX1_parse_X1_firstFault
theorem dX1_parse_0 : decode cX1_parse 0 = .ok (.aload_n 0, 1) := by decide +kernel
theorem dX1_parse_1 : decode cX1_parse 1 = .ok (.aload_n 0, 1) := by decide +kernel
theorem dX1_parse_2 : decode cX1_parse 2 = .ok (.invokevirtual 37, 3) := by decide +kernel
theorem dX1_parse_5 : decode cX1_parse 5 = .ok (.putfield 22, 3) := by decide +kernel
theorem dX1_parse_8 : decode cX1_parse 8 = .ok (.aload_n 0, 1) := by decide +kernel
theorem dX1_parse_9 : decode cX1_parse 9 = .ok (.aload_n 0, 1) := by decide +kernel
theorem dX1_parse_10 : decode cX1_parse 10 = .ok (.getfield 22, 3) := by decide +kernel
theorem dX1_parse_13 : decode cX1_parse 13 = .ok (.iconst (-1), 1) := by decide +kernel
theorem dX1_parse_14 : decode cX1_parse 14 = .ok (.if_icmp .ne 15, 3) := by decide +kernel
theorem dX1_parse_17 : decode cX1_parse 17 = .ok (.aload_n 0, 1) := by decide +kernel
theorem dX1_parse_18 : decode cX1_parse 18 = .ok (.getfield 15, 3) := by decide +kernel
theorem dX1_parse_21 : decode cX1_parse 21 = .ok (.iconst 1, 1) := by decide +kernel
theorem dX1_parse_22 : decode cX1_parse 22 = .ok (.iadd, 1) := by decide +kernel
theorem dX1_parse_23 : decode cX1_parse 23 = .ok (.bipush 7, 2) := by decide +kernel
theorem dX1_parse_25 : decode cX1_parse 25 = .ok (.idiv, 1) := by decide +kernel
theorem dX1_parse_26 : decode cX1_parse 26 = .ok (.goto 4, 3) := by decide +kernel
theorem dX1_parse_29 : decode cX1_parse 29 = .ok (.iconst 0, 1) := by decide +kernel
theorem dX1_parse_30 : decode cX1_parse 30 = .ok (.putfield 19, 3) := by decide +kernel
theorem dX1_parse_33 : decode cX1_parse 33 = .ok (.return_, 1) := by decide +kernel
set_option maxRecDepth 20000 in
theorem ggX1_firstFault_X8_isShip : GoodIn wsX1_firstFault wsX8_isShip := goodIn_r _ [5, 6, 7, 4, 8] (by decide +kernel) (by decide +kernel)
set_option maxRecDepth 20000 in
theorem gX1_firstFault_X8_isShip_n41 : GoodIn wsX1_firstFault (wsX8_isShip) := ggX1_firstFault_X8_isShip
set_option maxRecDepth 20000 in
theorem ggX1_firstFault_X8_isIn : GoodIn wsX1_firstFault wsX8_isIn := goodIn_r _ [10] (by decide +kernel) (by decide +kernel)
set_option maxRecDepth 20000 in
theorem gX1_firstFault_X8_isIn_n45 : GoodIn wsX1_firstFault (wsX8_isIn) := ggX1_firstFault_X8_isIn
theorem dX1_firstFault_0 : decode cX1_firstFault 0 = .ok (.iconst 0, 1) := by decide +kernel
theorem dX1_firstFault_1 : decode cX1_firstFault 1 = .ok (.istore_n 1, 1) := by decide +kernel
theorem dX1_firstFault_2 : decode cX1_firstFault 2 = .ok (.iconst 0, 1) := by decide +kernel
theorem dX1_firstFault_3 : decode cX1_firstFault 3 = .ok (.istore_n 2, 1) := by decide +kernel
theorem dX1_firstFault_4 : decode cX1_firstFault 4 = .ok (.iload_n 2, 1) := by decide +kernel
theorem dX1_firstFault_5 : decode cX1_firstFault 5 = .ok (.aload_n 0, 1) := by decide +kernel
theorem dX1_firstFault_6 : decode cX1_firstFault 6 = .ok (.getfield 15, 3) := by decide +kernel
theorem dX1_firstFault_9 : decode cX1_firstFault 9 = .ok (.if_icmp .ge 80, 3) := by decide +kernel
theorem dX1_firstFault_12 : decode cX1_firstFault 12 = .ok (.iload_n 2, 1) := by decide +kernel
theorem dX1_firstFault_13 : decode cX1_firstFault 13 = .ok (.bipush 7, 2) := by decide +kernel
theorem dX1_firstFault_15 : decode cX1_firstFault 15 = .ok (.idiv, 1) := by decide +kernel
theorem dX1_firstFault_16 : decode cX1_firstFault 16 = .ok (.bipush 12, 2) := by decide +kernel
theorem dX1_firstFault_18 : decode cX1_firstFault 18 = .ok (.if_icmp .ne 5, 3) := by decide +kernel
theorem dX1_firstFault_21 : decode cX1_firstFault 21 = .ok (.iload_n 2, 1) := by decide +kernel
theorem dX1_firstFault_22 : decode cX1_firstFault 22 = .ok (.ireturn, 1) := by decide +kernel
theorem dX1_firstFault_23 : decode cX1_firstFault 23 = .ok (.iload_n 2, 1) := by decide +kernel
theorem dX1_firstFault_24 : decode cX1_firstFault 24 = .ok (.bipush 7, 2) := by decide +kernel
theorem dX1_firstFault_26 : decode cX1_firstFault 26 = .ok (.irem, 1) := by decide +kernel
theorem dX1_firstFault_27 : decode cX1_firstFault 27 = .ok (.bipush 6, 2) := by decide +kernel
theorem dX1_firstFault_29 : decode cX1_firstFault 29 = .ok (.if_icmp .ne 21, 3) := by decide +kernel
theorem dX1_firstFault_32 : decode cX1_firstFault 32 = .ok (.aload_n 0, 1) := by decide +kernel
theorem dX1_firstFault_33 : decode cX1_firstFault 33 = .ok (.getfield 11, 3) := by decide +kernel
theorem dX1_firstFault_36 : decode cX1_firstFault 36 = .ok (.iload_n 2, 1) := by decide +kernel
theorem dX1_firstFault_37 : decode cX1_firstFault 37 = .ok (.iaload, 1) := by decide +kernel
theorem dX1_firstFault_38 : decode cX1_firstFault 38 = .ok (.bipush 59, 2) := by decide +kernel
theorem dX1_firstFault_40 : decode cX1_firstFault 40 = .ok (.if_icmp .eq 5, 3) := by decide +kernel
theorem dX1_firstFault_43 : decode cX1_firstFault 43 = .ok (.iload_n 2, 1) := by decide +kernel
theorem dX1_firstFault_44 : decode cX1_firstFault 44 = .ok (.ireturn, 1) := by decide +kernel
theorem dX1_firstFault_45 : decode cX1_firstFault 45 = .ok (.iconst 0, 1) := by decide +kernel
theorem dX1_firstFault_46 : decode cX1_firstFault 46 = .ok (.istore_n 1, 1) := by decide +kernel
theorem dX1_firstFault_47 : decode cX1_firstFault 47 = .ok (.goto 36, 3) := by decide +kernel
theorem dX1_firstFault_50 : decode cX1_firstFault 50 = .ok (.aload_n 0, 1) := by decide +kernel
theorem dX1_firstFault_51 : decode cX1_firstFault 51 = .ok (.getfield 11, 3) := by decide +kernel
theorem dX1_firstFault_54 : decode cX1_firstFault 54 = .ok (.iload_n 2, 1) := by decide +kernel
theorem dX1_firstFault_55 : decode cX1_firstFault 55 = .ok (.iaload, 1) := by decide +kernel
theorem dX1_firstFault_56 : decode cX1_firstFault 56 = .ok (.bipush 48, 2) := by decide +kernel
theorem dX1_firstFault_58 : decode cX1_firstFault 58 = .ok (.isub, 1) := by decide +kernel
theorem dX1_firstFault_59 : decode cX1_firstFault 59 = .ok (.istore_n 3, 1) := by decide +kernel
theorem dX1_firstFault_60 : decode cX1_firstFault 60 = .ok (.iload_n 3, 1) := by decide +kernel
theorem dX1_firstFault_61 : decode cX1_firstFault 61 = .ok (.invokestatic 41, 3) := by decide +kernel
theorem dX1_firstFault_64 : decode cX1_firstFault 64 = .ok (.ifCond .eq 11, 3) := by decide +kernel
theorem dX1_firstFault_67 : decode cX1_firstFault 67 = .ok (.iload_n 1, 1) := by decide +kernel
theorem dX1_firstFault_68 : decode cX1_firstFault 68 = .ok (.iload_n 3, 1) := by decide +kernel
theorem dX1_firstFault_69 : decode cX1_firstFault 69 = .ok (.invokestatic 45, 3) := by decide +kernel
theorem dX1_firstFault_72 : decode cX1_firstFault 72 = .ok (.ifCond .eq 5, 3) := by decide +kernel
theorem dX1_firstFault_75 : decode cX1_firstFault 75 = .ok (.iload_n 2, 1) := by decide +kernel
theorem dX1_firstFault_76 : decode cX1_firstFault 76 = .ok (.ireturn, 1) := by decide +kernel
theorem dX1_firstFault_77 : decode cX1_firstFault 77 = .ok (.iload_n 1, 1) := by decide +kernel
theorem dX1_firstFault_78 : decode cX1_firstFault 78 = .ok (.iconst 1, 1) := by decide +kernel
theorem dX1_firstFault_79 : decode cX1_firstFault 79 = .ok (.iload_n 3, 1) := by decide +kernel
theorem dX1_firstFault_80 : decode cX1_firstFault 80 = .ok (.ishl, 1) := by decide +kernel
theorem dX1_firstFault_81 : decode cX1_firstFault 81 = .ok (.ior, 1) := by decide +kernel
theorem dX1_firstFault_82 : decode cX1_firstFault 82 = .ok (.istore_n 1, 1) := by decide +kernel
theorem dX1_firstFault_83 : decode cX1_firstFault 83 = .ok (.iinc 2 1, 3) := by decide +kernel
theorem dX1_firstFault_86 : decode cX1_firstFault 86 = .ok (.goto (-82), 3) := by decide +kernel
theorem dX1_firstFault_89 : decode cX1_firstFault 89 = .ok (.aload_n 0, 1) := by decide +kernel
theorem dX1_firstFault_90 : decode cX1_firstFault 90 = .ok (.getfield 15, 3) := by decide +kernel
theorem dX1_firstFault_93 : decode cX1_firstFault 93 = .ok (.ifCond .eq 15, 3) := by decide +kernel
theorem dX1_firstFault_96 : decode cX1_firstFault 96 = .ok (.aload_n 0, 1) := by decide +kernel
theorem dX1_firstFault_97 : decode cX1_firstFault 97 = .ok (.getfield 15, 3) := by decide +kernel
theorem dX1_firstFault_100 : decode cX1_firstFault 100 = .ok (.bipush 7, 2) := by decide +kernel
theorem dX1_firstFault_102 : decode cX1_firstFault 102 = .ok (.irem, 1) := by decide +kernel
theorem dX1_firstFault_103 : decode cX1_firstFault 103 = .ok (.bipush 6, 2) := by decide +kernel
theorem dX1_firstFault_105 : decode cX1_firstFault 105 = .ok (.if_icmp .ne 7, 3) := by decide +kernel
theorem dX1_firstFault_108 : decode cX1_firstFault 108 = .ok (.iconst 1, 1) := by decide +kernel
theorem dX1_firstFault_109 : decode cX1_firstFault 109 = .ok (.goto 4, 3) := by decide +kernel
theorem dX1_firstFault_112 : decode cX1_firstFault 112 = .ok (.iconst 0, 1) := by decide +kernel
theorem dX1_firstFault_113 : decode cX1_firstFault 113 = .ok (.istore_n 2, 1) := by decide +kernel
theorem dX1_firstFault_114 : decode cX1_firstFault 114 = .ok (.iload_n 2, 1) := by decide +kernel
theorem dX1_firstFault_115 : decode cX1_firstFault 115 = .ok (.ifCond .eq 7, 3) := by decide +kernel
theorem dX1_firstFault_118 : decode cX1_firstFault 118 = .ok (.iconst (-1), 1) := by decide +kernel
theorem dX1_firstFault_119 : decode cX1_firstFault 119 = .ok (.goto 7, 3) := by decide +kernel
theorem dX1_firstFault_122 : decode cX1_firstFault 122 = .ok (.aload_n 0, 1) := by decide +kernel
theorem dX1_firstFault_123 : decode cX1_firstFault 123 = .ok (.getfield 15, 3) := by decide +kernel
theorem dX1_firstFault_126 : decode cX1_firstFault 126 = .ok (.ireturn, 1) := by decide +kernel
theorem dX2_init_0 : decode cX2_init 0 = .ok (.aload_n 0, 1) := by decide +kernel
theorem dX2_init_1 : decode cX2_init 1 = .ok (.invokespecial 1, 3) := by decide +kernel
theorem dX2_init_4 : decode cX2_init 4 = .ok (.aload_n 0, 1) := by decide +kernel
theorem dX2_init_5 : decode cX2_init 5 = .ok (.bipush 12, 2) := by decide +kernel
theorem dX2_init_7 : decode cX2_init 7 = .ok (.newarray .int, 2) := by decide +kernel
theorem dX2_init_9 : decode cX2_init 9 = .ok (.putfield 9, 3) := by decide +kernel
theorem dX2_init_12 : decode cX2_init 12 = .ok (.aload_n 0, 1) := by decide +kernel
theorem dX2_init_13 : decode cX2_init 13 = .ok (.bipush 12, 2) := by decide +kernel
theorem dX2_init_15 : decode cX2_init 15 = .ok (.newarray .int, 2) := by decide +kernel
theorem dX2_init_17 : decode cX2_init 17 = .ok (.putfield 13, 3) := by decide +kernel
theorem dX2_init_20 : decode cX2_init 20 = .ok (.aload_n 0, 1) := by decide +kernel
theorem dX2_init_21 : decode cX2_init 21 = .ok (.bipush 12, 2) := by decide +kernel
theorem dX2_init_23 : decode cX2_init 23 = .ok (.newarray .int, 2) := by decide +kernel
theorem dX2_init_25 : decode cX2_init 25 = .ok (.putfield 16, 3) := by decide +kernel
theorem dX2_init_28 : decode cX2_init 28 = .ok (.aload_n 0, 1) := by decide +kernel
theorem dX2_init_29 : decode cX2_init 29 = .ok (.iconst 0, 1) := by decide +kernel
theorem dX2_init_30 : decode cX2_init 30 = .ok (.putfield 19, 3) := by decide +kernel
theorem dX2_init_33 : decode cX2_init 33 = .ok (.aload_n 0, 1) := by decide +kernel
theorem dX2_init_34 : decode cX2_init 34 = .ok (.aload_n 1, 1) := by decide +kernel
theorem dX2_init_35 : decode cX2_init 35 = .ok (.putfield 23, 3) := by decide +kernel
theorem dX2_init_38 : decode cX2_init 38 = .ok (.return_, 1) := by decide +kernel
theorem dX2_add_0 : decode cX2_add 0 = .ok (.aload_n 0, 1) := by decide +kernel
theorem dX2_add_1 : decode cX2_add 1 = .ok (.getfield 19, 3) := by decide +kernel
theorem dX2_add_4 : decode cX2_add 4 = .ok (.bipush 12, 2) := by decide +kernel
theorem dX2_add_6 : decode cX2_add 6 = .ok (.if_icmp .ge 43, 3) := by decide +kernel
theorem dX2_add_9 : decode cX2_add 9 = .ok (.aload_n 0, 1) := by decide +kernel
theorem dX2_add_10 : decode cX2_add 10 = .ok (.getfield 9, 3) := by decide +kernel
theorem dX2_add_13 : decode cX2_add 13 = .ok (.aload_n 0, 1) := by decide +kernel
theorem dX2_add_14 : decode cX2_add 14 = .ok (.getfield 19, 3) := by decide +kernel
theorem dX2_add_17 : decode cX2_add 17 = .ok (.iload_n 1, 1) := by decide +kernel
theorem dX2_add_18 : decode cX2_add 18 = .ok (.iastore, 1) := by decide +kernel
theorem dX2_add_19 : decode cX2_add 19 = .ok (.aload_n 0, 1) := by decide +kernel
theorem dX2_add_20 : decode cX2_add 20 = .ok (.getfield 13, 3) := by decide +kernel
theorem dX2_add_23 : decode cX2_add 23 = .ok (.aload_n 0, 1) := by decide +kernel
theorem dX2_add_24 : decode cX2_add 24 = .ok (.getfield 19, 3) := by decide +kernel
theorem dX2_add_27 : decode cX2_add 27 = .ok (.iload_n 2, 1) := by decide +kernel
theorem dX2_add_28 : decode cX2_add 28 = .ok (.iastore, 1) := by decide +kernel
theorem dX2_add_29 : decode cX2_add 29 = .ok (.aload_n 0, 1) := by decide +kernel
theorem dX2_add_30 : decode cX2_add 30 = .ok (.getfield 16, 3) := by decide +kernel
theorem dX2_add_33 : decode cX2_add 33 = .ok (.aload_n 0, 1) := by decide +kernel
theorem dX2_add_34 : decode cX2_add 34 = .ok (.getfield 19, 3) := by decide +kernel
theorem dX2_add_37 : decode cX2_add 37 = .ok (.iload_n 3, 1) := by decide +kernel
theorem dX2_add_38 : decode cX2_add 38 = .ok (.iastore, 1) := by decide +kernel
theorem dX2_add_39 : decode cX2_add 39 = .ok (.aload_n 0, 1) := by decide +kernel
theorem dX2_add_40 : decode cX2_add 40 = .ok (.dup, 1) := by decide +kernel
theorem dX2_add_41 : decode cX2_add 41 = .ok (.getfield 19, 3) := by decide +kernel
theorem dX2_add_44 : decode cX2_add 44 = .ok (.iconst 1, 1) := by decide +kernel
theorem dX2_add_45 : decode cX2_add 45 = .ok (.iadd, 1) := by decide +kernel
theorem dX2_add_46 : decode cX2_add 46 = .ok (.putfield 19, 3) := by decide +kernel
theorem dX2_add_49 : decode cX2_add 49 = .ok (.return_, 1) := by decide +kernel
theorem dX2_clear_0 : decode cX2_clear 0 = .ok (.aload_n 0, 1) := by decide +kernel
theorem dX2_clear_1 : decode cX2_clear 1 = .ok (.getfield 19, 3) := by decide +kernel
theorem dX2_clear_4 : decode cX2_clear 4 = .ok (.istore_n 1, 1) := by decide +kernel
theorem dX2_clear_5 : decode cX2_clear 5 = .ok (.aload_n 0, 1) := by decide +kernel
theorem dX2_clear_6 : decode cX2_clear 6 = .ok (.iconst 0, 1) := by decide +kernel
theorem dX2_clear_7 : decode cX2_clear 7 = .ok (.putfield 19, 3) := by decide +kernel
theorem dX2_clear_10 : decode cX2_clear 10 = .ok (.iload_n 1, 1) := by decide +kernel
theorem dX2_clear_11 : decode cX2_clear 11 = .ok (.ireturn, 1) := by decide +kernel
set_option maxRecDepth 20000 in
theorem ggX2_sumFor_X2_counts : GoodIn wsX2_sumFor wsX2_counts := goodIn_r _ [8, 9, 10, 11, 25, 26, 27, 28, 29, 30, 31, 32, 33] (by decide +kernel) (by decide +kernel)
set_option maxRecDepth 20000 in
theorem gX2_sumFor_X2_counts : GoodIn wsX2_sumFor (wsV RX2 27 RX2 yX2_counts wsX2_counts) := goodIn_app (goodIn_of _ (by decide +kernel)) ggX2_sumFor_X2_counts
set_option maxRecDepth 20000 in
theorem ggX2_sumFor_X2_hullsShare : GoodIn wsX2_sumFor wsX2_hullsShare := goodIn_r _ [14] (by decide +kernel) (by decide +kernel)
set_option maxRecDepth 20000 in
theorem gX2_sumFor_X2_hullsShare : GoodIn wsX2_sumFor (va_wsS RX2 31 yX2_hullsShare wsX2_hullsShare) := goodIn_app (goodIn_of _ (by decide +kernel)) ggX2_sumFor_X2_hullsShare
set_option maxRecDepth 20000 in
theorem ggX2_sumFor_X2_nameIn : GoodIn wsX2_sumFor wsX2_nameIn := goodIn_r _ [18, 10, 3, 9, 19, 20, 21, 22, 23, 24, 25, 26, 27, 28, 29, 30, 31, 32, 33] (by decide +kernel) (by decide +kernel)
set_option maxRecDepth 20000 in
theorem gX2_sumFor_X2_nameIn : GoodIn wsX2_sumFor (wsV RX2 35 RX2 yX2_nameIn wsX2_nameIn) := goodIn_app (goodIn_of _ (by decide +kernel)) ggX2_sumFor_X2_nameIn
theorem dX2_sumFor_0 : decode cX2_sumFor 0 = .ok (.iconst 0, 1) := by decide +kernel
theorem dX2_sumFor_1 : decode cX2_sumFor 1 = .ok (.istore_n 3, 1) := by decide +kernel
theorem dX2_sumFor_2 : decode cX2_sumFor 2 = .ok (.iconst 0, 1) := by decide +kernel
theorem dX2_sumFor_3 : decode cX2_sumFor 3 = .ok (.istore 4, 2) := by decide +kernel
theorem dX2_sumFor_5 : decode cX2_sumFor 5 = .ok (.iload 4, 2) := by decide +kernel
theorem dX2_sumFor_7 : decode cX2_sumFor 7 = .ok (.aload_n 0, 1) := by decide +kernel
theorem dX2_sumFor_8 : decode cX2_sumFor 8 = .ok (.getfield 19, 3) := by decide +kernel
theorem dX2_sumFor_11 : decode cX2_sumFor 11 = .ok (.if_icmp .ge 70, 3) := by decide +kernel
theorem dX2_sumFor_14 : decode cX2_sumFor 14 = .ok (.aload_n 0, 1) := by decide +kernel
theorem dX2_sumFor_15 : decode cX2_sumFor 15 = .ok (.iload 4, 2) := by decide +kernel
theorem dX2_sumFor_17 : decode cX2_sumFor 17 = .ok (.invokevirtual 27, 3) := by decide +kernel
theorem dX2_sumFor_20 : decode cX2_sumFor 20 = .ok (.ifCond .eq 55, 3) := by decide +kernel
theorem dX2_sumFor_23 : decode cX2_sumFor 23 = .ok (.aload_n 0, 1) := by decide +kernel
theorem dX2_sumFor_24 : decode cX2_sumFor 24 = .ok (.getfield 16, 3) := by decide +kernel
theorem dX2_sumFor_27 : decode cX2_sumFor 27 = .ok (.iload 4, 2) := by decide +kernel
theorem dX2_sumFor_29 : decode cX2_sumFor 29 = .ok (.iaload, 1) := by decide +kernel
theorem dX2_sumFor_30 : decode cX2_sumFor 30 = .ok (.iload_n 2, 1) := by decide +kernel
theorem dX2_sumFor_31 : decode cX2_sumFor 31 = .ok (.invokestatic 31, 3) := by decide +kernel
theorem dX2_sumFor_34 : decode cX2_sumFor 34 = .ok (.istore 5, 2) := by decide +kernel
theorem dX2_sumFor_36 : decode cX2_sumFor 36 = .ok (.aload_n 0, 1) := by decide +kernel
theorem dX2_sumFor_37 : decode cX2_sumFor 37 = .ok (.getfield 9, 3) := by decide +kernel
theorem dX2_sumFor_40 : decode cX2_sumFor 40 = .ok (.iload 4, 2) := by decide +kernel
theorem dX2_sumFor_42 : decode cX2_sumFor 42 = .ok (.iaload, 1) := by decide +kernel
theorem dX2_sumFor_43 : decode cX2_sumFor 43 = .ok (.iload_n 1, 1) := by decide +kernel
theorem dX2_sumFor_44 : decode cX2_sumFor 44 = .ok (.if_icmp .ne 8, 3) := by decide +kernel
theorem dX2_sumFor_47 : decode cX2_sumFor 47 = .ok (.iload_n 3, 1) := by decide +kernel
theorem dX2_sumFor_48 : decode cX2_sumFor 48 = .ok (.iload 5, 2) := by decide +kernel
theorem dX2_sumFor_50 : decode cX2_sumFor 50 = .ok (.iadd, 1) := by decide +kernel
theorem dX2_sumFor_51 : decode cX2_sumFor 51 = .ok (.istore_n 3, 1) := by decide +kernel
theorem dX2_sumFor_52 : decode cX2_sumFor 52 = .ok (.aload_n 0, 1) := by decide +kernel
theorem dX2_sumFor_53 : decode cX2_sumFor 53 = .ok (.iload 4, 2) := by decide +kernel
theorem dX2_sumFor_55 : decode cX2_sumFor 55 = .ok (.invokevirtual 35, 3) := by decide +kernel
theorem dX2_sumFor_58 : decode cX2_sumFor 58 = .ok (.iload_n 1, 1) := by decide +kernel
theorem dX2_sumFor_59 : decode cX2_sumFor 59 = .ok (.if_icmp .ne 16, 3) := by decide +kernel
theorem dX2_sumFor_62 : decode cX2_sumFor 62 = .ok (.iload_n 3, 1) := by decide +kernel
theorem dX2_sumFor_63 : decode cX2_sumFor 63 = .ok (.aload_n 0, 1) := by decide +kernel
theorem dX2_sumFor_64 : decode cX2_sumFor 64 = .ok (.getfield 16, 3) := by decide +kernel
theorem dX2_sumFor_67 : decode cX2_sumFor 67 = .ok (.iload 4, 2) := by decide +kernel
theorem dX2_sumFor_69 : decode cX2_sumFor 69 = .ok (.iaload, 1) := by decide +kernel
theorem dX2_sumFor_70 : decode cX2_sumFor 70 = .ok (.iload 5, 2) := by decide +kernel
theorem dX2_sumFor_72 : decode cX2_sumFor 72 = .ok (.isub, 1) := by decide +kernel
theorem dX2_sumFor_73 : decode cX2_sumFor 73 = .ok (.iadd, 1) := by decide +kernel
theorem dX2_sumFor_74 : decode cX2_sumFor 74 = .ok (.istore_n 3, 1) := by decide +kernel
theorem dX2_sumFor_75 : decode cX2_sumFor 75 = .ok (.iinc 4 1, 3) := by decide +kernel
theorem dX2_sumFor_78 : decode cX2_sumFor 78 = .ok (.goto (-73), 3) := by decide +kernel
theorem dX2_sumFor_81 : decode cX2_sumFor 81 = .ok (.iload_n 3, 1) := by decide +kernel
theorem dX2_sumFor_82 : decode cX2_sumFor 82 = .ok (.ireturn, 1) := by decide +kernel
set_option maxRecDepth 20000 in
theorem ggX2_countDisputed_X2_counts : GoodIn wsX2_countDisputed wsX2_counts := goodIn_r _ [7, 8, 9, 10, 21, 22, 23, 24, 25, 26, 27, 28, 29] (by decide +kernel) (by decide +kernel)
set_option maxRecDepth 20000 in
theorem gX2_countDisputed_X2_counts : GoodIn wsX2_countDisputed (wsV RX2 27 RX2 yX2_counts wsX2_counts) := goodIn_app (goodIn_of _ (by decide +kernel)) ggX2_countDisputed_X2_counts
set_option maxRecDepth 20000 in
theorem ggX2_countDisputed_X2_nameIn : GoodIn wsX2_countDisputed wsX2_nameIn := goodIn_r _ [14, 9, 2, 8, 15, 16, 17, 18, 19, 20, 21, 22, 23, 24, 25, 26, 27, 28, 29] (by decide +kernel) (by decide +kernel)
set_option maxRecDepth 20000 in
theorem gX2_countDisputed_X2_nameIn : GoodIn wsX2_countDisputed (wsV RX2 35 RX2 yX2_nameIn wsX2_nameIn) := goodIn_app (goodIn_of _ (by decide +kernel)) ggX2_countDisputed_X2_nameIn
theorem dX2_countDisputed_0 : decode cX2_countDisputed 0 = .ok (.iconst 0, 1) := by decide +kernel
theorem dX2_countDisputed_1 : decode cX2_countDisputed 1 = .ok (.istore_n 1, 1) := by decide +kernel
theorem dX2_countDisputed_2 : decode cX2_countDisputed 2 = .ok (.iconst 0, 1) := by decide +kernel
theorem dX2_countDisputed_3 : decode cX2_countDisputed 3 = .ok (.istore_n 2, 1) := by decide +kernel
theorem dX2_countDisputed_4 : decode cX2_countDisputed 4 = .ok (.iload_n 2, 1) := by decide +kernel
theorem dX2_countDisputed_5 : decode cX2_countDisputed 5 = .ok (.aload_n 0, 1) := by decide +kernel
theorem dX2_countDisputed_6 : decode cX2_countDisputed 6 = .ok (.getfield 19, 3) := by decide +kernel
theorem dX2_countDisputed_9 : decode cX2_countDisputed 9 = .ok (.if_icmp .ge 34, 3) := by decide +kernel
theorem dX2_countDisputed_12 : decode cX2_countDisputed 12 = .ok (.aload_n 0, 1) := by decide +kernel
theorem dX2_countDisputed_13 : decode cX2_countDisputed 13 = .ok (.iload_n 2, 1) := by decide +kernel
theorem dX2_countDisputed_14 : decode cX2_countDisputed 14 = .ok (.invokevirtual 27, 3) := by decide +kernel
theorem dX2_countDisputed_17 : decode cX2_countDisputed 17 = .ok (.ifCond .eq 20, 3) := by decide +kernel
theorem dX2_countDisputed_20 : decode cX2_countDisputed 20 = .ok (.aload_n 0, 1) := by decide +kernel
theorem dX2_countDisputed_21 : decode cX2_countDisputed 21 = .ok (.iload_n 2, 1) := by decide +kernel
theorem dX2_countDisputed_22 : decode cX2_countDisputed 22 = .ok (.invokevirtual 35, 3) := by decide +kernel
theorem dX2_countDisputed_25 : decode cX2_countDisputed 25 = .ok (.aload_n 0, 1) := by decide +kernel
theorem dX2_countDisputed_26 : decode cX2_countDisputed 26 = .ok (.getfield 9, 3) := by decide +kernel
theorem dX2_countDisputed_29 : decode cX2_countDisputed 29 = .ok (.iload_n 2, 1) := by decide +kernel
theorem dX2_countDisputed_30 : decode cX2_countDisputed 30 = .ok (.iaload, 1) := by decide +kernel
theorem dX2_countDisputed_31 : decode cX2_countDisputed 31 = .ok (.if_icmp .eq 6, 3) := by decide +kernel
theorem dX2_countDisputed_34 : decode cX2_countDisputed 34 = .ok (.iinc 1 1, 3) := by decide +kernel
theorem dX2_countDisputed_37 : decode cX2_countDisputed 37 = .ok (.iinc 2 1, 3) := by decide +kernel
theorem dX2_countDisputed_40 : decode cX2_countDisputed 40 = .ok (.goto (-36), 3) := by decide +kernel
theorem dX2_countDisputed_43 : decode cX2_countDisputed 43 = .ok (.iload_n 1, 1) := by decide +kernel
theorem dX2_countDisputed_44 : decode cX2_countDisputed 44 = .ok (.ireturn, 1) := by decide +kernel
theorem dX2_counts_0 : decode cX2_counts 0 = .ok (.aload_n 0, 1) := by decide +kernel
theorem dX2_counts_1 : decode cX2_counts 1 = .ok (.getfield 13, 3) := by decide +kernel
theorem dX2_counts_4 : decode cX2_counts 4 = .ok (.iload_n 1, 1) := by decide +kernel
theorem dX2_counts_5 : decode cX2_counts 5 = .ok (.iaload, 1) := by decide +kernel
theorem dX2_counts_6 : decode cX2_counts 6 = .ok (.aload_n 0, 1) := by decide +kernel
theorem dX2_counts_7 : decode cX2_counts 7 = .ok (.getfield 23, 3) := by decide +kernel
theorem dX2_counts_10 : decode cX2_counts 10 = .ok (.getfield 39, 3) := by decide +kernel
theorem dX2_counts_13 : decode cX2_counts 13 = .ok (.if_icmp .ge 7, 3) := by decide +kernel
theorem dX2_counts_16 : decode cX2_counts 16 = .ok (.iconst 1, 1) := by decide +kernel
theorem dX2_counts_17 : decode cX2_counts 17 = .ok (.goto 4, 3) := by decide +kernel
theorem dX2_counts_20 : decode cX2_counts 20 = .ok (.iconst 0, 1) := by decide +kernel
theorem dX2_counts_21 : decode cX2_counts 21 = .ok (.ireturn, 1) := by decide +kernel
set_option maxRecDepth 20000 in
theorem ggX2_nameIn_X1_nameOf : GoodIn wsX2_nameIn wsX1_nameOf := goodIn_r _ [8, 9, 15, 16, 17, 18] (by decide +kernel) (by decide +kernel)
set_option maxRecDepth 20000 in
theorem gX2_nameIn_X1_nameOf : GoodIn wsX2_nameIn (wsV RX2 43 RX1 yX1_nameOf wsX1_nameOf) := goodIn_app (goodIn_of _ (by decide +kernel)) ggX2_nameIn_X1_nameOf
theorem dX2_nameIn_0 : decode cX2_nameIn 0 = .ok (.aload_n 0, 1) := by decide +kernel
theorem dX2_nameIn_1 : decode cX2_nameIn 1 = .ok (.getfield 23, 3) := by decide +kernel
theorem dX2_nameIn_4 : decode cX2_nameIn 4 = .ok (.aload_n 0, 1) := by decide +kernel
theorem dX2_nameIn_5 : decode cX2_nameIn 5 = .ok (.getfield 9, 3) := by decide +kernel
theorem dX2_nameIn_8 : decode cX2_nameIn 8 = .ok (.iload_n 1, 1) := by decide +kernel
theorem dX2_nameIn_9 : decode cX2_nameIn 9 = .ok (.iaload, 1) := by decide +kernel
theorem dX2_nameIn_10 : decode cX2_nameIn 10 = .ok (.aload_n 0, 1) := by decide +kernel
theorem dX2_nameIn_11 : decode cX2_nameIn 11 = .ok (.getfield 13, 3) := by decide +kernel
theorem dX2_nameIn_14 : decode cX2_nameIn 14 = .ok (.iload_n 1, 1) := by decide +kernel
theorem dX2_nameIn_15 : decode cX2_nameIn 15 = .ok (.iaload, 1) := by decide +kernel
theorem dX2_nameIn_16 : decode cX2_nameIn 16 = .ok (.invokevirtual 43, 3) := by decide +kernel
theorem dX2_nameIn_19 : decode cX2_nameIn 19 = .ok (.ireturn, 1) := by decide +kernel
theorem dX2_hullsShare_0 : decode cX2_hullsShare 0 = .ok (.iload_n 1, 1) := by decide +kernel
theorem dX2_hullsShare_1 : decode cX2_hullsShare 1 = .ok (.lookupswitch 31 #[(0, 27), (1, 29)], 27) := by decide +kernel
theorem dX2_hullsShare_28 : decode cX2_hullsShare 28 = .ok (.iload_n 0, 1) := by decide +kernel
theorem dX2_hullsShare_29 : decode cX2_hullsShare 29 = .ok (.ireturn, 1) := by decide +kernel
theorem dX2_hullsShare_30 : decode cX2_hullsShare 30 = .ok (.iconst 0, 1) := by decide +kernel
theorem dX2_hullsShare_31 : decode cX2_hullsShare 31 = .ok (.ireturn, 1) := by decide +kernel
theorem dX2_hullsShare_32 : decode cX2_hullsShare 32 = .ok (.iload_n 0, 1) := by decide +kernel
theorem dX2_hullsShare_33 : decode cX2_hullsShare 33 = .ok (.iconst 2, 1) := by decide +kernel
theorem dX2_hullsShare_34 : decode cX2_hullsShare 34 = .ok (.idiv, 1) := by decide +kernel
theorem dX2_hullsShare_35 : decode cX2_hullsShare 35 = .ok (.ireturn, 1) := by decide +kernel
theorem dX3_init_0 : decode cX3_init 0 = .ok (.aload_n 0, 1) := by decide +kernel
theorem dX3_init_1 : decode cX3_init 1 = .ok (.invokespecial 3, 3) := by decide +kernel
theorem dX3_init_4 : decode cX3_init 4 = .ok (.aload_n 0, 1) := by decide +kernel
theorem dX3_init_5 : decode cX3_init 5 = .ok (.bipush 6, 2) := by decide +kernel
theorem dX3_init_7 : decode cX3_init 7 = .ok (.newarray .int, 2) := by decide +kernel
theorem dX3_init_9 : decode cX3_init 9 = .ok (.putfield 9, 3) := by decide +kernel
theorem dX3_init_12 : decode cX3_init 12 = .ok (.aload_n 0, 1) := by decide +kernel
theorem dX3_init_13 : decode cX3_init 13 = .ok (.bipush 64, 2) := by decide +kernel
theorem dX3_init_15 : decode cX3_init 15 = .ok (.newarray .int, 2) := by decide +kernel
theorem dX3_init_17 : decode cX3_init 17 = .ok (.putfield 15, 3) := by decide +kernel
theorem dX3_init_20 : decode cX3_init 20 = .ok (.aload_n 0, 1) := by decide +kernel
theorem dX3_init_21 : decode cX3_init 21 = .ok (.bipush 64, 2) := by decide +kernel
theorem dX3_init_23 : decode cX3_init 23 = .ok (.newarray .int, 2) := by decide +kernel
theorem dX3_init_25 : decode cX3_init 25 = .ok (.putfield 18, 3) := by decide +kernel
theorem dX3_init_28 : decode cX3_init 28 = .ok (.return_, 1) := by decide +kernel
set_option maxRecDepth 20000 in
theorem ggX3_countWays_X3_sumTo : GoodIn wsX3_countWays wsX3_sumTo := goodIn_r _ [7, 1, 8, 9, 10, 11, 12, 13, 14, 15, 16, 17, 6, 18, 19, 24, 25, 26] (by decide +kernel) (by decide +kernel)
set_option maxRecDepth 20000 in
theorem gX3_countWays_X3_sumTo : GoodIn wsX3_countWays (wsV RX3 21 RX3 yX3_sumTo wsX3_sumTo) := goodIn_app (goodIn_of _ (by decide +kernel)) ggX3_countWays_X3_sumTo
set_option maxRecDepth 20000 in
theorem ggX3_countWays_X3_sumOn : GoodIn wsX3_countWays wsX3_sumOn := goodIn_r _ [23, 2, 8, 9, 10, 11, 12, 13, 14, 15, 16, 17, 6, 18, 19, 24, 25, 26] (by decide +kernel) (by decide +kernel)
set_option maxRecDepth 20000 in
theorem gX3_countWays_X3_sumOn : GoodIn wsX3_countWays (wsV RX3 25 RX3 yX3_sumOn wsX3_sumOn) := goodIn_app (goodIn_of _ (by decide +kernel)) ggX3_countWays_X3_sumOn
theorem dX3_countWays_0 : decode cX3_countWays 0 = .ok (.aload_n 0, 1) := by decide +kernel
theorem dX3_countWays_1 : decode cX3_countWays 1 = .ok (.getfield 15, 3) := by decide +kernel
theorem dX3_countWays_4 : decode cX3_countWays 4 = .ok (.iconst 0, 1) := by decide +kernel
theorem dX3_countWays_5 : decode cX3_countWays 5 = .ok (.iconst 1, 1) := by decide +kernel
theorem dX3_countWays_6 : decode cX3_countWays 6 = .ok (.iastore, 1) := by decide +kernel
theorem dX3_countWays_7 : decode cX3_countWays 7 = .ok (.iconst 1, 1) := by decide +kernel
theorem dX3_countWays_8 : decode cX3_countWays 8 = .ok (.istore_n 1, 1) := by decide +kernel
theorem dX3_countWays_9 : decode cX3_countWays 9 = .ok (.iload_n 1, 1) := by decide +kernel
theorem dX3_countWays_10 : decode cX3_countWays 10 = .ok (.bipush 63, 2) := by decide +kernel
theorem dX3_countWays_12 : decode cX3_countWays 12 = .ok (.if_icmp .gt 20, 3) := by decide +kernel
theorem dX3_countWays_15 : decode cX3_countWays 15 = .ok (.aload_n 0, 1) := by decide +kernel
theorem dX3_countWays_16 : decode cX3_countWays 16 = .ok (.getfield 15, 3) := by decide +kernel
theorem dX3_countWays_19 : decode cX3_countWays 19 = .ok (.iload_n 1, 1) := by decide +kernel
theorem dX3_countWays_20 : decode cX3_countWays 20 = .ok (.aload_n 0, 1) := by decide +kernel
theorem dX3_countWays_21 : decode cX3_countWays 21 = .ok (.iload_n 1, 1) := by decide +kernel
theorem dX3_countWays_22 : decode cX3_countWays 22 = .ok (.invokevirtual 21, 3) := by decide +kernel
theorem dX3_countWays_25 : decode cX3_countWays 25 = .ok (.iastore, 1) := by decide +kernel
theorem dX3_countWays_26 : decode cX3_countWays 26 = .ok (.iinc 1 1, 3) := by decide +kernel
theorem dX3_countWays_29 : decode cX3_countWays 29 = .ok (.goto (-20), 3) := by decide +kernel
theorem dX3_countWays_32 : decode cX3_countWays 32 = .ok (.aload_n 0, 1) := by decide +kernel
theorem dX3_countWays_33 : decode cX3_countWays 33 = .ok (.getfield 18, 3) := by decide +kernel
theorem dX3_countWays_36 : decode cX3_countWays 36 = .ok (.bipush 63, 2) := by decide +kernel
theorem dX3_countWays_38 : decode cX3_countWays 38 = .ok (.iconst 1, 1) := by decide +kernel
theorem dX3_countWays_39 : decode cX3_countWays 39 = .ok (.iastore, 1) := by decide +kernel
theorem dX3_countWays_40 : decode cX3_countWays 40 = .ok (.bipush 62, 2) := by decide +kernel
theorem dX3_countWays_42 : decode cX3_countWays 42 = .ok (.istore_n 1, 1) := by decide +kernel
theorem dX3_countWays_43 : decode cX3_countWays 43 = .ok (.iload_n 1, 1) := by decide +kernel
theorem dX3_countWays_44 : decode cX3_countWays 44 = .ok (.ifCond .lt 20, 3) := by decide +kernel
theorem dX3_countWays_47 : decode cX3_countWays 47 = .ok (.aload_n 0, 1) := by decide +kernel
theorem dX3_countWays_48 : decode cX3_countWays 48 = .ok (.getfield 18, 3) := by decide +kernel
theorem dX3_countWays_51 : decode cX3_countWays 51 = .ok (.iload_n 1, 1) := by decide +kernel
theorem dX3_countWays_52 : decode cX3_countWays 52 = .ok (.aload_n 0, 1) := by decide +kernel
theorem dX3_countWays_53 : decode cX3_countWays 53 = .ok (.iload_n 1, 1) := by decide +kernel
theorem dX3_countWays_54 : decode cX3_countWays 54 = .ok (.invokevirtual 25, 3) := by decide +kernel
theorem dX3_countWays_57 : decode cX3_countWays 57 = .ok (.iastore, 1) := by decide +kernel
theorem dX3_countWays_58 : decode cX3_countWays 58 = .ok (.iinc 1 (-1), 3) := by decide +kernel
theorem dX3_countWays_61 : decode cX3_countWays 61 = .ok (.goto (-18), 3) := by decide +kernel
theorem dX3_countWays_64 : decode cX3_countWays 64 = .ok (.return_, 1) := by decide +kernel
theorem dX3_rows_0 : decode cX3_rows 0 = .ok (.aload_n 0, 1) := by decide +kernel
theorem dX3_rows_1 : decode cX3_rows 1 = .ok (.getfield 18, 3) := by decide +kernel
theorem dX3_rows_4 : decode cX3_rows 4 = .ok (.iconst 0, 1) := by decide +kernel
theorem dX3_rows_5 : decode cX3_rows 5 = .ok (.iaload, 1) := by decide +kernel
theorem dX3_rows_6 : decode cX3_rows 6 = .ok (.ireturn, 1) := by decide +kernel
set_option maxRecDepth 20000 in
theorem ggX3_rowsWith_J6_bitCount_0f7a4 : GoodIn wsX3_rowsWith wsJ6_bitCount_0f7a4 := goodIn_r _ [6, 7, 8, 9] (by decide +kernel) (by decide +kernel)
set_option maxRecDepth 20000 in
theorem gX3_rowsWith_J6_bitCount_0f7a4 : GoodIn wsX3_rowsWith (va_wsS RX3 28 yJ6_bitCount_0f7a4 wsJ6_bitCount_0f7a4) := goodIn_app (goodIn_of _ (by decide +kernel)) ggX3_rowsWith_J6_bitCount_0f7a4
set_option maxRecDepth 20000 in
theorem ggX3_rowsWith_X3_mayTake : GoodIn wsX3_rowsWith wsX3_mayTake := goodIn_r _ [14, 15, 16, 17, 18] (by decide +kernel) (by decide +kernel)
set_option maxRecDepth 20000 in
theorem gX3_rowsWith_X3_mayTake : GoodIn wsX3_rowsWith (wsV RX3 33 RX3 yX3_mayTake wsX3_mayTake) := goodIn_app (goodIn_of _ (by decide +kernel)) ggX3_rowsWith_X3_mayTake
theorem dX3_rowsWith_0 : decode cX3_rowsWith 0 = .ok (.iconst 0, 1) := by decide +kernel
theorem dX3_rowsWith_1 : decode cX3_rowsWith 1 = .ok (.istore_n 3, 1) := by decide +kernel
theorem dX3_rowsWith_2 : decode cX3_rowsWith 2 = .ok (.iconst 0, 1) := by decide +kernel
theorem dX3_rowsWith_3 : decode cX3_rowsWith 3 = .ok (.istore 4, 2) := by decide +kernel
theorem dX3_rowsWith_5 : decode cX3_rowsWith 5 = .ok (.iload 4, 2) := by decide +kernel
theorem dX3_rowsWith_7 : decode cX3_rowsWith 7 = .ok (.bipush 63, 2) := by decide +kernel
theorem dX3_rowsWith_9 : decode cX3_rowsWith 9 = .ok (.if_icmp .gt 51, 3) := by decide +kernel
theorem dX3_rowsWith_12 : decode cX3_rowsWith 12 = .ok (.iload 4, 2) := by decide +kernel
theorem dX3_rowsWith_14 : decode cX3_rowsWith 14 = .ok (.invokestatic 28, 3) := by decide +kernel
theorem dX3_rowsWith_17 : decode cX3_rowsWith 17 = .ok (.iload_n 1, 1) := by decide +kernel
theorem dX3_rowsWith_18 : decode cX3_rowsWith 18 = .ok (.if_icmp .ne 36, 3) := by decide +kernel
theorem dX3_rowsWith_21 : decode cX3_rowsWith 21 = .ok (.aload_n 0, 1) := by decide +kernel
theorem dX3_rowsWith_22 : decode cX3_rowsWith 22 = .ok (.iload 4, 2) := by decide +kernel
theorem dX3_rowsWith_24 : decode cX3_rowsWith 24 = .ok (.iload_n 1, 1) := by decide +kernel
theorem dX3_rowsWith_25 : decode cX3_rowsWith 25 = .ok (.iload_n 2, 1) := by decide +kernel
theorem dX3_rowsWith_26 : decode cX3_rowsWith 26 = .ok (.invokevirtual 33, 3) := by decide +kernel
theorem dX3_rowsWith_29 : decode cX3_rowsWith 29 = .ok (.ifCond .eq 25, 3) := by decide +kernel
theorem dX3_rowsWith_32 : decode cX3_rowsWith 32 = .ok (.iload_n 3, 1) := by decide +kernel
theorem dX3_rowsWith_33 : decode cX3_rowsWith 33 = .ok (.aload_n 0, 1) := by decide +kernel
theorem dX3_rowsWith_34 : decode cX3_rowsWith 34 = .ok (.getfield 15, 3) := by decide +kernel
theorem dX3_rowsWith_37 : decode cX3_rowsWith 37 = .ok (.iload 4, 2) := by decide +kernel
theorem dX3_rowsWith_39 : decode cX3_rowsWith 39 = .ok (.iaload, 1) := by decide +kernel
theorem dX3_rowsWith_40 : decode cX3_rowsWith 40 = .ok (.aload_n 0, 1) := by decide +kernel
theorem dX3_rowsWith_41 : decode cX3_rowsWith 41 = .ok (.getfield 18, 3) := by decide +kernel
theorem dX3_rowsWith_44 : decode cX3_rowsWith 44 = .ok (.iload 4, 2) := by decide +kernel
theorem dX3_rowsWith_46 : decode cX3_rowsWith 46 = .ok (.iconst 1, 1) := by decide +kernel
theorem dX3_rowsWith_47 : decode cX3_rowsWith 47 = .ok (.iload_n 2, 1) := by decide +kernel
theorem dX3_rowsWith_48 : decode cX3_rowsWith 48 = .ok (.ishl, 1) := by decide +kernel
theorem dX3_rowsWith_49 : decode cX3_rowsWith 49 = .ok (.ior, 1) := by decide +kernel
theorem dX3_rowsWith_50 : decode cX3_rowsWith 50 = .ok (.iaload, 1) := by decide +kernel
theorem dX3_rowsWith_51 : decode cX3_rowsWith 51 = .ok (.imul, 1) := by decide +kernel
theorem dX3_rowsWith_52 : decode cX3_rowsWith 52 = .ok (.iadd, 1) := by decide +kernel
theorem dX3_rowsWith_53 : decode cX3_rowsWith 53 = .ok (.istore_n 3, 1) := by decide +kernel
theorem dX3_rowsWith_54 : decode cX3_rowsWith 54 = .ok (.iinc 4 1, 3) := by decide +kernel
theorem dX3_rowsWith_57 : decode cX3_rowsWith 57 = .ok (.goto (-52), 3) := by decide +kernel
theorem dX3_rowsWith_60 : decode cX3_rowsWith 60 = .ok (.iload_n 3, 1) := by decide +kernel
theorem dX3_rowsWith_61 : decode cX3_rowsWith 61 = .ok (.ireturn, 1) := by decide +kernel
set_option maxRecDepth 20000 in
theorem ggX3_firstRowName_X3_leastThatGoesOn : GoodIn wsX3_firstRowName wsX3_leastThatGoesOn := goodIn_r _ [5, 6, 7, 8, 9, 4, 10, 11, 12, 13, 14] (by decide +kernel) (by decide +kernel)
set_option maxRecDepth 20000 in
theorem gX3_firstRowName_X3_leastThatGoesOn : GoodIn wsX3_firstRowName (wsV RX3 37 RX3 yX3_leastThatGoesOn wsX3_leastThatGoesOn) := goodIn_app (goodIn_of _ (by decide +kernel)) ggX3_firstRowName_X3_leastThatGoesOn
theorem dX3_firstRowName_0 : decode cX3_firstRowName 0 = .ok (.iconst 0, 1) := by decide +kernel
theorem dX3_firstRowName_1 : decode cX3_firstRowName 1 = .ok (.istore_n 2, 1) := by decide +kernel
theorem dX3_firstRowName_2 : decode cX3_firstRowName 2 = .ok (.iconst (-1), 1) := by decide +kernel
theorem dX3_firstRowName_3 : decode cX3_firstRowName 3 = .ok (.istore_n 3, 1) := by decide +kernel
theorem dX3_firstRowName_4 : decode cX3_firstRowName 4 = .ok (.iconst 0, 1) := by decide +kernel
theorem dX3_firstRowName_5 : decode cX3_firstRowName 5 = .ok (.istore 4, 2) := by decide +kernel
theorem dX3_firstRowName_7 : decode cX3_firstRowName 7 = .ok (.iload 4, 2) := by decide +kernel
theorem dX3_firstRowName_9 : decode cX3_firstRowName 9 = .ok (.iload_n 1, 1) := by decide +kernel
theorem dX3_firstRowName_10 : decode cX3_firstRowName 10 = .ok (.if_icmp .gt 30, 3) := by decide +kernel
theorem dX3_firstRowName_13 : decode cX3_firstRowName 13 = .ok (.aload_n 0, 1) := by decide +kernel
theorem dX3_firstRowName_14 : decode cX3_firstRowName 14 = .ok (.iload_n 2, 1) := by decide +kernel
theorem dX3_firstRowName_15 : decode cX3_firstRowName 15 = .ok (.iload 4, 2) := by decide +kernel
theorem dX3_firstRowName_17 : decode cX3_firstRowName 17 = .ok (.invokevirtual 37, 3) := by decide +kernel
theorem dX3_firstRowName_20 : decode cX3_firstRowName 20 = .ok (.istore_n 3, 1) := by decide +kernel
theorem dX3_firstRowName_21 : decode cX3_firstRowName 21 = .ok (.iload_n 3, 1) := by decide +kernel
theorem dX3_firstRowName_22 : decode cX3_firstRowName 22 = .ok (.iconst (-1), 1) := by decide +kernel
theorem dX3_firstRowName_23 : decode cX3_firstRowName 23 = .ok (.if_icmp .ne 5, 3) := by decide +kernel
theorem dX3_firstRowName_26 : decode cX3_firstRowName 26 = .ok (.iconst (-1), 1) := by decide +kernel
theorem dX3_firstRowName_27 : decode cX3_firstRowName 27 = .ok (.ireturn, 1) := by decide +kernel
theorem dX3_firstRowName_28 : decode cX3_firstRowName 28 = .ok (.iload_n 2, 1) := by decide +kernel
theorem dX3_firstRowName_29 : decode cX3_firstRowName 29 = .ok (.iconst 1, 1) := by decide +kernel
theorem dX3_firstRowName_30 : decode cX3_firstRowName 30 = .ok (.iload_n 3, 1) := by decide +kernel
theorem dX3_firstRowName_31 : decode cX3_firstRowName 31 = .ok (.ishl, 1) := by decide +kernel
theorem dX3_firstRowName_32 : decode cX3_firstRowName 32 = .ok (.ior, 1) := by decide +kernel
theorem dX3_firstRowName_33 : decode cX3_firstRowName 33 = .ok (.istore_n 2, 1) := by decide +kernel
theorem dX3_firstRowName_34 : decode cX3_firstRowName 34 = .ok (.iinc 4 1, 3) := by decide +kernel
theorem dX3_firstRowName_37 : decode cX3_firstRowName 37 = .ok (.goto (-30), 3) := by decide +kernel
theorem dX3_firstRowName_40 : decode cX3_firstRowName 40 = .ok (.iload_n 3, 1) := by decide +kernel
theorem dX3_firstRowName_41 : decode cX3_firstRowName 41 = .ok (.ireturn, 1) := by decide +kernel
set_option maxRecDepth 20000 in
theorem ggX3_leastThatGoesOn_X3_mayTake : GoodIn wsX3_leastThatGoesOn wsX3_mayTake := goodIn_r _ [6, 7, 8, 9, 10] (by decide +kernel) (by decide +kernel)
set_option maxRecDepth 20000 in
theorem gX3_leastThatGoesOn_X3_mayTake : GoodIn wsX3_leastThatGoesOn (wsV RX3 33 RX3 yX3_mayTake wsX3_mayTake) := goodIn_app (goodIn_of _ (by decide +kernel)) ggX3_leastThatGoesOn_X3_mayTake
theorem dX3_leastThatGoesOn_0 : decode cX3_leastThatGoesOn 0 = .ok (.iconst 0, 1) := by decide +kernel
theorem dX3_leastThatGoesOn_1 : decode cX3_leastThatGoesOn 1 = .ok (.istore_n 3, 1) := by decide +kernel
theorem dX3_leastThatGoesOn_2 : decode cX3_leastThatGoesOn 2 = .ok (.iload_n 3, 1) := by decide +kernel
theorem dX3_leastThatGoesOn_3 : decode cX3_leastThatGoesOn 3 = .ok (.bipush 6, 2) := by decide +kernel
theorem dX3_leastThatGoesOn_5 : decode cX3_leastThatGoesOn 5 = .ok (.if_icmp .ge 34, 3) := by decide +kernel
theorem dX3_leastThatGoesOn_8 : decode cX3_leastThatGoesOn 8 = .ok (.aload_n 0, 1) := by decide +kernel
theorem dX3_leastThatGoesOn_9 : decode cX3_leastThatGoesOn 9 = .ok (.iload_n 1, 1) := by decide +kernel
theorem dX3_leastThatGoesOn_10 : decode cX3_leastThatGoesOn 10 = .ok (.iload_n 2, 1) := by decide +kernel
theorem dX3_leastThatGoesOn_11 : decode cX3_leastThatGoesOn 11 = .ok (.iload_n 3, 1) := by decide +kernel
theorem dX3_leastThatGoesOn_12 : decode cX3_leastThatGoesOn 12 = .ok (.invokevirtual 33, 3) := by decide +kernel
theorem dX3_leastThatGoesOn_15 : decode cX3_leastThatGoesOn 15 = .ok (.ifCond .eq 18, 3) := by decide +kernel
theorem dX3_leastThatGoesOn_18 : decode cX3_leastThatGoesOn 18 = .ok (.aload_n 0, 1) := by decide +kernel
theorem dX3_leastThatGoesOn_19 : decode cX3_leastThatGoesOn 19 = .ok (.getfield 18, 3) := by decide +kernel
theorem dX3_leastThatGoesOn_22 : decode cX3_leastThatGoesOn 22 = .ok (.iload_n 1, 1) := by decide +kernel
theorem dX3_leastThatGoesOn_23 : decode cX3_leastThatGoesOn 23 = .ok (.iconst 1, 1) := by decide +kernel
theorem dX3_leastThatGoesOn_24 : decode cX3_leastThatGoesOn 24 = .ok (.iload_n 3, 1) := by decide +kernel
theorem dX3_leastThatGoesOn_25 : decode cX3_leastThatGoesOn 25 = .ok (.ishl, 1) := by decide +kernel
theorem dX3_leastThatGoesOn_26 : decode cX3_leastThatGoesOn 26 = .ok (.ior, 1) := by decide +kernel
theorem dX3_leastThatGoesOn_27 : decode cX3_leastThatGoesOn 27 = .ok (.iaload, 1) := by decide +kernel
theorem dX3_leastThatGoesOn_28 : decode cX3_leastThatGoesOn 28 = .ok (.ifCond .le 5, 3) := by decide +kernel
theorem dX3_leastThatGoesOn_31 : decode cX3_leastThatGoesOn 31 = .ok (.iload_n 3, 1) := by decide +kernel
theorem dX3_leastThatGoesOn_32 : decode cX3_leastThatGoesOn 32 = .ok (.ireturn, 1) := by decide +kernel
theorem dX3_leastThatGoesOn_33 : decode cX3_leastThatGoesOn 33 = .ok (.iinc 3 1, 3) := by decide +kernel
theorem dX3_leastThatGoesOn_36 : decode cX3_leastThatGoesOn 36 = .ok (.goto (-34), 3) := by decide +kernel
theorem dX3_leastThatGoesOn_39 : decode cX3_leastThatGoesOn 39 = .ok (.iconst (-1), 1) := by decide +kernel
theorem dX3_leastThatGoesOn_40 : decode cX3_leastThatGoesOn 40 = .ok (.ireturn, 1) := by decide +kernel
set_option maxRecDepth 20000 in
theorem ggX3_sumTo_J6_bitCount_0f7a4 : GoodIn wsX3_sumTo wsJ6_bitCount_0f7a4 := goodIn_r _ [5, 6, 7, 8] (by decide +kernel) (by decide +kernel)
set_option maxRecDepth 20000 in
theorem gX3_sumTo_J6_bitCount_0f7a4 : GoodIn wsX3_sumTo (va_wsS RX3 28 yJ6_bitCount_0f7a4 wsJ6_bitCount_0f7a4) := goodIn_app (goodIn_of _ (by decide +kernel)) ggX3_sumTo_J6_bitCount_0f7a4
set_option maxRecDepth 20000 in
theorem ggX3_sumTo_X3_mayTake : GoodIn wsX3_sumTo wsX3_mayTake := goodIn_r _ [13, 14, 15, 16, 17] (by decide +kernel) (by decide +kernel)
set_option maxRecDepth 20000 in
theorem gX3_sumTo_X3_mayTake : GoodIn wsX3_sumTo (wsV RX3 33 RX3 yX3_mayTake wsX3_mayTake) := goodIn_app (goodIn_of _ (by decide +kernel)) ggX3_sumTo_X3_mayTake
theorem dX3_sumTo_0 : decode cX3_sumTo 0 = .ok (.iload_n 1, 1) := by decide +kernel
theorem dX3_sumTo_1 : decode cX3_sumTo 1 = .ok (.invokestatic 28, 3) := by decide +kernel
theorem dX3_sumTo_4 : decode cX3_sumTo 4 = .ok (.iconst 1, 1) := by decide +kernel
theorem dX3_sumTo_5 : decode cX3_sumTo 5 = .ok (.isub, 1) := by decide +kernel
theorem dX3_sumTo_6 : decode cX3_sumTo 6 = .ok (.istore_n 2, 1) := by decide +kernel
theorem dX3_sumTo_7 : decode cX3_sumTo 7 = .ok (.iconst 0, 1) := by decide +kernel
theorem dX3_sumTo_8 : decode cX3_sumTo 8 = .ok (.istore_n 3, 1) := by decide +kernel
theorem dX3_sumTo_9 : decode cX3_sumTo 9 = .ok (.iconst 0, 1) := by decide +kernel
theorem dX3_sumTo_10 : decode cX3_sumTo 10 = .ok (.istore 4, 2) := by decide +kernel
theorem dX3_sumTo_12 : decode cX3_sumTo 12 = .ok (.iload 4, 2) := by decide +kernel
theorem dX3_sumTo_14 : decode cX3_sumTo 14 = .ok (.bipush 6, 2) := by decide +kernel
theorem dX3_sumTo_16 : decode cX3_sumTo 16 = .ok (.if_icmp .ge 47, 3) := by decide +kernel
theorem dX3_sumTo_19 : decode cX3_sumTo 19 = .ok (.iload_n 1, 1) := by decide +kernel
theorem dX3_sumTo_20 : decode cX3_sumTo 20 = .ok (.iconst 1, 1) := by decide +kernel
theorem dX3_sumTo_21 : decode cX3_sumTo 21 = .ok (.iload 4, 2) := by decide +kernel
theorem dX3_sumTo_23 : decode cX3_sumTo 23 = .ok (.ishl, 1) := by decide +kernel
theorem dX3_sumTo_24 : decode cX3_sumTo 24 = .ok (.iconst (-1), 1) := by decide +kernel
theorem dX3_sumTo_25 : decode cX3_sumTo 25 = .ok (.ixor, 1) := by decide +kernel
theorem dX3_sumTo_26 : decode cX3_sumTo 26 = .ok (.iand, 1) := by decide +kernel
theorem dX3_sumTo_27 : decode cX3_sumTo 27 = .ok (.istore 5, 2) := by decide +kernel
theorem dX3_sumTo_29 : decode cX3_sumTo 29 = .ok (.iload 5, 2) := by decide +kernel
theorem dX3_sumTo_31 : decode cX3_sumTo 31 = .ok (.iload_n 1, 1) := by decide +kernel
theorem dX3_sumTo_32 : decode cX3_sumTo 32 = .ok (.if_icmp .eq 25, 3) := by decide +kernel
theorem dX3_sumTo_35 : decode cX3_sumTo 35 = .ok (.aload_n 0, 1) := by decide +kernel
theorem dX3_sumTo_36 : decode cX3_sumTo 36 = .ok (.iload 5, 2) := by decide +kernel
theorem dX3_sumTo_38 : decode cX3_sumTo 38 = .ok (.iload_n 2, 1) := by decide +kernel
theorem dX3_sumTo_39 : decode cX3_sumTo 39 = .ok (.iload 4, 2) := by decide +kernel
theorem dX3_sumTo_41 : decode cX3_sumTo 41 = .ok (.invokevirtual 33, 3) := by decide +kernel
theorem dX3_sumTo_44 : decode cX3_sumTo 44 = .ok (.ifCond .eq 13, 3) := by decide +kernel
theorem dX3_sumTo_47 : decode cX3_sumTo 47 = .ok (.iload_n 3, 1) := by decide +kernel
theorem dX3_sumTo_48 : decode cX3_sumTo 48 = .ok (.aload_n 0, 1) := by decide +kernel
theorem dX3_sumTo_49 : decode cX3_sumTo 49 = .ok (.getfield 15, 3) := by decide +kernel
theorem dX3_sumTo_52 : decode cX3_sumTo 52 = .ok (.iload 5, 2) := by decide +kernel
theorem dX3_sumTo_54 : decode cX3_sumTo 54 = .ok (.iaload, 1) := by decide +kernel
theorem dX3_sumTo_55 : decode cX3_sumTo 55 = .ok (.iadd, 1) := by decide +kernel
theorem dX3_sumTo_56 : decode cX3_sumTo 56 = .ok (.istore_n 3, 1) := by decide +kernel
theorem dX3_sumTo_57 : decode cX3_sumTo 57 = .ok (.iinc 4 1, 3) := by decide +kernel
theorem dX3_sumTo_60 : decode cX3_sumTo 60 = .ok (.goto (-48), 3) := by decide +kernel
theorem dX3_sumTo_63 : decode cX3_sumTo 63 = .ok (.iload_n 3, 1) := by decide +kernel
theorem dX3_sumTo_64 : decode cX3_sumTo 64 = .ok (.ireturn, 1) := by decide +kernel
set_option maxRecDepth 20000 in
theorem ggX3_sumOn_J6_bitCount_0f7a4 : GoodIn wsX3_sumOn wsJ6_bitCount_0f7a4 := goodIn_r _ [5, 6, 7, 8] (by decide +kernel) (by decide +kernel)
set_option maxRecDepth 20000 in
theorem gX3_sumOn_J6_bitCount_0f7a4 : GoodIn wsX3_sumOn (va_wsS RX3 28 yJ6_bitCount_0f7a4 wsJ6_bitCount_0f7a4) := goodIn_app (goodIn_of _ (by decide +kernel)) ggX3_sumOn_J6_bitCount_0f7a4
set_option maxRecDepth 20000 in
theorem ggX3_sumOn_X3_mayTake : GoodIn wsX3_sumOn wsX3_mayTake := goodIn_r _ [13, 14, 15, 16, 17] (by decide +kernel) (by decide +kernel)
set_option maxRecDepth 20000 in
theorem gX3_sumOn_X3_mayTake : GoodIn wsX3_sumOn (wsV RX3 33 RX3 yX3_mayTake wsX3_mayTake) := goodIn_app (goodIn_of _ (by decide +kernel)) ggX3_sumOn_X3_mayTake
theorem dX3_sumOn_0 : decode cX3_sumOn 0 = .ok (.iload_n 1, 1) := by decide +kernel
theorem dX3_sumOn_1 : decode cX3_sumOn 1 = .ok (.invokestatic 28, 3) := by decide +kernel
theorem dX3_sumOn_4 : decode cX3_sumOn 4 = .ok (.istore_n 2, 1) := by decide +kernel
theorem dX3_sumOn_5 : decode cX3_sumOn 5 = .ok (.iconst 0, 1) := by decide +kernel
theorem dX3_sumOn_6 : decode cX3_sumOn 6 = .ok (.istore_n 3, 1) := by decide +kernel
theorem dX3_sumOn_7 : decode cX3_sumOn 7 = .ok (.iconst 0, 1) := by decide +kernel
theorem dX3_sumOn_8 : decode cX3_sumOn 8 = .ok (.istore 4, 2) := by decide +kernel
theorem dX3_sumOn_10 : decode cX3_sumOn 10 = .ok (.iload 4, 2) := by decide +kernel
theorem dX3_sumOn_12 : decode cX3_sumOn 12 = .ok (.bipush 6, 2) := by decide +kernel
theorem dX3_sumOn_14 : decode cX3_sumOn 14 = .ok (.if_icmp .ge 34, 3) := by decide +kernel
theorem dX3_sumOn_17 : decode cX3_sumOn 17 = .ok (.aload_n 0, 1) := by decide +kernel
theorem dX3_sumOn_18 : decode cX3_sumOn 18 = .ok (.iload_n 1, 1) := by decide +kernel
theorem dX3_sumOn_19 : decode cX3_sumOn 19 = .ok (.iload_n 2, 1) := by decide +kernel
theorem dX3_sumOn_20 : decode cX3_sumOn 20 = .ok (.iload 4, 2) := by decide +kernel
theorem dX3_sumOn_22 : decode cX3_sumOn 22 = .ok (.invokevirtual 33, 3) := by decide +kernel
theorem dX3_sumOn_25 : decode cX3_sumOn 25 = .ok (.ifCond .eq 17, 3) := by decide +kernel
theorem dX3_sumOn_28 : decode cX3_sumOn 28 = .ok (.iload_n 3, 1) := by decide +kernel
theorem dX3_sumOn_29 : decode cX3_sumOn 29 = .ok (.aload_n 0, 1) := by decide +kernel
theorem dX3_sumOn_30 : decode cX3_sumOn 30 = .ok (.getfield 18, 3) := by decide +kernel
theorem dX3_sumOn_33 : decode cX3_sumOn 33 = .ok (.iload_n 1, 1) := by decide +kernel
theorem dX3_sumOn_34 : decode cX3_sumOn 34 = .ok (.iconst 1, 1) := by decide +kernel
theorem dX3_sumOn_35 : decode cX3_sumOn 35 = .ok (.iload 4, 2) := by decide +kernel
theorem dX3_sumOn_37 : decode cX3_sumOn 37 = .ok (.ishl, 1) := by decide +kernel
theorem dX3_sumOn_38 : decode cX3_sumOn 38 = .ok (.ior, 1) := by decide +kernel
theorem dX3_sumOn_39 : decode cX3_sumOn 39 = .ok (.iaload, 1) := by decide +kernel
theorem dX3_sumOn_40 : decode cX3_sumOn 40 = .ok (.iadd, 1) := by decide +kernel
theorem dX3_sumOn_41 : decode cX3_sumOn 41 = .ok (.istore_n 3, 1) := by decide +kernel
theorem dX3_sumOn_42 : decode cX3_sumOn 42 = .ok (.iinc 4 1, 3) := by decide +kernel
theorem dX3_sumOn_45 : decode cX3_sumOn 45 = .ok (.goto (-35), 3) := by decide +kernel
theorem dX3_sumOn_48 : decode cX3_sumOn 48 = .ok (.iload_n 3, 1) := by decide +kernel
theorem dX3_sumOn_49 : decode cX3_sumOn 49 = .ok (.ireturn, 1) := by decide +kernel
theorem dX3_mayTake_0 : decode cX3_mayTake 0 = .ok (.aload_n 0, 1) := by decide +kernel
theorem dX3_mayTake_1 : decode cX3_mayTake 1 = .ok (.getfield 9, 3) := by decide +kernel
theorem dX3_mayTake_4 : decode cX3_mayTake 4 = .ok (.iload_n 2, 1) := by decide +kernel
theorem dX3_mayTake_5 : decode cX3_mayTake 5 = .ok (.iaload, 1) := by decide +kernel
theorem dX3_mayTake_6 : decode cX3_mayTake 6 = .ok (.iload_n 1, 1) := by decide +kernel
theorem dX3_mayTake_7 : decode cX3_mayTake 7 = .ok (.iconst (-1), 1) := by decide +kernel
theorem dX3_mayTake_8 : decode cX3_mayTake 8 = .ok (.ixor, 1) := by decide +kernel
theorem dX3_mayTake_9 : decode cX3_mayTake 9 = .ok (.iand, 1) := by decide +kernel
theorem dX3_mayTake_10 : decode cX3_mayTake 10 = .ok (.iconst 1, 1) := by decide +kernel
theorem dX3_mayTake_11 : decode cX3_mayTake 11 = .ok (.iload_n 3, 1) := by decide +kernel
theorem dX3_mayTake_12 : decode cX3_mayTake 12 = .ok (.ishl, 1) := by decide +kernel
theorem dX3_mayTake_13 : decode cX3_mayTake 13 = .ok (.iand, 1) := by decide +kernel
theorem dX3_mayTake_14 : decode cX3_mayTake 14 = .ok (.ifCond .eq 7, 3) := by decide +kernel
theorem dX3_mayTake_17 : decode cX3_mayTake 17 = .ok (.iconst 1, 1) := by decide +kernel
theorem dX3_mayTake_18 : decode cX3_mayTake 18 = .ok (.goto 4, 3) := by decide +kernel
theorem dX3_mayTake_21 : decode cX3_mayTake 21 = .ok (.iconst 0, 1) := by decide +kernel
theorem dX3_mayTake_22 : decode cX3_mayTake 22 = .ok (.ireturn, 1) := by decide +kernel
theorem dX4_init_0 : decode cX4_init 0 = .ok (.aload_n 0, 1) := by decide +kernel
theorem dX4_init_1 : decode cX4_init 1 = .ok (.invokespecial 3, 3) := by decide +kernel
theorem dX4_init_4 : decode cX4_init 4 = .ok (.aload_n 0, 1) := by decide +kernel
theorem dX4_init_5 : decode cX4_init 5 = .ok (.iconst 2, 1) := by decide +kernel
theorem dX4_init_6 : decode cX4_init 6 = .ok (.bipush 6, 2) := by decide +kernel
theorem dX4_init_8 : decode cX4_init 8 = .ok (.multianewarray 9 2, 4) := by decide +kernel
theorem dX4_init_12 : decode cX4_init 12 = .ok (.putfield 11, 3) := by decide +kernel
theorem dX4_init_15 : decode cX4_init 15 = .ok (.aload_n 0, 1) := by decide +kernel
theorem dX4_init_16 : decode cX4_init 16 = .ok (.iconst 3, 1) := by decide +kernel
theorem dX4_init_17 : decode cX4_init 17 = .ok (.bipush 6, 2) := by decide +kernel
theorem dX4_init_19 : decode cX4_init 19 = .ok (.multianewarray 9 2, 4) := by decide +kernel
theorem dX4_init_23 : decode cX4_init 23 = .ok (.putfield 16, 3) := by decide +kernel
theorem dX4_init_26 : decode cX4_init 26 = .ok (.iconst 0, 1) := by decide +kernel
theorem dX4_init_27 : decode cX4_init 27 = .ok (.istore_n 1, 1) := by decide +kernel
theorem dX4_init_28 : decode cX4_init 28 = .ok (.iload_n 1, 1) := by decide +kernel
theorem dX4_init_29 : decode cX4_init 29 = .ok (.bipush 6, 2) := by decide +kernel
theorem dX4_init_31 : decode cX4_init 31 = .ok (.if_icmp .ge 58, 3) := by decide +kernel
theorem dX4_init_34 : decode cX4_init 34 = .ok (.aload_n 0, 1) := by decide +kernel
theorem dX4_init_35 : decode cX4_init 35 = .ok (.getfield 11, 3) := by decide +kernel
theorem dX4_init_38 : decode cX4_init 38 = .ok (.iconst 0, 1) := by decide +kernel
theorem dX4_init_39 : decode cX4_init 39 = .ok (.aaload, 1) := by decide +kernel
theorem dX4_init_40 : decode cX4_init 40 = .ok (.iload_n 1, 1) := by decide +kernel
theorem dX4_init_41 : decode cX4_init 41 = .ok (.iload_n 1, 1) := by decide +kernel
theorem dX4_init_42 : decode cX4_init 42 = .ok (.iconst 1, 1) := by decide +kernel
theorem dX4_init_43 : decode cX4_init 43 = .ok (.iadd, 1) := by decide +kernel
theorem dX4_init_44 : decode cX4_init 44 = .ok (.iastore, 1) := by decide +kernel
theorem dX4_init_45 : decode cX4_init 45 = .ok (.aload_n 0, 1) := by decide +kernel
theorem dX4_init_46 : decode cX4_init 46 = .ok (.getfield 11, 3) := by decide +kernel
theorem dX4_init_49 : decode cX4_init 49 = .ok (.iconst 1, 1) := by decide +kernel
theorem dX4_init_50 : decode cX4_init 50 = .ok (.aaload, 1) := by decide +kernel
theorem dX4_init_51 : decode cX4_init 51 = .ok (.iload_n 1, 1) := by decide +kernel
theorem dX4_init_52 : decode cX4_init 52 = .ok (.iconst 5, 1) := by decide +kernel
theorem dX4_init_53 : decode cX4_init 53 = .ok (.iastore, 1) := by decide +kernel
theorem dX4_init_54 : decode cX4_init 54 = .ok (.aload_n 0, 1) := by decide +kernel
theorem dX4_init_55 : decode cX4_init 55 = .ok (.getfield 16, 3) := by decide +kernel
theorem dX4_init_58 : decode cX4_init 58 = .ok (.iconst 0, 1) := by decide +kernel
theorem dX4_init_59 : decode cX4_init 59 = .ok (.aaload, 1) := by decide +kernel
theorem dX4_init_60 : decode cX4_init 60 = .ok (.iload_n 1, 1) := by decide +kernel
theorem dX4_init_61 : decode cX4_init 61 = .ok (.iconst 3, 1) := by decide +kernel
theorem dX4_init_62 : decode cX4_init 62 = .ok (.iastore, 1) := by decide +kernel
theorem dX4_init_63 : decode cX4_init 63 = .ok (.aload_n 0, 1) := by decide +kernel
theorem dX4_init_64 : decode cX4_init 64 = .ok (.getfield 16, 3) := by decide +kernel
theorem dX4_init_67 : decode cX4_init 67 = .ok (.iconst 1, 1) := by decide +kernel
theorem dX4_init_68 : decode cX4_init 68 = .ok (.aaload, 1) := by decide +kernel
theorem dX4_init_69 : decode cX4_init 69 = .ok (.iload_n 1, 1) := by decide +kernel
theorem dX4_init_70 : decode cX4_init 70 = .ok (.iconst 5, 1) := by decide +kernel
theorem dX4_init_71 : decode cX4_init 71 = .ok (.iastore, 1) := by decide +kernel
theorem dX4_init_72 : decode cX4_init 72 = .ok (.aload_n 0, 1) := by decide +kernel
theorem dX4_init_73 : decode cX4_init 73 = .ok (.getfield 16, 3) := by decide +kernel
theorem dX4_init_76 : decode cX4_init 76 = .ok (.iconst 2, 1) := by decide +kernel
theorem dX4_init_77 : decode cX4_init 77 = .ok (.aaload, 1) := by decide +kernel
theorem dX4_init_78 : decode cX4_init 78 = .ok (.iload_n 1, 1) := by decide +kernel
theorem dX4_init_79 : decode cX4_init 79 = .ok (.iload_n 1, 1) := by decide +kernel
theorem dX4_init_80 : decode cX4_init 80 = .ok (.iconst 1, 1) := by decide +kernel
theorem dX4_init_81 : decode cX4_init 81 = .ok (.iadd, 1) := by decide +kernel
theorem dX4_init_82 : decode cX4_init 82 = .ok (.iastore, 1) := by decide +kernel
theorem dX4_init_83 : decode cX4_init 83 = .ok (.iinc 1 1, 3) := by decide +kernel
theorem dX4_init_86 : decode cX4_init 86 = .ok (.goto (-58), 3) := by decide +kernel
theorem dX4_init_89 : decode cX4_init 89 = .ok (.return_, 1) := by decide +kernel
theorem dX4_suits_0 : decode cX4_suits 0 = .ok (.aload_n 0, 1) := by decide +kernel
theorem dX4_suits_1 : decode cX4_suits 1 = .ok (.getfield 11, 3) := by decide +kernel
theorem dX4_suits_4 : decode cX4_suits 4 = .ok (.iconst 0, 1) := by decide +kernel
theorem dX4_suits_5 : decode cX4_suits 5 = .ok (.aaload, 1) := by decide +kernel
theorem dX4_suits_6 : decode cX4_suits 6 = .ok (.iload_n 1, 1) := by decide +kernel
theorem dX4_suits_7 : decode cX4_suits 7 = .ok (.iaload, 1) := by decide +kernel
theorem dX4_suits_8 : decode cX4_suits 8 = .ok (.aload_n 0, 1) := by decide +kernel
theorem dX4_suits_9 : decode cX4_suits 9 = .ok (.getfield 16, 3) := by decide +kernel
theorem dX4_suits_12 : decode cX4_suits 12 = .ok (.iconst 0, 1) := by decide +kernel
theorem dX4_suits_13 : decode cX4_suits 13 = .ok (.aaload, 1) := by decide +kernel
theorem dX4_suits_14 : decode cX4_suits 14 = .ok (.iload_n 2, 1) := by decide +kernel
theorem dX4_suits_15 : decode cX4_suits 15 = .ok (.iaload, 1) := by decide +kernel
theorem dX4_suits_16 : decode cX4_suits 16 = .ok (.if_icmp .lt 26, 3) := by decide +kernel
theorem dX4_suits_19 : decode cX4_suits 19 = .ok (.aload_n 0, 1) := by decide +kernel
theorem dX4_suits_20 : decode cX4_suits 20 = .ok (.getfield 11, 3) := by decide +kernel
theorem dX4_suits_23 : decode cX4_suits 23 = .ok (.iconst 1, 1) := by decide +kernel
theorem dX4_suits_24 : decode cX4_suits 24 = .ok (.aaload, 1) := by decide +kernel
theorem dX4_suits_25 : decode cX4_suits 25 = .ok (.iload_n 1, 1) := by decide +kernel
theorem dX4_suits_26 : decode cX4_suits 26 = .ok (.iaload, 1) := by decide +kernel
theorem dX4_suits_27 : decode cX4_suits 27 = .ok (.aload_n 0, 1) := by decide +kernel
theorem dX4_suits_28 : decode cX4_suits 28 = .ok (.getfield 16, 3) := by decide +kernel
theorem dX4_suits_31 : decode cX4_suits 31 = .ok (.iconst 1, 1) := by decide +kernel
theorem dX4_suits_32 : decode cX4_suits 32 = .ok (.aaload, 1) := by decide +kernel
theorem dX4_suits_33 : decode cX4_suits 33 = .ok (.iload_n 2, 1) := by decide +kernel
theorem dX4_suits_34 : decode cX4_suits 34 = .ok (.iaload, 1) := by decide +kernel
theorem dX4_suits_35 : decode cX4_suits 35 = .ok (.if_icmp .lt 7, 3) := by decide +kernel
theorem dX4_suits_38 : decode cX4_suits 38 = .ok (.iconst 1, 1) := by decide +kernel
theorem dX4_suits_39 : decode cX4_suits 39 = .ok (.goto 4, 3) := by decide +kernel
theorem dX4_suits_42 : decode cX4_suits 42 = .ok (.iconst 0, 1) := by decide +kernel
theorem dX4_suits_43 : decode cX4_suits 43 = .ok (.ireturn, 1) := by decide +kernel
set_option maxRecDepth 20000 in
theorem ggX4_earning_X4_suits : GoodIn wsX4_earning wsX4_suits := goodIn_r _ [6, 7, 1, 8, 9] (by decide +kernel) (by decide +kernel)
set_option maxRecDepth 20000 in
theorem gX4_earning_X4_suits : GoodIn wsX4_earning (wsV RX4 19 RX4 yX4_suits wsX4_suits) := goodIn_app (goodIn_of _ (by decide +kernel)) ggX4_earning_X4_suits
theorem dX4_earning_0 : decode cX4_earning 0 = .ok (.aload_n 0, 1) := by decide +kernel
theorem dX4_earning_1 : decode cX4_earning 1 = .ok (.iload_n 1, 1) := by decide +kernel
theorem dX4_earning_2 : decode cX4_earning 2 = .ok (.iload_n 2, 1) := by decide +kernel
theorem dX4_earning_3 : decode cX4_earning 3 = .ok (.invokevirtual 19, 3) := by decide +kernel
theorem dX4_earning_6 : decode cX4_earning 6 = .ok (.ifCond .eq 14, 3) := by decide +kernel
theorem dX4_earning_9 : decode cX4_earning 9 = .ok (.aload_n 0, 1) := by decide +kernel
theorem dX4_earning_10 : decode cX4_earning 10 = .ok (.getfield 16, 3) := by decide +kernel
theorem dX4_earning_13 : decode cX4_earning 13 = .ok (.iconst 2, 1) := by decide +kernel
theorem dX4_earning_14 : decode cX4_earning 14 = .ok (.aaload, 1) := by decide +kernel
theorem dX4_earning_15 : decode cX4_earning 15 = .ok (.iload_n 2, 1) := by decide +kernel
theorem dX4_earning_16 : decode cX4_earning 16 = .ok (.iaload, 1) := by decide +kernel
theorem dX4_earning_17 : decode cX4_earning 17 = .ok (.goto 4, 3) := by decide +kernel
theorem dX4_earning_20 : decode cX4_earning 20 = .ok (.iconst 0, 1) := by decide +kernel
theorem dX4_earning_21 : decode cX4_earning 21 = .ok (.ireturn, 1) := by decide +kernel
set_option maxRecDepth 20000 in
theorem ggX4_namesFor_X4_suits : GoodIn wsX4_namesFor wsX4_suits := goodIn_r _ [5, 6, 7, 8, 9] (by decide +kernel) (by decide +kernel)
set_option maxRecDepth 20000 in
theorem gX4_namesFor_X4_suits : GoodIn wsX4_namesFor (wsV RX4 19 RX4 yX4_suits wsX4_suits) := goodIn_app (goodIn_of _ (by decide +kernel)) ggX4_namesFor_X4_suits
theorem dX4_namesFor_0 : decode cX4_namesFor 0 = .ok (.iconst 0, 1) := by decide +kernel
theorem dX4_namesFor_1 : decode cX4_namesFor 1 = .ok (.istore_n 2, 1) := by decide +kernel
theorem dX4_namesFor_2 : decode cX4_namesFor 2 = .ok (.iconst 0, 1) := by decide +kernel
theorem dX4_namesFor_3 : decode cX4_namesFor 3 = .ok (.istore_n 3, 1) := by decide +kernel
theorem dX4_namesFor_4 : decode cX4_namesFor 4 = .ok (.iload_n 3, 1) := by decide +kernel
theorem dX4_namesFor_5 : decode cX4_namesFor 5 = .ok (.bipush 6, 2) := by decide +kernel
theorem dX4_namesFor_7 : decode cX4_namesFor 7 = .ok (.if_icmp .ge 24, 3) := by decide +kernel
theorem dX4_namesFor_10 : decode cX4_namesFor 10 = .ok (.aload_n 0, 1) := by decide +kernel
theorem dX4_namesFor_11 : decode cX4_namesFor 11 = .ok (.iload_n 1, 1) := by decide +kernel
theorem dX4_namesFor_12 : decode cX4_namesFor 12 = .ok (.iload_n 3, 1) := by decide +kernel
theorem dX4_namesFor_13 : decode cX4_namesFor 13 = .ok (.invokevirtual 19, 3) := by decide +kernel
theorem dX4_namesFor_16 : decode cX4_namesFor 16 = .ok (.ifCond .eq 9, 3) := by decide +kernel
theorem dX4_namesFor_19 : decode cX4_namesFor 19 = .ok (.iload_n 2, 1) := by decide +kernel
theorem dX4_namesFor_20 : decode cX4_namesFor 20 = .ok (.iconst 1, 1) := by decide +kernel
theorem dX4_namesFor_21 : decode cX4_namesFor 21 = .ok (.iload_n 3, 1) := by decide +kernel
theorem dX4_namesFor_22 : decode cX4_namesFor 22 = .ok (.ishl, 1) := by decide +kernel
theorem dX4_namesFor_23 : decode cX4_namesFor 23 = .ok (.ior, 1) := by decide +kernel
theorem dX4_namesFor_24 : decode cX4_namesFor 24 = .ok (.istore_n 2, 1) := by decide +kernel
theorem dX4_namesFor_25 : decode cX4_namesFor 25 = .ok (.iinc 3 1, 3) := by decide +kernel
theorem dX4_namesFor_28 : decode cX4_namesFor 28 = .ok (.goto (-24), 3) := by decide +kernel
theorem dX4_namesFor_31 : decode cX4_namesFor 31 = .ok (.iload_n 2, 1) := by decide +kernel
theorem dX4_namesFor_32 : decode cX4_namesFor 32 = .ok (.ireturn, 1) := by decide +kernel
set_option maxRecDepth 20000 in
theorem ggX4_pairsThatSuit_X4_namesFor : GoodIn wsX4_pairsThatSuit wsX4_namesFor := goodIn_r _ [5, 6, 7, 8, 4, 9, 10, 11, 19, 20] (by decide +kernel) (by decide +kernel)
set_option maxRecDepth 20000 in
theorem gX4_pairsThatSuit_X4_namesFor : GoodIn wsX4_pairsThatSuit (wsV RX4 23 RX4 yX4_namesFor wsX4_namesFor) := goodIn_app (goodIn_of _ (by decide +kernel)) ggX4_pairsThatSuit_X4_namesFor
set_option maxRecDepth 20000 in
theorem ggX4_pairsThatSuit_J6_bitCount_0f7a4 : GoodIn wsX4_pairsThatSuit wsJ6_bitCount_0f7a4 := goodIn_r _ [15, 16, 17, 18] (by decide +kernel) (by decide +kernel)
set_option maxRecDepth 20000 in
theorem gX4_pairsThatSuit_J6_bitCount_0f7a4 : GoodIn wsX4_pairsThatSuit (va_wsS RX4 27 yJ6_bitCount_0f7a4 wsJ6_bitCount_0f7a4) := goodIn_app (goodIn_of _ (by decide +kernel)) ggX4_pairsThatSuit_J6_bitCount_0f7a4
theorem dX4_pairsThatSuit_0 : decode cX4_pairsThatSuit 0 = .ok (.iconst 0, 1) := by decide +kernel
theorem dX4_pairsThatSuit_1 : decode cX4_pairsThatSuit 1 = .ok (.istore_n 1, 1) := by decide +kernel
theorem dX4_pairsThatSuit_2 : decode cX4_pairsThatSuit 2 = .ok (.iconst 0, 1) := by decide +kernel
theorem dX4_pairsThatSuit_3 : decode cX4_pairsThatSuit 3 = .ok (.istore_n 2, 1) := by decide +kernel
theorem dX4_pairsThatSuit_4 : decode cX4_pairsThatSuit 4 = .ok (.iload_n 2, 1) := by decide +kernel
theorem dX4_pairsThatSuit_5 : decode cX4_pairsThatSuit 5 = .ok (.bipush 6, 2) := by decide +kernel
theorem dX4_pairsThatSuit_7 : decode cX4_pairsThatSuit 7 = .ok (.if_icmp .ge 20, 3) := by decide +kernel
theorem dX4_pairsThatSuit_10 : decode cX4_pairsThatSuit 10 = .ok (.iload_n 1, 1) := by decide +kernel
theorem dX4_pairsThatSuit_11 : decode cX4_pairsThatSuit 11 = .ok (.aload_n 0, 1) := by decide +kernel
theorem dX4_pairsThatSuit_12 : decode cX4_pairsThatSuit 12 = .ok (.iload_n 2, 1) := by decide +kernel
theorem dX4_pairsThatSuit_13 : decode cX4_pairsThatSuit 13 = .ok (.invokevirtual 23, 3) := by decide +kernel
theorem dX4_pairsThatSuit_16 : decode cX4_pairsThatSuit 16 = .ok (.invokestatic 27, 3) := by decide +kernel
theorem dX4_pairsThatSuit_19 : decode cX4_pairsThatSuit 19 = .ok (.iadd, 1) := by decide +kernel
theorem dX4_pairsThatSuit_20 : decode cX4_pairsThatSuit 20 = .ok (.istore_n 1, 1) := by decide +kernel
theorem dX4_pairsThatSuit_21 : decode cX4_pairsThatSuit 21 = .ok (.iinc 2 1, 3) := by decide +kernel
theorem dX4_pairsThatSuit_24 : decode cX4_pairsThatSuit 24 = .ok (.goto (-20), 3) := by decide +kernel
theorem dX4_pairsThatSuit_27 : decode cX4_pairsThatSuit 27 = .ok (.iload_n 1, 1) := by decide +kernel
theorem dX4_pairsThatSuit_28 : decode cX4_pairsThatSuit 28 = .ok (.ireturn, 1) := by decide +kernel
theorem dX5_init_0 : decode cX5_init 0 = .ok (.aload_n 0, 1) := by decide +kernel
theorem dX5_init_1 : decode cX5_init 1 = .ok (.invokespecial 3, 3) := by decide +kernel
theorem dX5_init_4 : decode cX5_init 4 = .ok (.aload_n 0, 1) := by decide +kernel
theorem dX5_init_5 : decode cX5_init 5 = .ok (.bipush 48, 2) := by decide +kernel
theorem dX5_init_7 : decode cX5_init 7 = .ok (.newarray .int, 2) := by decide +kernel
theorem dX5_init_9 : decode cX5_init 9 = .ok (.putfield 9, 3) := by decide +kernel
theorem dX5_init_12 : decode cX5_init 12 = .ok (.aload_n 0, 1) := by decide +kernel
theorem dX5_init_13 : decode cX5_init 13 = .ok (.iconst 1, 1) := by decide +kernel
theorem dX5_init_14 : decode cX5_init 14 = .ok (.putfield 15, 3) := by decide +kernel
theorem dX5_init_17 : decode cX5_init 17 = .ok (.aload_n 0, 1) := by decide +kernel
theorem dX5_init_18 : decode cX5_init 18 = .ok (.iconst 0, 1) := by decide +kernel
theorem dX5_init_19 : decode cX5_init 19 = .ok (.putfield 19, 3) := by decide +kernel
theorem dX5_init_22 : decode cX5_init 22 = .ok (.aload_n 0, 1) := by decide +kernel
theorem dX5_init_23 : decode cX5_init 23 = .ok (.iconst 0, 1) := by decide +kernel
theorem dX5_init_24 : decode cX5_init 24 = .ok (.putfield 23, 3) := by decide +kernel
theorem dX5_init_27 : decode cX5_init 27 = .ok (.return_, 1) := by decide +kernel
set_option maxRecDepth 20000 in
theorem ggX5_renew_J7_fill_53178 : GoodIn wsX5_renew wsJ7_fill_53178 := goodIn_r _ [8] (by decide +kernel) (by decide +kernel)
set_option maxRecDepth 20000 in
theorem gX5_renew_J7_fill_53178 : GoodIn wsX5_renew (va_wsS RX5 26 yJ7_fill_53178 wsJ7_fill_53178) := goodIn_app (goodIn_of _ (by decide +kernel)) ggX5_renew_J7_fill_53178
theorem dX5_renew_0 : decode cX5_renew 0 = .ok (.aload_n 0, 1) := by decide +kernel
theorem dX5_renew_1 : decode cX5_renew 1 = .ok (.getfield 9, 3) := by decide +kernel
theorem dX5_renew_4 : decode cX5_renew 4 = .ok (.iconst 0, 1) := by decide +kernel
theorem dX5_renew_5 : decode cX5_renew 5 = .ok (.invokestatic 26, 3) := by decide +kernel
theorem dX5_renew_8 : decode cX5_renew 8 = .ok (.aload_n 0, 1) := by decide +kernel
theorem dX5_renew_9 : decode cX5_renew 9 = .ok (.iconst 0, 1) := by decide +kernel
theorem dX5_renew_10 : decode cX5_renew 10 = .ok (.putfield 15, 3) := by decide +kernel
theorem dX5_renew_13 : decode cX5_renew 13 = .ok (.aload_n 0, 1) := by decide +kernel
theorem dX5_renew_14 : decode cX5_renew 14 = .ok (.iload_n 1, 1) := by decide +kernel
theorem dX5_renew_15 : decode cX5_renew 15 = .ok (.putfield 19, 3) := by decide +kernel
theorem dX5_renew_18 : decode cX5_renew 18 = .ok (.aload_n 0, 1) := by decide +kernel
theorem dX5_renew_19 : decode cX5_renew 19 = .ok (.iload_n 2, 1) := by decide +kernel
theorem dX5_renew_20 : decode cX5_renew 20 = .ok (.putfield 23, 3) := by decide +kernel
theorem dX5_renew_23 : decode cX5_renew 23 = .ok (.return_, 1) := by decide +kernel
set_option maxRecDepth 20000 in
theorem ggX5_findingAt_X8_isBelow : GoodIn wsX5_findingAt wsX8_isBelow := goodIn_r _ [6] (by decide +kernel) (by decide +kernel)
set_option maxRecDepth 20000 in
theorem gX5_findingAt_X8_isBelow_n32 : GoodIn wsX5_findingAt (wsX8_isBelow) := ggX5_findingAt_X8_isBelow
theorem dX5_findingAt_0 : decode cX5_findingAt 0 = .ok (.aload_n 0, 1) := by decide +kernel
theorem dX5_findingAt_1 : decode cX5_findingAt 1 = .ok (.getfield 15, 3) := by decide +kernel
theorem dX5_findingAt_4 : decode cX5_findingAt 4 = .ok (.ifCond .eq 5, 3) := by decide +kernel
theorem dX5_findingAt_7 : decode cX5_findingAt 7 = .ok (.iconst 1, 1) := by decide +kernel
theorem dX5_findingAt_8 : decode cX5_findingAt 8 = .ok (.ireturn, 1) := by decide +kernel
theorem dX5_findingAt_9 : decode cX5_findingAt 9 = .ok (.aload_n 0, 1) := by decide +kernel
theorem dX5_findingAt_10 : decode cX5_findingAt 10 = .ok (.getfield 19, 3) := by decide +kernel
theorem dX5_findingAt_13 : decode cX5_findingAt 13 = .ok (.iload_n 1, 1) := by decide +kernel
theorem dX5_findingAt_14 : decode cX5_findingAt 14 = .ok (.if_icmp .eq 5, 3) := by decide +kernel
theorem dX5_findingAt_17 : decode cX5_findingAt 17 = .ok (.iconst 3, 1) := by decide +kernel
theorem dX5_findingAt_18 : decode cX5_findingAt 18 = .ok (.ireturn, 1) := by decide +kernel
theorem dX5_findingAt_19 : decode cX5_findingAt 19 = .ok (.iload_n 2, 1) := by decide +kernel
theorem dX5_findingAt_20 : decode cX5_findingAt 20 = .ok (.aload_n 0, 1) := by decide +kernel
theorem dX5_findingAt_21 : decode cX5_findingAt 21 = .ok (.getfield 23, 3) := by decide +kernel
theorem dX5_findingAt_24 : decode cX5_findingAt 24 = .ok (.invokestatic 32, 3) := by decide +kernel
theorem dX5_findingAt_27 : decode cX5_findingAt 27 = .ok (.ifCond .eq 7, 3) := by decide +kernel
theorem dX5_findingAt_30 : decode cX5_findingAt 30 = .ok (.iconst 0, 1) := by decide +kernel
theorem dX5_findingAt_31 : decode cX5_findingAt 31 = .ok (.goto 4, 3) := by decide +kernel
theorem dX5_findingAt_34 : decode cX5_findingAt 34 = .ok (.iconst 2, 1) := by decide +kernel
theorem dX5_findingAt_35 : decode cX5_findingAt 35 = .ok (.ireturn, 1) := by decide +kernel
set_option maxRecDepth 20000 in
theorem ggX5_set_X5_narrowed : GoodIn wsX5_set wsX5_narrowed := goodIn_r _ [6, 7, 8, 9, 10, 11] (by decide +kernel) (by decide +kernel)
set_option maxRecDepth 20000 in
theorem gX5_set_X5_narrowed : GoodIn wsX5_set (wsV RX5 36 RX5 yX5_narrowed wsX5_narrowed) := goodIn_app (goodIn_of _ (by decide +kernel)) ggX5_set_X5_narrowed
theorem dX5_set_0 : decode cX5_set 0 = .ok (.aload_n 0, 1) := by decide +kernel
theorem dX5_set_1 : decode cX5_set 1 = .ok (.getfield 9, 3) := by decide +kernel
theorem dX5_set_4 : decode cX5_set 4 = .ok (.iload_n 1, 1) := by decide +kernel
theorem dX5_set_5 : decode cX5_set 5 = .ok (.aload_n 0, 1) := by decide +kernel
theorem dX5_set_6 : decode cX5_set 6 = .ok (.iload_n 2, 1) := by decide +kernel
theorem dX5_set_7 : decode cX5_set 7 = .ok (.invokevirtual 36, 3) := by decide +kernel
theorem dX5_set_10 : decode cX5_set 10 = .ok (.iastore, 1) := by decide +kernel
theorem dX5_set_11 : decode cX5_set 11 = .ok (.return_, 1) := by decide +kernel
theorem dX5_hasRange_0 : decode cX5_hasRange 0 = .ok (.iload_n 1, 1) := by decide +kernel
theorem dX5_hasRange_1 : decode cX5_hasRange 1 = .ok (.ifCond .lt 29, 3) := by decide +kernel
theorem dX5_hasRange_4 : decode cX5_hasRange 4 = .ok (.iload_n 2, 1) := by decide +kernel
theorem dX5_hasRange_5 : decode cX5_hasRange 5 = .ok (.ifCond .lt 25, 3) := by decide +kernel
theorem dX5_hasRange_8 : decode cX5_hasRange 8 = .ok (.iload_n 2, 1) := by decide +kernel
theorem dX5_hasRange_9 : decode cX5_hasRange 9 = .ok (.aload_n 0, 1) := by decide +kernel
theorem dX5_hasRange_10 : decode cX5_hasRange 10 = .ok (.getfield 23, 3) := by decide +kernel
theorem dX5_hasRange_13 : decode cX5_hasRange 13 = .ok (.if_icmp .gt 17, 3) := by decide +kernel
theorem dX5_hasRange_16 : decode cX5_hasRange 16 = .ok (.iload_n 1, 1) := by decide +kernel
theorem dX5_hasRange_17 : decode cX5_hasRange 17 = .ok (.aload_n 0, 1) := by decide +kernel
theorem dX5_hasRange_18 : decode cX5_hasRange 18 = .ok (.getfield 23, 3) := by decide +kernel
theorem dX5_hasRange_21 : decode cX5_hasRange 21 = .ok (.iload_n 2, 1) := by decide +kernel
theorem dX5_hasRange_22 : decode cX5_hasRange 22 = .ok (.isub, 1) := by decide +kernel
theorem dX5_hasRange_23 : decode cX5_hasRange 23 = .ok (.if_icmp .gt 7, 3) := by decide +kernel
theorem dX5_hasRange_26 : decode cX5_hasRange 26 = .ok (.iconst 1, 1) := by decide +kernel
theorem dX5_hasRange_27 : decode cX5_hasRange 27 = .ok (.goto 4, 3) := by decide +kernel
theorem dX5_hasRange_30 : decode cX5_hasRange 30 = .ok (.iconst 0, 1) := by decide +kernel
theorem dX5_hasRange_31 : decode cX5_hasRange 31 = .ok (.ireturn, 1) := by decide +kernel
set_option maxRecDepth 20000 in
theorem ggX5_holdsYear_X8_isShip : GoodIn wsX5_holdsYear wsX8_isShip := goodIn_r _ [5, 6, 7, 4, 8] (by decide +kernel) (by decide +kernel)
set_option maxRecDepth 20000 in
theorem gX5_holdsYear_X8_isShip_n40 : GoodIn wsX5_holdsYear (wsX8_isShip) := ggX5_holdsYear_X8_isShip
theorem dX5_holdsYear_0 : decode cX5_holdsYear 0 = .ok (.aload_n 0, 1) := by decide +kernel
theorem dX5_holdsYear_1 : decode cX5_holdsYear 1 = .ok (.getfield 23, 3) := by decide +kernel
theorem dX5_holdsYear_4 : decode cX5_holdsYear 4 = .ok (.bipush 6, 2) := by decide +kernel
theorem dX5_holdsYear_6 : decode cX5_holdsYear 6 = .ok (.if_icmp .ge 5, 3) := by decide +kernel
theorem dX5_holdsYear_9 : decode cX5_holdsYear 9 = .ok (.iconst 0, 1) := by decide +kernel
theorem dX5_holdsYear_10 : decode cX5_holdsYear 10 = .ok (.ireturn, 1) := by decide +kernel
theorem dX5_holdsYear_11 : decode cX5_holdsYear 11 = .ok (.iconst 0, 1) := by decide +kernel
theorem dX5_holdsYear_12 : decode cX5_holdsYear 12 = .ok (.istore_n 1, 1) := by decide +kernel
theorem dX5_holdsYear_13 : decode cX5_holdsYear 13 = .ok (.iconst 0, 1) := by decide +kernel
theorem dX5_holdsYear_14 : decode cX5_holdsYear 14 = .ok (.istore_n 2, 1) := by decide +kernel
theorem dX5_holdsYear_15 : decode cX5_holdsYear 15 = .ok (.iload_n 2, 1) := by decide +kernel
theorem dX5_holdsYear_16 : decode cX5_holdsYear 16 = .ok (.bipush 6, 2) := by decide +kernel
theorem dX5_holdsYear_18 : decode cX5_holdsYear 18 = .ok (.if_icmp .ge 34, 3) := by decide +kernel
theorem dX5_holdsYear_21 : decode cX5_holdsYear 21 = .ok (.aload_n 0, 1) := by decide +kernel
theorem dX5_holdsYear_22 : decode cX5_holdsYear 22 = .ok (.getfield 9, 3) := by decide +kernel
theorem dX5_holdsYear_25 : decode cX5_holdsYear 25 = .ok (.iload_n 2, 1) := by decide +kernel
theorem dX5_holdsYear_26 : decode cX5_holdsYear 26 = .ok (.iaload, 1) := by decide +kernel
theorem dX5_holdsYear_27 : decode cX5_holdsYear 27 = .ok (.invokestatic 40, 3) := by decide +kernel
theorem dX5_holdsYear_30 : decode cX5_holdsYear 30 = .ok (.ifCond .ne 5, 3) := by decide +kernel
theorem dX5_holdsYear_33 : decode cX5_holdsYear 33 = .ok (.iconst 0, 1) := by decide +kernel
theorem dX5_holdsYear_34 : decode cX5_holdsYear 34 = .ok (.ireturn, 1) := by decide +kernel
theorem dX5_holdsYear_35 : decode cX5_holdsYear 35 = .ok (.iload_n 1, 1) := by decide +kernel
theorem dX5_holdsYear_36 : decode cX5_holdsYear 36 = .ok (.iconst 1, 1) := by decide +kernel
theorem dX5_holdsYear_37 : decode cX5_holdsYear 37 = .ok (.aload_n 0, 1) := by decide +kernel
theorem dX5_holdsYear_38 : decode cX5_holdsYear 38 = .ok (.getfield 9, 3) := by decide +kernel
theorem dX5_holdsYear_41 : decode cX5_holdsYear 41 = .ok (.iload_n 2, 1) := by decide +kernel
theorem dX5_holdsYear_42 : decode cX5_holdsYear 42 = .ok (.iaload, 1) := by decide +kernel
theorem dX5_holdsYear_43 : decode cX5_holdsYear 43 = .ok (.ishl, 1) := by decide +kernel
theorem dX5_holdsYear_44 : decode cX5_holdsYear 44 = .ok (.ior, 1) := by decide +kernel
theorem dX5_holdsYear_45 : decode cX5_holdsYear 45 = .ok (.istore_n 1, 1) := by decide +kernel
theorem dX5_holdsYear_46 : decode cX5_holdsYear 46 = .ok (.iinc 2 1, 3) := by decide +kernel
theorem dX5_holdsYear_49 : decode cX5_holdsYear 49 = .ok (.goto (-34), 3) := by decide +kernel
theorem dX5_holdsYear_52 : decode cX5_holdsYear 52 = .ok (.iload_n 1, 1) := by decide +kernel
theorem dX5_holdsYear_53 : decode cX5_holdsYear 53 = .ok (.bipush 63, 2) := by decide +kernel
theorem dX5_holdsYear_55 : decode cX5_holdsYear 55 = .ok (.if_icmp .ne 7, 3) := by decide +kernel
theorem dX5_holdsYear_58 : decode cX5_holdsYear 58 = .ok (.iconst 1, 1) := by decide +kernel
theorem dX5_holdsYear_59 : decode cX5_holdsYear 59 = .ok (.goto 4, 3) := by decide +kernel
theorem dX5_holdsYear_62 : decode cX5_holdsYear 62 = .ok (.iconst 0, 1) := by decide +kernel
theorem dX5_holdsYear_63 : decode cX5_holdsYear 63 = .ok (.ireturn, 1) := by decide +kernel
theorem dX5_narrowed_0 : decode cX5_narrowed 0 = .ok (.aload_n 0, 1) := by decide +kernel
theorem dX5_narrowed_1 : decode cX5_narrowed 1 = .ok (.getfield 19, 3) := by decide +kernel
theorem dX5_narrowed_4 : decode cX5_narrowed 4 = .ok (.lookupswitch 34 #[(0, 28), (1, 31)], 28) := by decide +kernel
theorem dX5_narrowed_32 : decode cX5_narrowed 32 = .ok (.iload_n 1, 1) := by decide +kernel
theorem dX5_narrowed_33 : decode cX5_narrowed 33 = .ok (.i2b, 1) := by decide +kernel
theorem dX5_narrowed_34 : decode cX5_narrowed 34 = .ok (.ireturn, 1) := by decide +kernel
theorem dX5_narrowed_35 : decode cX5_narrowed 35 = .ok (.iload_n 1, 1) := by decide +kernel
theorem dX5_narrowed_36 : decode cX5_narrowed 36 = .ok (.i2s, 1) := by decide +kernel
theorem dX5_narrowed_37 : decode cX5_narrowed 37 = .ok (.ireturn, 1) := by decide +kernel
theorem dX5_narrowed_38 : decode cX5_narrowed 38 = .ok (.iload_n 1, 1) := by decide +kernel
theorem dX5_narrowed_39 : decode cX5_narrowed 39 = .ok (.ireturn, 1) := by decide +kernel
theorem dX6_init_0 : decode cX6_init 0 = .ok (.aload_n 0, 1) := by decide +kernel
theorem dX6_init_1 : decode cX6_init 1 = .ok (.invokespecial 3, 3) := by decide +kernel
theorem dX6_init_4 : decode cX6_init 4 = .ok (.aload_n 0, 1) := by decide +kernel
theorem dX6_init_5 : decode cX6_init 5 = .ok (.bipush 8, 2) := by decide +kernel
theorem dX6_init_7 : decode cX6_init 7 = .ok (.newarray .int, 2) := by decide +kernel
theorem dX6_init_9 : decode cX6_init 9 = .ok (.putfield 11, 3) := by decide +kernel
theorem dX6_init_12 : decode cX6_init 12 = .ok (.aload_n 0, 1) := by decide +kernel
theorem dX6_init_13 : decode cX6_init 13 = .ok (.bipush 8, 2) := by decide +kernel
theorem dX6_init_15 : decode cX6_init 15 = .ok (.newarray .int, 2) := by decide +kernel
theorem dX6_init_17 : decode cX6_init 17 = .ok (.putfield 15, 3) := by decide +kernel
theorem dX6_init_20 : decode cX6_init 20 = .ok (.aload_n 0, 1) := by decide +kernel
theorem dX6_init_21 : decode cX6_init 21 = .ok (.bipush 8, 2) := by decide +kernel
theorem dX6_init_23 : decode cX6_init 23 = .ok (.newarray .int, 2) := by decide +kernel
theorem dX6_init_25 : decode cX6_init 25 = .ok (.putfield 18, 3) := by decide +kernel
theorem dX6_init_28 : decode cX6_init 28 = .ok (.aload_n 0, 1) := by decide +kernel
theorem dX6_init_29 : decode cX6_init 29 = .ok (.iconst 0, 1) := by decide +kernel
theorem dX6_init_30 : decode cX6_init 30 = .ok (.putfield 21, 3) := by decide +kernel
theorem dX6_init_33 : decode cX6_init 33 = .ok (.aload_n 0, 1) := by decide +kernel
theorem dX6_init_34 : decode cX6_init 34 = .ok (.aload_n 1, 1) := by decide +kernel
theorem dX6_init_35 : decode cX6_init 35 = .ok (.putfield 25, 3) := by decide +kernel
theorem dX6_init_38 : decode cX6_init 38 = .ok (.return_, 1) := by decide +kernel
theorem dX6_add_0 : decode cX6_add 0 = .ok (.aload_n 0, 1) := by decide +kernel
theorem dX6_add_1 : decode cX6_add 1 = .ok (.getfield 21, 3) := by decide +kernel
theorem dX6_add_4 : decode cX6_add 4 = .ok (.bipush 8, 2) := by decide +kernel
theorem dX6_add_6 : decode cX6_add 6 = .ok (.if_icmp .ge 43, 3) := by decide +kernel
theorem dX6_add_9 : decode cX6_add 9 = .ok (.aload_n 0, 1) := by decide +kernel
theorem dX6_add_10 : decode cX6_add 10 = .ok (.getfield 11, 3) := by decide +kernel
theorem dX6_add_13 : decode cX6_add 13 = .ok (.aload_n 0, 1) := by decide +kernel
theorem dX6_add_14 : decode cX6_add 14 = .ok (.getfield 21, 3) := by decide +kernel
theorem dX6_add_17 : decode cX6_add 17 = .ok (.iload_n 1, 1) := by decide +kernel
theorem dX6_add_18 : decode cX6_add 18 = .ok (.iastore, 1) := by decide +kernel
theorem dX6_add_19 : decode cX6_add 19 = .ok (.aload_n 0, 1) := by decide +kernel
theorem dX6_add_20 : decode cX6_add 20 = .ok (.getfield 15, 3) := by decide +kernel
theorem dX6_add_23 : decode cX6_add 23 = .ok (.aload_n 0, 1) := by decide +kernel
theorem dX6_add_24 : decode cX6_add 24 = .ok (.getfield 21, 3) := by decide +kernel
theorem dX6_add_27 : decode cX6_add 27 = .ok (.iload_n 2, 1) := by decide +kernel
theorem dX6_add_28 : decode cX6_add 28 = .ok (.iastore, 1) := by decide +kernel
theorem dX6_add_29 : decode cX6_add 29 = .ok (.aload_n 0, 1) := by decide +kernel
theorem dX6_add_30 : decode cX6_add 30 = .ok (.getfield 18, 3) := by decide +kernel
theorem dX6_add_33 : decode cX6_add 33 = .ok (.aload_n 0, 1) := by decide +kernel
theorem dX6_add_34 : decode cX6_add 34 = .ok (.getfield 21, 3) := by decide +kernel
theorem dX6_add_37 : decode cX6_add 37 = .ok (.iload_n 3, 1) := by decide +kernel
theorem dX6_add_38 : decode cX6_add 38 = .ok (.iastore, 1) := by decide +kernel
theorem dX6_add_39 : decode cX6_add 39 = .ok (.aload_n 0, 1) := by decide +kernel
theorem dX6_add_40 : decode cX6_add 40 = .ok (.dup, 1) := by decide +kernel
theorem dX6_add_41 : decode cX6_add 41 = .ok (.getfield 21, 3) := by decide +kernel
theorem dX6_add_44 : decode cX6_add 44 = .ok (.iconst 1, 1) := by decide +kernel
theorem dX6_add_45 : decode cX6_add 45 = .ok (.iadd, 1) := by decide +kernel
theorem dX6_add_46 : decode cX6_add 46 = .ok (.putfield 21, 3) := by decide +kernel
theorem dX6_add_49 : decode cX6_add 49 = .ok (.return_, 1) := by decide +kernel
theorem dX6_clear_0 : decode cX6_clear 0 = .ok (.aload_n 0, 1) := by decide +kernel
theorem dX6_clear_1 : decode cX6_clear 1 = .ok (.getfield 21, 3) := by decide +kernel
theorem dX6_clear_4 : decode cX6_clear 4 = .ok (.istore_n 1, 1) := by decide +kernel
theorem dX6_clear_5 : decode cX6_clear 5 = .ok (.aload_n 0, 1) := by decide +kernel
theorem dX6_clear_6 : decode cX6_clear 6 = .ok (.iconst 0, 1) := by decide +kernel
theorem dX6_clear_7 : decode cX6_clear 7 = .ok (.putfield 21, 3) := by decide +kernel
theorem dX6_clear_10 : decode cX6_clear 10 = .ok (.iload_n 1, 1) := by decide +kernel
theorem dX6_clear_11 : decode cX6_clear 11 = .ok (.ireturn, 1) := by decide +kernel
theorem dX6_namesFor_0 : decode cX6_namesFor 0 = .ok (.bipush 63, 2) := by decide +kernel
theorem dX6_namesFor_2 : decode cX6_namesFor 2 = .ok (.istore_n 2, 1) := by decide +kernel
theorem dX6_namesFor_3 : decode cX6_namesFor 3 = .ok (.iconst 0, 1) := by decide +kernel
theorem dX6_namesFor_4 : decode cX6_namesFor 4 = .ok (.istore_n 3, 1) := by decide +kernel
theorem dX6_namesFor_5 : decode cX6_namesFor 5 = .ok (.iload_n 3, 1) := by decide +kernel
theorem dX6_namesFor_6 : decode cX6_namesFor 6 = .ok (.aload_n 0, 1) := by decide +kernel
theorem dX6_namesFor_7 : decode cX6_namesFor 7 = .ok (.getfield 21, 3) := by decide +kernel
theorem dX6_namesFor_10 : decode cX6_namesFor 10 = .ok (.if_icmp .ge 47, 3) := by decide +kernel
theorem dX6_namesFor_13 : decode cX6_namesFor 13 = .ok (.aload_n 0, 1) := by decide +kernel
theorem dX6_namesFor_14 : decode cX6_namesFor 14 = .ok (.getfield 25, 3) := by decide +kernel
theorem dX6_namesFor_17 : decode cX6_namesFor 17 = .ok (.getfield 29, 3) := by decide +kernel
theorem dX6_namesFor_20 : decode cX6_namesFor 20 = .ok (.aload_n 0, 1) := by decide +kernel
theorem dX6_namesFor_21 : decode cX6_namesFor 21 = .ok (.getfield 15, 3) := by decide +kernel
theorem dX6_namesFor_24 : decode cX6_namesFor 24 = .ok (.iload_n 3, 1) := by decide +kernel
theorem dX6_namesFor_25 : decode cX6_namesFor 25 = .ok (.iaload, 1) := by decide +kernel
theorem dX6_namesFor_26 : decode cX6_namesFor 26 = .ok (.aaload, 1) := by decide +kernel
theorem dX6_namesFor_27 : decode cX6_namesFor 27 = .ok (.iload_n 1, 1) := by decide +kernel
theorem dX6_namesFor_28 : decode cX6_namesFor 28 = .ok (.iaload, 1) := by decide +kernel
theorem dX6_namesFor_29 : decode cX6_namesFor 29 = .ok (.aload_n 0, 1) := by decide +kernel
theorem dX6_namesFor_30 : decode cX6_namesFor 30 = .ok (.getfield 18, 3) := by decide +kernel
theorem dX6_namesFor_33 : decode cX6_namesFor 33 = .ok (.iload_n 3, 1) := by decide +kernel
theorem dX6_namesFor_34 : decode cX6_namesFor 34 = .ok (.iaload, 1) := by decide +kernel
theorem dX6_namesFor_35 : decode cX6_namesFor 35 = .ok (.if_icmp .eq 16, 3) := by decide +kernel
theorem dX6_namesFor_38 : decode cX6_namesFor 38 = .ok (.iload_n 2, 1) := by decide +kernel
theorem dX6_namesFor_39 : decode cX6_namesFor 39 = .ok (.iconst 1, 1) := by decide +kernel
theorem dX6_namesFor_40 : decode cX6_namesFor 40 = .ok (.aload_n 0, 1) := by decide +kernel
theorem dX6_namesFor_41 : decode cX6_namesFor 41 = .ok (.getfield 11, 3) := by decide +kernel
theorem dX6_namesFor_44 : decode cX6_namesFor 44 = .ok (.iload_n 3, 1) := by decide +kernel
theorem dX6_namesFor_45 : decode cX6_namesFor 45 = .ok (.iaload, 1) := by decide +kernel
theorem dX6_namesFor_46 : decode cX6_namesFor 46 = .ok (.ishl, 1) := by decide +kernel
theorem dX6_namesFor_47 : decode cX6_namesFor 47 = .ok (.iconst (-1), 1) := by decide +kernel
theorem dX6_namesFor_48 : decode cX6_namesFor 48 = .ok (.ixor, 1) := by decide +kernel
theorem dX6_namesFor_49 : decode cX6_namesFor 49 = .ok (.iand, 1) := by decide +kernel
theorem dX6_namesFor_50 : decode cX6_namesFor 50 = .ok (.istore_n 2, 1) := by decide +kernel
theorem dX6_namesFor_51 : decode cX6_namesFor 51 = .ok (.iinc 3 1, 3) := by decide +kernel
theorem dX6_namesFor_54 : decode cX6_namesFor 54 = .ok (.goto (-49), 3) := by decide +kernel
theorem dX6_namesFor_57 : decode cX6_namesFor 57 = .ok (.iload_n 2, 1) := by decide +kernel
theorem dX6_namesFor_58 : decode cX6_namesFor 58 = .ok (.ireturn, 1) := by decide +kernel
theorem dX7_init_0 : decode cX7_init 0 = .ok (.aload_n 0, 1) := by decide +kernel
theorem dX7_init_1 : decode cX7_init 1 = .ok (.invokespecial 3, 3) := by decide +kernel
theorem dX7_init_4 : decode cX7_init 4 = .ok (.aload_n 0, 1) := by decide +kernel
theorem dX7_init_5 : decode cX7_init 5 = .ok (.aload_n 1, 1) := by decide +kernel
theorem dX7_init_6 : decode cX7_init 6 = .ok (.putfield 9, 3) := by decide +kernel
theorem dX7_init_9 : decode cX7_init 9 = .ok (.aload_n 0, 1) := by decide +kernel
theorem dX7_init_10 : decode cX7_init 10 = .ok (.aload_n 2, 1) := by decide +kernel
theorem dX7_init_11 : decode cX7_init 11 = .ok (.putfield 15, 3) := by decide +kernel
theorem dX7_init_14 : decode cX7_init 14 = .ok (.return_, 1) := by decide +kernel
set_option maxRecDepth 20000 in
theorem ggX7_earnedBy_X1_nameOf : GoodIn wsX7_earnedBy wsX1_nameOf := goodIn_r _ [7, 8, 22, 23, 24, 25] (by decide +kernel) (by decide +kernel)
set_option maxRecDepth 20000 in
theorem gX7_earnedBy_X1_nameOf : GoodIn wsX7_earnedBy (wsV RX7 19 RX1 yX1_nameOf wsX1_nameOf) := goodIn_app (goodIn_of _ (by decide +kernel)) ggX7_earnedBy_X1_nameOf
set_option maxRecDepth 20000 in
theorem ggX7_earnedBy_X4_earning : GoodIn wsX7_earnedBy wsX4_earning := goodIn_r _ [13, 14, 15, 16, 17, 12, 18, 19, 26, 27] (by decide +kernel) (by decide +kernel)
set_option maxRecDepth 20000 in
theorem gX7_earnedBy_X4_earning : GoodIn wsX7_earnedBy (wsV RX7 25 RX4 yX4_earning wsX4_earning) := goodIn_app (goodIn_of _ (by decide +kernel)) ggX7_earnedBy_X4_earning
theorem dX7_earnedBy_0 : decode cX7_earnedBy 0 = .ok (.iconst 0, 1) := by decide +kernel
theorem dX7_earnedBy_1 : decode cX7_earnedBy 1 = .ok (.istore_n 3, 1) := by decide +kernel
theorem dX7_earnedBy_2 : decode cX7_earnedBy 2 = .ok (.iconst 0, 1) := by decide +kernel
theorem dX7_earnedBy_3 : decode cX7_earnedBy 3 = .ok (.istore 4, 2) := by decide +kernel
theorem dX7_earnedBy_5 : decode cX7_earnedBy 5 = .ok (.iload 4, 2) := by decide +kernel
theorem dX7_earnedBy_7 : decode cX7_earnedBy 7 = .ok (.iload_n 2, 1) := by decide +kernel
theorem dX7_earnedBy_8 : decode cX7_earnedBy 8 = .ok (.if_icmp .ge 30, 3) := by decide +kernel
theorem dX7_earnedBy_11 : decode cX7_earnedBy 11 = .ok (.iload_n 3, 1) := by decide +kernel
theorem dX7_earnedBy_12 : decode cX7_earnedBy 12 = .ok (.aload_n 0, 1) := by decide +kernel
theorem dX7_earnedBy_13 : decode cX7_earnedBy 13 = .ok (.getfield 9, 3) := by decide +kernel
theorem dX7_earnedBy_16 : decode cX7_earnedBy 16 = .ok (.iload_n 1, 1) := by decide +kernel
theorem dX7_earnedBy_17 : decode cX7_earnedBy 17 = .ok (.aload_n 0, 1) := by decide +kernel
theorem dX7_earnedBy_18 : decode cX7_earnedBy 18 = .ok (.getfield 15, 3) := by decide +kernel
theorem dX7_earnedBy_21 : decode cX7_earnedBy 21 = .ok (.iload_n 1, 1) := by decide +kernel
theorem dX7_earnedBy_22 : decode cX7_earnedBy 22 = .ok (.iload 4, 2) := by decide +kernel
theorem dX7_earnedBy_24 : decode cX7_earnedBy 24 = .ok (.invokevirtual 19, 3) := by decide +kernel
theorem dX7_earnedBy_27 : decode cX7_earnedBy 27 = .ok (.invokevirtual 25, 3) := by decide +kernel
theorem dX7_earnedBy_30 : decode cX7_earnedBy 30 = .ok (.iadd, 1) := by decide +kernel
theorem dX7_earnedBy_31 : decode cX7_earnedBy 31 = .ok (.istore_n 3, 1) := by decide +kernel
theorem dX7_earnedBy_32 : decode cX7_earnedBy 32 = .ok (.iinc 4 1, 3) := by decide +kernel
theorem dX7_earnedBy_35 : decode cX7_earnedBy 35 = .ok (.goto (-30), 3) := by decide +kernel
theorem dX7_earnedBy_38 : decode cX7_earnedBy 38 = .ok (.iload_n 3, 1) := by decide +kernel
theorem dX7_earnedBy_39 : decode cX7_earnedBy 39 = .ok (.ireturn, 1) := by decide +kernel
set_option maxRecDepth 20000 in
theorem ggX7_debtOf_X7_shameOf : GoodIn wsX7_debtOf wsX7_shameOf := goodIn_r _ [7, 1, 8, 9, 10, 6, 11, 12, 13, 14, 15, 16, 17, 18, 19, 20, 21, 22, 23, 24, 25, 26, 27, 30, 31, 32, 33, 28, 29] (by decide +kernel) (by decide +kernel)
set_option maxRecDepth 20000 in
theorem gX7_debtOf_X7_shameOf : GoodIn wsX7_debtOf (wsV RX7 34 RX7 yX7_shameOf wsX7_shameOf) := goodIn_app (goodIn_of _ (by decide +kernel)) ggX7_debtOf_X7_shameOf
theorem dX7_debtOf_0 : decode cX7_debtOf 0 = .ok (.aload_n 0, 1) := by decide +kernel
theorem dX7_debtOf_1 : decode cX7_debtOf 1 = .ok (.getfield 9, 3) := by decide +kernel
theorem dX7_debtOf_4 : decode cX7_debtOf 4 = .ok (.getfield 30, 3) := by decide +kernel
theorem dX7_debtOf_7 : decode cX7_debtOf 7 = .ok (.iconst 2, 1) := by decide +kernel
theorem dX7_debtOf_8 : decode cX7_debtOf 8 = .ok (.aaload, 1) := by decide +kernel
theorem dX7_debtOf_9 : decode cX7_debtOf 9 = .ok (.iload_n 1, 1) := by decide +kernel
theorem dX7_debtOf_10 : decode cX7_debtOf 10 = .ok (.iaload, 1) := by decide +kernel
theorem dX7_debtOf_11 : decode cX7_debtOf 11 = .ok (.aload_n 0, 1) := by decide +kernel
theorem dX7_debtOf_12 : decode cX7_debtOf 12 = .ok (.iload_n 1, 1) := by decide +kernel
theorem dX7_debtOf_13 : decode cX7_debtOf 13 = .ok (.iload_n 2, 1) := by decide +kernel
theorem dX7_debtOf_14 : decode cX7_debtOf 14 = .ok (.invokevirtual 34, 3) := by decide +kernel
theorem dX7_debtOf_17 : decode cX7_debtOf 17 = .ok (.imul, 1) := by decide +kernel
theorem dX7_debtOf_18 : decode cX7_debtOf 18 = .ok (.ireturn, 1) := by decide +kernel
set_option maxRecDepth 20000 in
theorem ggX7_shameOf_X7_bearerOf : GoodIn wsX7_shameOf wsX7_bearerOf := goodIn_r _ [6, 7, 8, 9, 10, 11, 12, 13, 21, 22, 23, 24, 25, 26] (by decide +kernel) (by decide +kernel)
set_option maxRecDepth 20000 in
theorem gX7_shameOf_X7_bearerOf : GoodIn wsX7_shameOf (wsV RX7 37 RX7 yX7_bearerOf wsX7_bearerOf) := goodIn_app (goodIn_of _ (by decide +kernel)) ggX7_shameOf_X7_bearerOf
set_option maxRecDepth 20000 in
theorem ggX7_shameOf_X4_suits : GoodIn wsX7_shameOf wsX4_suits := goodIn_r _ [18, 19, 20, 27, 28] (by decide +kernel) (by decide +kernel)
set_option maxRecDepth 20000 in
theorem gX7_shameOf_X4_suits : GoodIn wsX7_shameOf (wsV RX7 40 RX4 yX4_suits wsX4_suits) := goodIn_app (goodIn_of _ (by decide +kernel)) ggX7_shameOf_X4_suits
theorem dX7_shameOf_0 : decode cX7_shameOf 0 = .ok (.iconst 0, 1) := by decide +kernel
theorem dX7_shameOf_1 : decode cX7_shameOf 1 = .ok (.istore_n 3, 1) := by decide +kernel
theorem dX7_shameOf_2 : decode cX7_shameOf 2 = .ok (.iconst 0, 1) := by decide +kernel
theorem dX7_shameOf_3 : decode cX7_shameOf 3 = .ok (.istore 4, 2) := by decide +kernel
theorem dX7_shameOf_5 : decode cX7_shameOf 5 = .ok (.iload 4, 2) := by decide +kernel
theorem dX7_shameOf_7 : decode cX7_shameOf 7 = .ok (.iload_n 2, 1) := by decide +kernel
theorem dX7_shameOf_8 : decode cX7_shameOf 8 = .ok (.if_icmp .ge 30, 3) := by decide +kernel
theorem dX7_shameOf_11 : decode cX7_shameOf 11 = .ok (.aload_n 0, 1) := by decide +kernel
theorem dX7_shameOf_12 : decode cX7_shameOf 12 = .ok (.getfield 9, 3) := by decide +kernel
theorem dX7_shameOf_15 : decode cX7_shameOf 15 = .ok (.aload_n 0, 1) := by decide +kernel
theorem dX7_shameOf_16 : decode cX7_shameOf 16 = .ok (.iload_n 1, 1) := by decide +kernel
theorem dX7_shameOf_17 : decode cX7_shameOf 17 = .ok (.iload 4, 2) := by decide +kernel
theorem dX7_shameOf_19 : decode cX7_shameOf 19 = .ok (.invokevirtual 37, 3) := by decide +kernel
theorem dX7_shameOf_22 : decode cX7_shameOf 22 = .ok (.iload_n 1, 1) := by decide +kernel
theorem dX7_shameOf_23 : decode cX7_shameOf 23 = .ok (.invokevirtual 40, 3) := by decide +kernel
theorem dX7_shameOf_26 : decode cX7_shameOf 26 = .ok (.ifCond .ne 6, 3) := by decide +kernel
theorem dX7_shameOf_29 : decode cX7_shameOf 29 = .ok (.iinc 3 1, 3) := by decide +kernel
theorem dX7_shameOf_32 : decode cX7_shameOf 32 = .ok (.iinc 4 1, 3) := by decide +kernel
theorem dX7_shameOf_35 : decode cX7_shameOf 35 = .ok (.goto (-30), 3) := by decide +kernel
theorem dX7_shameOf_38 : decode cX7_shameOf 38 = .ok (.iload_n 3, 1) := by decide +kernel
theorem dX7_shameOf_39 : decode cX7_shameOf 39 = .ok (.ireturn, 1) := by decide +kernel
set_option maxRecDepth 20000 in
theorem ggX7_namesBorne_X1_nameOf : GoodIn wsX7_namesBorne wsX1_nameOf := goodIn_r _ [6, 7, 10, 11, 12, 13] (by decide +kernel) (by decide +kernel)
set_option maxRecDepth 20000 in
theorem gX7_namesBorne_X1_nameOf : GoodIn wsX7_namesBorne (wsV RX7 19 RX1 yX1_nameOf wsX1_nameOf) := goodIn_app (goodIn_of _ (by decide +kernel)) ggX7_namesBorne_X1_nameOf
theorem dX7_namesBorne_0 : decode cX7_namesBorne 0 = .ok (.iconst 0, 1) := by decide +kernel
theorem dX7_namesBorne_1 : decode cX7_namesBorne 1 = .ok (.istore_n 3, 1) := by decide +kernel
theorem dX7_namesBorne_2 : decode cX7_namesBorne 2 = .ok (.iconst 0, 1) := by decide +kernel
theorem dX7_namesBorne_3 : decode cX7_namesBorne 3 = .ok (.istore 4, 2) := by decide +kernel
theorem dX7_namesBorne_5 : decode cX7_namesBorne 5 = .ok (.iload 4, 2) := by decide +kernel
theorem dX7_namesBorne_7 : decode cX7_namesBorne 7 = .ok (.iload_n 2, 1) := by decide +kernel
theorem dX7_namesBorne_8 : decode cX7_namesBorne 8 = .ok (.if_icmp .ge 24, 3) := by decide +kernel
theorem dX7_namesBorne_11 : decode cX7_namesBorne 11 = .ok (.iload_n 3, 1) := by decide +kernel
theorem dX7_namesBorne_12 : decode cX7_namesBorne 12 = .ok (.iconst 1, 1) := by decide +kernel
theorem dX7_namesBorne_13 : decode cX7_namesBorne 13 = .ok (.aload_n 0, 1) := by decide +kernel
theorem dX7_namesBorne_14 : decode cX7_namesBorne 14 = .ok (.getfield 15, 3) := by decide +kernel
theorem dX7_namesBorne_17 : decode cX7_namesBorne 17 = .ok (.iload_n 1, 1) := by decide +kernel
theorem dX7_namesBorne_18 : decode cX7_namesBorne 18 = .ok (.iload 4, 2) := by decide +kernel
theorem dX7_namesBorne_20 : decode cX7_namesBorne 20 = .ok (.invokevirtual 19, 3) := by decide +kernel
theorem dX7_namesBorne_23 : decode cX7_namesBorne 23 = .ok (.ishl, 1) := by decide +kernel
theorem dX7_namesBorne_24 : decode cX7_namesBorne 24 = .ok (.ior, 1) := by decide +kernel
theorem dX7_namesBorne_25 : decode cX7_namesBorne 25 = .ok (.istore_n 3, 1) := by decide +kernel
theorem dX7_namesBorne_26 : decode cX7_namesBorne 26 = .ok (.iinc 4 1, 3) := by decide +kernel
theorem dX7_namesBorne_29 : decode cX7_namesBorne 29 = .ok (.goto (-24), 3) := by decide +kernel
theorem dX7_namesBorne_32 : decode cX7_namesBorne 32 = .ok (.iload_n 3, 1) := by decide +kernel
theorem dX7_namesBorne_33 : decode cX7_namesBorne 33 = .ok (.ireturn, 1) := by decide +kernel
set_option maxRecDepth 20000 in
theorem ggX7_firstYearAs_X1_nameOf : GoodIn wsX7_firstYearAs wsX1_nameOf := goodIn_r _ [7, 8, 11, 12, 13, 14] (by decide +kernel) (by decide +kernel)
set_option maxRecDepth 20000 in
theorem gX7_firstYearAs_X1_nameOf : GoodIn wsX7_firstYearAs (wsV RX7 19 RX1 yX1_nameOf wsX1_nameOf) := goodIn_app (goodIn_of _ (by decide +kernel)) ggX7_firstYearAs_X1_nameOf
theorem dX7_firstYearAs_0 : decode cX7_firstYearAs 0 = .ok (.iconst 0, 1) := by decide +kernel
theorem dX7_firstYearAs_1 : decode cX7_firstYearAs 1 = .ok (.istore_n 3, 1) := by decide +kernel
theorem dX7_firstYearAs_2 : decode cX7_firstYearAs 2 = .ok (.iload_n 3, 1) := by decide +kernel
theorem dX7_firstYearAs_3 : decode cX7_firstYearAs 3 = .ok (.aload_n 0, 1) := by decide +kernel
theorem dX7_firstYearAs_4 : decode cX7_firstYearAs 4 = .ok (.getfield 15, 3) := by decide +kernel
theorem dX7_firstYearAs_7 : decode cX7_firstYearAs 7 = .ok (.getfield 44, 3) := by decide +kernel
theorem dX7_firstYearAs_10 : decode cX7_firstYearAs 10 = .ok (.if_icmp .ge 37, 3) := by decide +kernel
theorem dX7_firstYearAs_13 : decode cX7_firstYearAs 13 = .ok (.aload_n 0, 1) := by decide +kernel
theorem dX7_firstYearAs_14 : decode cX7_firstYearAs 14 = .ok (.getfield 15, 3) := by decide +kernel
theorem dX7_firstYearAs_17 : decode cX7_firstYearAs 17 = .ok (.iload_n 1, 1) := by decide +kernel
theorem dX7_firstYearAs_18 : decode cX7_firstYearAs 18 = .ok (.iload_n 3, 1) := by decide +kernel
theorem dX7_firstYearAs_19 : decode cX7_firstYearAs 19 = .ok (.invokevirtual 19, 3) := by decide +kernel
theorem dX7_firstYearAs_22 : decode cX7_firstYearAs 22 = .ok (.iload_n 2, 1) := by decide +kernel
theorem dX7_firstYearAs_23 : decode cX7_firstYearAs 23 = .ok (.if_icmp .ne 18, 3) := by decide +kernel
theorem dX7_firstYearAs_26 : decode cX7_firstYearAs 26 = .ok (.aload_n 0, 1) := by decide +kernel
theorem dX7_firstYearAs_27 : decode cX7_firstYearAs 27 = .ok (.getfield 15, 3) := by decide +kernel
theorem dX7_firstYearAs_30 : decode cX7_firstYearAs 30 = .ok (.iload_n 2, 1) := by decide +kernel
theorem dX7_firstYearAs_31 : decode cX7_firstYearAs 31 = .ok (.iload_n 3, 1) := by decide +kernel
theorem dX7_firstYearAs_32 : decode cX7_firstYearAs 32 = .ok (.invokevirtual 19, 3) := by decide +kernel
theorem dX7_firstYearAs_35 : decode cX7_firstYearAs 35 = .ok (.iload_n 1, 1) := by decide +kernel
theorem dX7_firstYearAs_36 : decode cX7_firstYearAs 36 = .ok (.if_icmp .ne 5, 3) := by decide +kernel
theorem dX7_firstYearAs_39 : decode cX7_firstYearAs 39 = .ok (.iload_n 3, 1) := by decide +kernel
theorem dX7_firstYearAs_40 : decode cX7_firstYearAs 40 = .ok (.ireturn, 1) := by decide +kernel
theorem dX7_firstYearAs_41 : decode cX7_firstYearAs 41 = .ok (.iinc 3 1, 3) := by decide +kernel
theorem dX7_firstYearAs_44 : decode cX7_firstYearAs 44 = .ok (.goto (-42), 3) := by decide +kernel
theorem dX7_firstYearAs_47 : decode cX7_firstYearAs 47 = .ok (.iconst (-1), 1) := by decide +kernel
theorem dX7_firstYearAs_48 : decode cX7_firstYearAs 48 = .ok (.ireturn, 1) := by decide +kernel
set_option maxRecDepth 20000 in
theorem ggX7_wouldChange_X1_nameOf : GoodIn wsX7_wouldChange wsX1_nameOf := goodIn_r _ [7, 8, 22, 23, 24, 25] (by decide +kernel) (by decide +kernel)
set_option maxRecDepth 20000 in
theorem gX7_wouldChange_X1_nameOf : GoodIn wsX7_wouldChange (wsV RX7 19 RX1 yX1_nameOf wsX1_nameOf) := goodIn_app (goodIn_of _ (by decide +kernel)) ggX7_wouldChange_X1_nameOf
set_option maxRecDepth 20000 in
theorem ggX7_wouldChange_X4_earning : GoodIn wsX7_wouldChange wsX4_earning := goodIn_r _ [13, 14, 15, 16, 17, 12, 18, 19, 26, 27] (by decide +kernel) (by decide +kernel)
set_option maxRecDepth 20000 in
theorem gX7_wouldChange_X4_earning : GoodIn wsX7_wouldChange (wsV RX7 25 RX4 yX4_earning wsX4_earning) := goodIn_app (goodIn_of _ (by decide +kernel)) ggX7_wouldChange_X4_earning
theorem dX7_wouldChange_0 : decode cX7_wouldChange 0 = .ok (.aload_n 0, 1) := by decide +kernel
theorem dX7_wouldChange_1 : decode cX7_wouldChange 1 = .ok (.getfield 9, 3) := by decide +kernel
theorem dX7_wouldChange_4 : decode cX7_wouldChange 4 = .ok (.iload_n 1, 1) := by decide +kernel
theorem dX7_wouldChange_5 : decode cX7_wouldChange 5 = .ok (.aload_n 0, 1) := by decide +kernel
theorem dX7_wouldChange_6 : decode cX7_wouldChange 6 = .ok (.getfield 15, 3) := by decide +kernel
theorem dX7_wouldChange_9 : decode cX7_wouldChange 9 = .ok (.iload_n 1, 1) := by decide +kernel
theorem dX7_wouldChange_10 : decode cX7_wouldChange 10 = .ok (.iload_n 3, 1) := by decide +kernel
theorem dX7_wouldChange_11 : decode cX7_wouldChange 11 = .ok (.invokevirtual 19, 3) := by decide +kernel
theorem dX7_wouldChange_14 : decode cX7_wouldChange 14 = .ok (.invokevirtual 25, 3) := by decide +kernel
theorem dX7_wouldChange_17 : decode cX7_wouldChange 17 = .ok (.istore 4, 2) := by decide +kernel
theorem dX7_wouldChange_19 : decode cX7_wouldChange 19 = .ok (.aload_n 0, 1) := by decide +kernel
theorem dX7_wouldChange_20 : decode cX7_wouldChange 20 = .ok (.getfield 9, 3) := by decide +kernel
theorem dX7_wouldChange_23 : decode cX7_wouldChange 23 = .ok (.iload_n 1, 1) := by decide +kernel
theorem dX7_wouldChange_24 : decode cX7_wouldChange 24 = .ok (.aload_n 0, 1) := by decide +kernel
theorem dX7_wouldChange_25 : decode cX7_wouldChange 25 = .ok (.getfield 15, 3) := by decide +kernel
theorem dX7_wouldChange_28 : decode cX7_wouldChange 28 = .ok (.iload_n 2, 1) := by decide +kernel
theorem dX7_wouldChange_29 : decode cX7_wouldChange 29 = .ok (.iload_n 3, 1) := by decide +kernel
theorem dX7_wouldChange_30 : decode cX7_wouldChange 30 = .ok (.invokevirtual 19, 3) := by decide +kernel
theorem dX7_wouldChange_33 : decode cX7_wouldChange 33 = .ok (.invokevirtual 25, 3) := by decide +kernel
theorem dX7_wouldChange_36 : decode cX7_wouldChange 36 = .ok (.iload 4, 2) := by decide +kernel
theorem dX7_wouldChange_38 : decode cX7_wouldChange 38 = .ok (.if_icmp .le 7, 3) := by decide +kernel
theorem dX7_wouldChange_41 : decode cX7_wouldChange 41 = .ok (.iconst 1, 1) := by decide +kernel
theorem dX7_wouldChange_42 : decode cX7_wouldChange 42 = .ok (.goto 4, 3) := by decide +kernel
theorem dX7_wouldChange_45 : decode cX7_wouldChange 45 = .ok (.iconst 0, 1) := by decide +kernel
theorem dX7_wouldChange_46 : decode cX7_wouldChange 46 = .ok (.ireturn, 1) := by decide +kernel
set_option maxRecDepth 20000 in
theorem ggX7_drawnOn_X1_nameOf : GoodIn wsX7_drawnOn wsX1_nameOf := goodIn_r _ [6, 7, 10, 11, 12, 13] (by decide +kernel) (by decide +kernel)
set_option maxRecDepth 20000 in
theorem gX7_drawnOn_X1_nameOf : GoodIn wsX7_drawnOn (wsV RX7 19 RX1 yX1_nameOf wsX1_nameOf) := goodIn_app (goodIn_of _ (by decide +kernel)) ggX7_drawnOn_X1_nameOf
theorem dX7_drawnOn_0 : decode cX7_drawnOn 0 = .ok (.iload_n 2, 1) := by decide +kernel
theorem dX7_drawnOn_1 : decode cX7_drawnOn 1 = .ok (.istore 4, 2) := by decide +kernel
theorem dX7_drawnOn_3 : decode cX7_drawnOn 3 = .ok (.iconst 0, 1) := by decide +kernel
theorem dX7_drawnOn_4 : decode cX7_drawnOn 4 = .ok (.istore 5, 2) := by decide +kernel
theorem dX7_drawnOn_6 : decode cX7_drawnOn 6 = .ok (.iload 5, 2) := by decide +kernel
theorem dX7_drawnOn_8 : decode cX7_drawnOn 8 = .ok (.iload_n 3, 1) := by decide +kernel
theorem dX7_drawnOn_9 : decode cX7_drawnOn 9 = .ok (.if_icmp .ge 21, 3) := by decide +kernel
theorem dX7_drawnOn_12 : decode cX7_drawnOn 12 = .ok (.aload_n 0, 1) := by decide +kernel
theorem dX7_drawnOn_13 : decode cX7_drawnOn 13 = .ok (.getfield 15, 3) := by decide +kernel
theorem dX7_drawnOn_16 : decode cX7_drawnOn 16 = .ok (.iload 4, 2) := by decide +kernel
theorem dX7_drawnOn_18 : decode cX7_drawnOn 18 = .ok (.iload_n 1, 1) := by decide +kernel
theorem dX7_drawnOn_19 : decode cX7_drawnOn 19 = .ok (.invokevirtual 19, 3) := by decide +kernel
theorem dX7_drawnOn_22 : decode cX7_drawnOn 22 = .ok (.istore 4, 2) := by decide +kernel
theorem dX7_drawnOn_24 : decode cX7_drawnOn 24 = .ok (.iinc 5 1, 3) := by decide +kernel
theorem dX7_drawnOn_27 : decode cX7_drawnOn 27 = .ok (.goto (-21), 3) := by decide +kernel
theorem dX7_drawnOn_30 : decode cX7_drawnOn 30 = .ok (.iload 4, 2) := by decide +kernel
theorem dX7_drawnOn_32 : decode cX7_drawnOn 32 = .ok (.ireturn, 1) := by decide +kernel
set_option maxRecDepth 20000 in
theorem ggX7_isBack_X7_drawnOn : GoodIn wsX7_isBack wsX7_drawnOn := goodIn_r _ [5, 6, 7, 8, 9, 10, 11, 12, 13, 14, 15, 16, 17, 18] (by decide +kernel) (by decide +kernel)
set_option maxRecDepth 20000 in
theorem gX7_isBack_X7_drawnOn : GoodIn wsX7_isBack (wsV RX7 48 RX7 yX7_drawnOn wsX7_drawnOn) := goodIn_app (goodIn_of _ (by decide +kernel)) ggX7_isBack_X7_drawnOn
theorem dX7_isBack_0 : decode cX7_isBack 0 = .ok (.aload_n 0, 1) := by decide +kernel
theorem dX7_isBack_1 : decode cX7_isBack 1 = .ok (.iload_n 1, 1) := by decide +kernel
theorem dX7_isBack_2 : decode cX7_isBack 2 = .ok (.iload_n 2, 1) := by decide +kernel
theorem dX7_isBack_3 : decode cX7_isBack 3 = .ok (.iload_n 3, 1) := by decide +kernel
theorem dX7_isBack_4 : decode cX7_isBack 4 = .ok (.invokevirtual 48, 3) := by decide +kernel
theorem dX7_isBack_7 : decode cX7_isBack 7 = .ok (.iload_n 2, 1) := by decide +kernel
theorem dX7_isBack_8 : decode cX7_isBack 8 = .ok (.if_icmp .ne 7, 3) := by decide +kernel
theorem dX7_isBack_11 : decode cX7_isBack 11 = .ok (.iconst 1, 1) := by decide +kernel
theorem dX7_isBack_12 : decode cX7_isBack 12 = .ok (.goto 4, 3) := by decide +kernel
theorem dX7_isBack_15 : decode cX7_isBack 15 = .ok (.iconst 0, 1) := by decide +kernel
theorem dX7_isBack_16 : decode cX7_isBack 16 = .ok (.ireturn, 1) := by decide +kernel
set_option maxRecDepth 20000 in
theorem ggX7_allBack_X7_isBack : GoodIn wsX7_allBack wsX7_isBack := goodIn_r _ [5, 6, 7, 8, 4, 9, 10, 11, 12, 13, 14, 15, 16, 17, 18, 19, 20, 21, 22] (by decide +kernel) (by decide +kernel)
set_option maxRecDepth 20000 in
theorem gX7_allBack_X7_isBack : GoodIn wsX7_allBack (wsV RX7 52 RX7 yX7_isBack wsX7_isBack) := goodIn_app (goodIn_of _ (by decide +kernel)) ggX7_allBack_X7_isBack
theorem dX7_allBack_0 : decode cX7_allBack 0 = .ok (.iconst 0, 1) := by decide +kernel
theorem dX7_allBack_1 : decode cX7_allBack 1 = .ok (.istore_n 3, 1) := by decide +kernel
theorem dX7_allBack_2 : decode cX7_allBack 2 = .ok (.iload_n 3, 1) := by decide +kernel
theorem dX7_allBack_3 : decode cX7_allBack 3 = .ok (.bipush 6, 2) := by decide +kernel
theorem dX7_allBack_5 : decode cX7_allBack 5 = .ok (.if_icmp .ge 21, 3) := by decide +kernel
theorem dX7_allBack_8 : decode cX7_allBack 8 = .ok (.aload_n 0, 1) := by decide +kernel
theorem dX7_allBack_9 : decode cX7_allBack 9 = .ok (.iload_n 1, 1) := by decide +kernel
theorem dX7_allBack_10 : decode cX7_allBack 10 = .ok (.iload_n 3, 1) := by decide +kernel
theorem dX7_allBack_11 : decode cX7_allBack 11 = .ok (.iload_n 2, 1) := by decide +kernel
theorem dX7_allBack_12 : decode cX7_allBack 12 = .ok (.invokevirtual 52, 3) := by decide +kernel
theorem dX7_allBack_15 : decode cX7_allBack 15 = .ok (.ifCond .ne 5, 3) := by decide +kernel
theorem dX7_allBack_18 : decode cX7_allBack 18 = .ok (.iconst 0, 1) := by decide +kernel
theorem dX7_allBack_19 : decode cX7_allBack 19 = .ok (.ireturn, 1) := by decide +kernel
theorem dX7_allBack_20 : decode cX7_allBack 20 = .ok (.iinc 3 1, 3) := by decide +kernel
theorem dX7_allBack_23 : decode cX7_allBack 23 = .ok (.goto (-21), 3) := by decide +kernel
theorem dX7_allBack_26 : decode cX7_allBack 26 = .ok (.iconst 1, 1) := by decide +kernel
theorem dX7_allBack_27 : decode cX7_allBack 27 = .ok (.ireturn, 1) := by decide +kernel
set_option maxRecDepth 20000 in
theorem ggX7_allEarned_X7_earnedBy : GoodIn wsX7_allEarned wsX7_earnedBy := goodIn_r _ [7, 8, 1, 9, 10, 11, 12, 13, 14, 15, 16, 17, 18, 19, 20, 21, 22, 23, 24, 25, 26, 27, 28, 29, 30, 31, 32, 33] (by decide +kernel) (by decide +kernel)
set_option maxRecDepth 20000 in
theorem gX7_allEarned_X7_earnedBy : GoodIn wsX7_allEarned (wsV RX7 56 RX7 yX7_earnedBy wsX7_earnedBy) := goodIn_app (goodIn_of _ (by decide +kernel)) ggX7_allEarned_X7_earnedBy
theorem dX7_allEarned_0 : decode cX7_allEarned 0 = .ok (.iconst 0, 1) := by decide +kernel
theorem dX7_allEarned_1 : decode cX7_allEarned 1 = .ok (.istore_n 1, 1) := by decide +kernel
theorem dX7_allEarned_2 : decode cX7_allEarned 2 = .ok (.iconst 0, 1) := by decide +kernel
theorem dX7_allEarned_3 : decode cX7_allEarned 3 = .ok (.istore_n 2, 1) := by decide +kernel
theorem dX7_allEarned_4 : decode cX7_allEarned 4 = .ok (.iload_n 2, 1) := by decide +kernel
theorem dX7_allEarned_5 : decode cX7_allEarned 5 = .ok (.bipush 6, 2) := by decide +kernel
theorem dX7_allEarned_7 : decode cX7_allEarned 7 = .ok (.if_icmp .ge 24, 3) := by decide +kernel
theorem dX7_allEarned_10 : decode cX7_allEarned 10 = .ok (.iload_n 1, 1) := by decide +kernel
theorem dX7_allEarned_11 : decode cX7_allEarned 11 = .ok (.aload_n 0, 1) := by decide +kernel
theorem dX7_allEarned_12 : decode cX7_allEarned 12 = .ok (.iload_n 2, 1) := by decide +kernel
theorem dX7_allEarned_13 : decode cX7_allEarned 13 = .ok (.aload_n 0, 1) := by decide +kernel
theorem dX7_allEarned_14 : decode cX7_allEarned 14 = .ok (.getfield 15, 3) := by decide +kernel
theorem dX7_allEarned_17 : decode cX7_allEarned 17 = .ok (.getfield 44, 3) := by decide +kernel
theorem dX7_allEarned_20 : decode cX7_allEarned 20 = .ok (.invokevirtual 56, 3) := by decide +kernel
theorem dX7_allEarned_23 : decode cX7_allEarned 23 = .ok (.iadd, 1) := by decide +kernel
theorem dX7_allEarned_24 : decode cX7_allEarned 24 = .ok (.istore_n 1, 1) := by decide +kernel
theorem dX7_allEarned_25 : decode cX7_allEarned 25 = .ok (.iinc 2 1, 3) := by decide +kernel
theorem dX7_allEarned_28 : decode cX7_allEarned 28 = .ok (.goto (-24), 3) := by decide +kernel
theorem dX7_allEarned_31 : decode cX7_allEarned 31 = .ok (.iload_n 1, 1) := by decide +kernel
theorem dX7_allEarned_32 : decode cX7_allEarned 32 = .ok (.ireturn, 1) := by decide +kernel
set_option maxRecDepth 20000 in
theorem ggX7_allDebt_X7_debtOf : GoodIn wsX7_allDebt wsX7_debtOf := goodIn_r _ [7, 8, 9, 10, 11, 12, 6, 13, 14, 15, 16, 17, 1, 18, 19, 20, 21, 22, 23, 24, 25, 26, 27, 28, 29, 30, 31, 32, 37, 38, 33, 34, 35, 36] (by decide +kernel) (by decide +kernel)
set_option maxRecDepth 20000 in
theorem gX7_allDebt_X7_debtOf : GoodIn wsX7_allDebt (wsV RX7 59 RX7 yX7_debtOf wsX7_debtOf) := goodIn_app (goodIn_of _ (by decide +kernel)) ggX7_allDebt_X7_debtOf
theorem dX7_allDebt_0 : decode cX7_allDebt 0 = .ok (.iconst 0, 1) := by decide +kernel
theorem dX7_allDebt_1 : decode cX7_allDebt 1 = .ok (.istore_n 1, 1) := by decide +kernel
theorem dX7_allDebt_2 : decode cX7_allDebt 2 = .ok (.iconst 0, 1) := by decide +kernel
theorem dX7_allDebt_3 : decode cX7_allDebt 3 = .ok (.istore_n 2, 1) := by decide +kernel
theorem dX7_allDebt_4 : decode cX7_allDebt 4 = .ok (.iload_n 2, 1) := by decide +kernel
theorem dX7_allDebt_5 : decode cX7_allDebt 5 = .ok (.bipush 6, 2) := by decide +kernel
theorem dX7_allDebt_7 : decode cX7_allDebt 7 = .ok (.if_icmp .ge 24, 3) := by decide +kernel
theorem dX7_allDebt_10 : decode cX7_allDebt 10 = .ok (.iload_n 1, 1) := by decide +kernel
theorem dX7_allDebt_11 : decode cX7_allDebt 11 = .ok (.aload_n 0, 1) := by decide +kernel
theorem dX7_allDebt_12 : decode cX7_allDebt 12 = .ok (.iload_n 2, 1) := by decide +kernel
theorem dX7_allDebt_13 : decode cX7_allDebt 13 = .ok (.aload_n 0, 1) := by decide +kernel
theorem dX7_allDebt_14 : decode cX7_allDebt 14 = .ok (.getfield 15, 3) := by decide +kernel
theorem dX7_allDebt_17 : decode cX7_allDebt 17 = .ok (.getfield 44, 3) := by decide +kernel
theorem dX7_allDebt_20 : decode cX7_allDebt 20 = .ok (.invokevirtual 59, 3) := by decide +kernel
theorem dX7_allDebt_23 : decode cX7_allDebt 23 = .ok (.iadd, 1) := by decide +kernel
theorem dX7_allDebt_24 : decode cX7_allDebt 24 = .ok (.istore_n 1, 1) := by decide +kernel
theorem dX7_allDebt_25 : decode cX7_allDebt 25 = .ok (.iinc 2 1, 3) := by decide +kernel
theorem dX7_allDebt_28 : decode cX7_allDebt 28 = .ok (.goto (-24), 3) := by decide +kernel
theorem dX7_allDebt_31 : decode cX7_allDebt 31 = .ok (.iload_n 1, 1) := by decide +kernel
theorem dX7_allDebt_32 : decode cX7_allDebt 32 = .ok (.ireturn, 1) := by decide +kernel
set_option maxRecDepth 20000 in
theorem ggX7_allShame_X7_shameOf : GoodIn wsX7_allShame wsX7_shameOf := goodIn_r _ [7, 8, 9, 10, 11, 6, 12, 1, 13, 14, 15, 16, 17, 18, 19, 20, 21, 22, 23, 24, 25, 26, 27, 28, 29, 30, 31, 32, 33] (by decide +kernel) (by decide +kernel)
set_option maxRecDepth 20000 in
theorem gX7_allShame_X7_shameOf : GoodIn wsX7_allShame (wsV RX7 34 RX7 yX7_shameOf wsX7_shameOf) := goodIn_app (goodIn_of _ (by decide +kernel)) ggX7_allShame_X7_shameOf
theorem dX7_allShame_0 : decode cX7_allShame 0 = .ok (.iconst 0, 1) := by decide +kernel
theorem dX7_allShame_1 : decode cX7_allShame 1 = .ok (.istore_n 1, 1) := by decide +kernel
theorem dX7_allShame_2 : decode cX7_allShame 2 = .ok (.iconst 0, 1) := by decide +kernel
theorem dX7_allShame_3 : decode cX7_allShame 3 = .ok (.istore_n 2, 1) := by decide +kernel
theorem dX7_allShame_4 : decode cX7_allShame 4 = .ok (.iload_n 2, 1) := by decide +kernel
theorem dX7_allShame_5 : decode cX7_allShame 5 = .ok (.bipush 6, 2) := by decide +kernel
theorem dX7_allShame_7 : decode cX7_allShame 7 = .ok (.if_icmp .ge 24, 3) := by decide +kernel
theorem dX7_allShame_10 : decode cX7_allShame 10 = .ok (.iload_n 1, 1) := by decide +kernel
theorem dX7_allShame_11 : decode cX7_allShame 11 = .ok (.aload_n 0, 1) := by decide +kernel
theorem dX7_allShame_12 : decode cX7_allShame 12 = .ok (.iload_n 2, 1) := by decide +kernel
theorem dX7_allShame_13 : decode cX7_allShame 13 = .ok (.aload_n 0, 1) := by decide +kernel
theorem dX7_allShame_14 : decode cX7_allShame 14 = .ok (.getfield 15, 3) := by decide +kernel
theorem dX7_allShame_17 : decode cX7_allShame 17 = .ok (.getfield 44, 3) := by decide +kernel
theorem dX7_allShame_20 : decode cX7_allShame 20 = .ok (.invokevirtual 34, 3) := by decide +kernel
theorem dX7_allShame_23 : decode cX7_allShame 23 = .ok (.iadd, 1) := by decide +kernel
theorem dX7_allShame_24 : decode cX7_allShame 24 = .ok (.istore_n 1, 1) := by decide +kernel
theorem dX7_allShame_25 : decode cX7_allShame 25 = .ok (.iinc 2 1, 3) := by decide +kernel
theorem dX7_allShame_28 : decode cX7_allShame 28 = .ok (.goto (-24), 3) := by decide +kernel
theorem dX7_allShame_31 : decode cX7_allShame 31 = .ok (.iload_n 1, 1) := by decide +kernel
theorem dX7_allShame_32 : decode cX7_allShame 32 = .ok (.ireturn, 1) := by decide +kernel
set_option maxRecDepth 20000 in
theorem ggX7_bearerOf_X1_nameOf : GoodIn wsX7_bearerOf wsX1_nameOf := goodIn_r _ [6, 7, 10, 11, 12, 13] (by decide +kernel) (by decide +kernel)
set_option maxRecDepth 20000 in
theorem gX7_bearerOf_X1_nameOf : GoodIn wsX7_bearerOf (wsV RX7 19 RX1 yX1_nameOf wsX1_nameOf) := goodIn_app (goodIn_of _ (by decide +kernel)) ggX7_bearerOf_X1_nameOf
theorem dX7_bearerOf_0 : decode cX7_bearerOf 0 = .ok (.iconst 0, 1) := by decide +kernel
theorem dX7_bearerOf_1 : decode cX7_bearerOf 1 = .ok (.istore_n 3, 1) := by decide +kernel
theorem dX7_bearerOf_2 : decode cX7_bearerOf 2 = .ok (.iload_n 3, 1) := by decide +kernel
theorem dX7_bearerOf_3 : decode cX7_bearerOf 3 = .ok (.iconst 5, 1) := by decide +kernel
theorem dX7_bearerOf_4 : decode cX7_bearerOf 4 = .ok (.if_icmp .ge 24, 3) := by decide +kernel
theorem dX7_bearerOf_7 : decode cX7_bearerOf 7 = .ok (.aload_n 0, 1) := by decide +kernel
theorem dX7_bearerOf_8 : decode cX7_bearerOf 8 = .ok (.getfield 15, 3) := by decide +kernel
theorem dX7_bearerOf_11 : decode cX7_bearerOf 11 = .ok (.iload_n 3, 1) := by decide +kernel
theorem dX7_bearerOf_12 : decode cX7_bearerOf 12 = .ok (.iload_n 2, 1) := by decide +kernel
theorem dX7_bearerOf_13 : decode cX7_bearerOf 13 = .ok (.invokevirtual 19, 3) := by decide +kernel
theorem dX7_bearerOf_16 : decode cX7_bearerOf 16 = .ok (.iload_n 1, 1) := by decide +kernel
theorem dX7_bearerOf_17 : decode cX7_bearerOf 17 = .ok (.if_icmp .ne 5, 3) := by decide +kernel
theorem dX7_bearerOf_20 : decode cX7_bearerOf 20 = .ok (.iload_n 3, 1) := by decide +kernel
theorem dX7_bearerOf_21 : decode cX7_bearerOf 21 = .ok (.ireturn, 1) := by decide +kernel
theorem dX7_bearerOf_22 : decode cX7_bearerOf 22 = .ok (.iinc 3 1, 3) := by decide +kernel
theorem dX7_bearerOf_25 : decode cX7_bearerOf 25 = .ok (.goto (-23), 3) := by decide +kernel
theorem dX7_bearerOf_28 : decode cX7_bearerOf 28 = .ok (.iconst 5, 1) := by decide +kernel
theorem dX7_bearerOf_29 : decode cX7_bearerOf 29 = .ok (.ireturn, 1) := by decide +kernel
