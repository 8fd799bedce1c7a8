theorem dX0_init_0 : decode cX0_init 0 = .ok (.aload_n 0, 1) := by decide +kernel
theorem dX0_init_1 : decode cX0_init 1 = .ok (.invokespecial 3, 3) := by decide +kernel
theorem dX0_init_4 : decode cX0_init 4 = .ok (.aload_n 0, 1) := by decide +kernel
theorem dX0_init_5 : decode cX0_init 5 = .ok (.bipush 7, 2) := by decide +kernel
theorem dX0_init_7 : decode cX0_init 7 = .ok (.newarray .long, 2) := by decide +kernel
theorem dX0_init_9 : decode cX0_init 9 = .ok (.putfield 9, 3) := by decide +kernel
theorem dX0_init_12 : decode cX0_init 12 = .ok (.aload_n 0, 1) := by decide +kernel
theorem dX0_init_13 : decode cX0_init 13 = .ok (.aload_n 1, 1) := by decide +kernel
theorem dX0_init_14 : decode cX0_init 14 = .ok (.putfield 15, 3) := by decide +kernel
theorem dX0_init_17 : decode cX0_init 17 = .ok (.aload_n 0, 1) := by decide +kernel
theorem dX0_init_18 : decode cX0_init 18 = .ok (.aload_n 2, 1) := by decide +kernel
theorem dX0_init_19 : decode cX0_init 19 = .ok (.putfield 19, 3) := by decide +kernel
theorem dX0_init_22 : decode cX0_init 22 = .ok (.return_, 1) := by decide +kernel
set_option maxRecDepth 20000 in
theorem ggX0_start_J7_fill_53178 : GoodIn wsX0_start wsJ7_fill_53178 := goodIn_r _ [8] (by decide +kernel) (by decide +kernel)
set_option maxRecDepth 20000 in
theorem gX0_start_J7_fill_53178 : GoodIn wsX0_start (va_wsS RX0 29 yJ7_fill_53178 wsJ7_fill_53178) := goodIn_app (goodIn_of _ (by decide +kernel)) ggX0_start_J7_fill_53178
set_option maxRecDepth 20000 in
theorem ggX0_start_X6_standing : GoodIn wsX0_start wsX6_standing := goodIn_r _ [13, 14, 15, 16, 17, 12, 18, 19, 20, 46, 47, 48, 49, 50, 51, 52, 53, 54, 55, 56, 57, 58] (by decide +kernel) (by decide +kernel)
set_option maxRecDepth 20000 in
theorem gX0_start_X6_standing : GoodIn wsX0_start (wsV RX0 35 RX6 yX6_standing wsX6_standing) := goodIn_app (goodIn_of _ (by decide +kernel)) ggX0_start_X6_standing
set_option maxRecDepth 20000 in
theorem ggX0_start_X0_letBelow : GoodIn wsX0_start wsX0_letBelow := goodIn_r _ [25, 3, 4, 1, 2, 26, 27, 28, 29, 12, 30, 31, 32, 33, 34, 35, 36, 37, 38, 39, 40, 41, 42, 43, 44, 45, 46, 47, 48, 49, 50, 51, 52, 53, 54, 55, 56, 57, 58] (by decide +kernel) (by decide +kernel)
set_option maxRecDepth 20000 in
theorem gX0_start_X0_letBelow : GoodIn wsX0_start (wsV RX0 41 RX0 yX0_letBelow wsX0_letBelow) := goodIn_app (goodIn_of _ (by decide +kernel)) ggX0_start_X0_letBelow
theorem dX0_start_0 : decode cX0_start 0 = .ok (.aload_n 0, 1) := by decide +kernel
theorem dX0_start_1 : decode cX0_start 1 = .ok (.getfield 19, 3) := by decide +kernel
theorem dX0_start_4 : decode cX0_start 4 = .ok (.getfield 23, 3) := by decide +kernel
theorem dX0_start_7 : decode cX0_start 7 = .ok (.iconst (-1), 1) := by decide +kernel
theorem dX0_start_8 : decode cX0_start 8 = .ok (.invokestatic 29, 3) := by decide +kernel
theorem dX0_start_11 : decode cX0_start 11 = .ok (.aload_n 0, 1) := by decide +kernel
theorem dX0_start_12 : decode cX0_start 12 = .ok (.getfield 9, 3) := by decide +kernel
theorem dX0_start_15 : decode cX0_start 15 = .ok (.bipush 6, 2) := by decide +kernel
theorem dX0_start_17 : decode cX0_start 17 = .ok (.aload_n 0, 1) := by decide +kernel
theorem dX0_start_18 : decode cX0_start 18 = .ok (.getfield 15, 3) := by decide +kernel
theorem dX0_start_21 : decode cX0_start 21 = .ok (.iload_n 1, 1) := by decide +kernel
theorem dX0_start_22 : decode cX0_start 22 = .ok (.invokevirtual 35, 3) := by decide +kernel
theorem dX0_start_25 : decode cX0_start 25 = .ok (.lastore, 1) := by decide +kernel
theorem dX0_start_26 : decode cX0_start 26 = .ok (.aload_n 0, 1) := by decide +kernel
theorem dX0_start_27 : decode cX0_start 27 = .ok (.iconst 5, 1) := by decide +kernel
theorem dX0_start_28 : decode cX0_start 28 = .ok (.invokevirtual 41, 3) := by decide +kernel
theorem dX0_start_31 : decode cX0_start 31 = .ok (.return_, 1) := by decide +kernel
set_option maxRecDepth 20000 in
theorem ggX0_turnTo_X0_setTies : GoodIn wsX0_turnTo wsX0_setTies := goodIn_r _ [6, 1, 7, 8, 9, 10, 5, 11, 12, 13, 14, 15, 16, 17, 18, 19, 20, 21, 22, 60, 61, 62, 63, 64, 65, 66, 67, 68, 69, 70, 71, 72, 73, 74, 75, 76, 77, 78, 79, 80, 81, 82, 83, 84] (by decide +kernel) (by decide +kernel)
set_option maxRecDepth 20000 in
theorem gX0_turnTo_X0_setTies : GoodIn wsX0_turnTo (wsV RX0 45 RX0 yX0_setTies wsX0_setTies) := goodIn_app (goodIn_of _ (by decide +kernel)) ggX0_turnTo_X0_setTies
set_option maxRecDepth 20000 in
theorem ggX0_turnTo_X4_readBooks : GoodIn wsX0_turnTo wsX4_readBooks := goodIn_r _ [27, 28, 29, 30, 31, 32, 33, 34, 35, 36, 37, 38, 39, 40, 41, 42, 43, 44, 18, 45, 46, 47, 48, 49, 50, 51, 52, 53, 54, 55, 56, 57, 58, 59, 63, 64, 65, 66, 67, 68, 69, 70, 71, 72, 73, 74, 75, 76, 77, 78, 79, 80, 81, 82, 83, 84, 85, 86] (by decide +kernel) (by decide +kernel)
set_option maxRecDepth 20000 in
theorem gX0_turnTo_X4_readBooks : GoodIn wsX0_turnTo (wsV RX0 48 RX4 yX4_readBooks wsX4_readBooks) := goodIn_app (goodIn_of _ (by decide +kernel)) ggX0_turnTo_X4_readBooks
theorem dX0_turnTo_0 : decode cX0_turnTo 0 = .ok (.aload_n 0, 1) := by decide +kernel
theorem dX0_turnTo_1 : decode cX0_turnTo 1 = .ok (.iload_n 1, 1) := by decide +kernel
theorem dX0_turnTo_2 : decode cX0_turnTo 2 = .ok (.invokevirtual 45, 3) := by decide +kernel
theorem dX0_turnTo_5 : decode cX0_turnTo 5 = .ok (.aload_n 0, 1) := by decide +kernel
theorem dX0_turnTo_6 : decode cX0_turnTo 6 = .ok (.getfield 19, 3) := by decide +kernel
theorem dX0_turnTo_9 : decode cX0_turnTo 9 = .ok (.iload_n 2, 1) := by decide +kernel
theorem dX0_turnTo_10 : decode cX0_turnTo 10 = .ok (.invokevirtual 48, 3) := by decide +kernel
theorem dX0_turnTo_13 : decode cX0_turnTo 13 = .ok (.return_, 1) := by decide +kernel
set_option maxRecDepth 20000 in
theorem ggX0_setTies_X0_letBelow : GoodIn wsX0_setTies wsX0_letBelow := goodIn_r _ [7, 8, 9, 1, 2, 10, 11, 12, 13, 14, 15, 16, 17, 18, 19, 20, 21, 22, 23, 24, 25, 26, 27, 28, 29, 30, 31, 32, 33, 34, 35, 36, 37, 38, 39, 40, 41, 42, 43] (by decide +kernel) (by decide +kernel)
set_option maxRecDepth 20000 in
theorem gX0_setTies_X0_letBelow : GoodIn wsX0_setTies (wsV RX0 41 RX0 yX0_letBelow wsX0_letBelow) := goodIn_app (goodIn_of _ (by decide +kernel)) ggX0_setTies_X0_letBelow
theorem dX0_setTies_0 : decode cX0_setTies 0 = .ok (.iload_n 1, 1) := by decide +kernel
theorem dX0_setTies_1 : decode cX0_setTies 1 = .ok (.istore_n 2, 1) := by decide +kernel
theorem dX0_setTies_2 : decode cX0_setTies 2 = .ok (.iconst (-1), 1) := by decide +kernel
theorem dX0_setTies_3 : decode cX0_setTies 3 = .ok (.istore_n 3, 1) := by decide +kernel
theorem dX0_setTies_4 : decode cX0_setTies 4 = .ok (.iconst 0, 1) := by decide +kernel
theorem dX0_setTies_5 : decode cX0_setTies 5 = .ok (.istore 4, 2) := by decide +kernel
theorem dX0_setTies_7 : decode cX0_setTies 7 = .ok (.iload 4, 2) := by decide +kernel
theorem dX0_setTies_9 : decode cX0_setTies 9 = .ok (.bipush 6, 2) := by decide +kernel
theorem dX0_setTies_11 : decode cX0_setTies 11 = .ok (.if_icmp .ge 50, 3) := by decide +kernel
theorem dX0_setTies_14 : decode cX0_setTies 14 = .ok (.iload_n 2, 1) := by decide +kernel
theorem dX0_setTies_15 : decode cX0_setTies 15 = .ok (.iconst 5, 1) := by decide +kernel
theorem dX0_setTies_16 : decode cX0_setTies 16 = .ok (.irem, 1) := by decide +kernel
theorem dX0_setTies_17 : decode cX0_setTies 17 = .ok (.iconst 1, 1) := by decide +kernel
theorem dX0_setTies_18 : decode cX0_setTies 18 = .ok (.isub, 1) := by decide +kernel
theorem dX0_setTies_19 : decode cX0_setTies 19 = .ok (.istore 5, 2) := by decide +kernel
theorem dX0_setTies_21 : decode cX0_setTies 21 = .ok (.iload_n 2, 1) := by decide +kernel
theorem dX0_setTies_22 : decode cX0_setTies 22 = .ok (.iconst 5, 1) := by decide +kernel
theorem dX0_setTies_23 : decode cX0_setTies 23 = .ok (.idiv, 1) := by decide +kernel
theorem dX0_setTies_24 : decode cX0_setTies 24 = .ok (.istore_n 2, 1) := by decide +kernel
theorem dX0_setTies_25 : decode cX0_setTies 25 = .ok (.aload_n 0, 1) := by decide +kernel
theorem dX0_setTies_26 : decode cX0_setTies 26 = .ok (.getfield 19, 3) := by decide +kernel
theorem dX0_setTies_29 : decode cX0_setTies 29 = .ok (.getfield 23, 3) := by decide +kernel
theorem dX0_setTies_32 : decode cX0_setTies 32 = .ok (.iload 4, 2) := by decide +kernel
theorem dX0_setTies_34 : decode cX0_setTies 34 = .ok (.iaload, 1) := by decide +kernel
theorem dX0_setTies_35 : decode cX0_setTies 35 = .ok (.iload 5, 2) := by decide +kernel
theorem dX0_setTies_37 : decode cX0_setTies 37 = .ok (.if_icmp .eq 18, 3) := by decide +kernel
theorem dX0_setTies_40 : decode cX0_setTies 40 = .ok (.aload_n 0, 1) := by decide +kernel
theorem dX0_setTies_41 : decode cX0_setTies 41 = .ok (.getfield 19, 3) := by decide +kernel
theorem dX0_setTies_44 : decode cX0_setTies 44 = .ok (.getfield 23, 3) := by decide +kernel
theorem dX0_setTies_47 : decode cX0_setTies 47 = .ok (.iload 4, 2) := by decide +kernel
theorem dX0_setTies_49 : decode cX0_setTies 49 = .ok (.iload 5, 2) := by decide +kernel
theorem dX0_setTies_51 : decode cX0_setTies 51 = .ok (.iastore, 1) := by decide +kernel
theorem dX0_setTies_52 : decode cX0_setTies 52 = .ok (.iload 4, 2) := by decide +kernel
theorem dX0_setTies_54 : decode cX0_setTies 54 = .ok (.istore_n 3, 1) := by decide +kernel
theorem dX0_setTies_55 : decode cX0_setTies 55 = .ok (.iinc 4 1, 3) := by decide +kernel
theorem dX0_setTies_58 : decode cX0_setTies 58 = .ok (.goto (-51), 3) := by decide +kernel
theorem dX0_setTies_61 : decode cX0_setTies 61 = .ok (.aload_n 0, 1) := by decide +kernel
theorem dX0_setTies_62 : decode cX0_setTies 62 = .ok (.iload_n 3, 1) := by decide +kernel
theorem dX0_setTies_63 : decode cX0_setTies 63 = .ok (.invokevirtual 41, 3) := by decide +kernel
theorem dX0_setTies_66 : decode cX0_setTies 66 = .ok (.return_, 1) := by decide +kernel
set_option maxRecDepth 20000 in
theorem ggX0_letBelow_X6_letBy : GoodIn wsX0_letBelow wsX6_letBy := goodIn_r _ [10, 11, 12, 13, 26, 27, 28, 29, 30, 31, 32, 33, 34, 35, 36, 37, 38] (by decide +kernel) (by decide +kernel)
set_option maxRecDepth 20000 in
theorem gX0_letBelow_X6_letBy : GoodIn wsX0_letBelow (wsV RX0 51 RX6 yX6_letBy wsX6_letBy) := goodIn_app (goodIn_of _ (by decide +kernel)) ggX0_letBelow_X6_letBy
theorem dX0_letBelow_0 : decode cX0_letBelow 0 = .ok (.iload_n 1, 1) := by decide +kernel
theorem dX0_letBelow_1 : decode cX0_letBelow 1 = .ok (.istore_n 2, 1) := by decide +kernel
theorem dX0_letBelow_2 : decode cX0_letBelow 2 = .ok (.iload_n 2, 1) := by decide +kernel
theorem dX0_letBelow_3 : decode cX0_letBelow 3 = .ok (.ifCond .lt 39, 3) := by decide +kernel
theorem dX0_letBelow_6 : decode cX0_letBelow 6 = .ok (.aload_n 0, 1) := by decide +kernel
theorem dX0_letBelow_7 : decode cX0_letBelow 7 = .ok (.getfield 9, 3) := by decide +kernel
theorem dX0_letBelow_10 : decode cX0_letBelow 10 = .ok (.iload_n 2, 1) := by decide +kernel
theorem dX0_letBelow_11 : decode cX0_letBelow 11 = .ok (.aload_n 0, 1) := by decide +kernel
theorem dX0_letBelow_12 : decode cX0_letBelow 12 = .ok (.getfield 9, 3) := by decide +kernel
theorem dX0_letBelow_15 : decode cX0_letBelow 15 = .ok (.iload_n 2, 1) := by decide +kernel
theorem dX0_letBelow_16 : decode cX0_letBelow 16 = .ok (.iconst 1, 1) := by decide +kernel
theorem dX0_letBelow_17 : decode cX0_letBelow 17 = .ok (.iadd, 1) := by decide +kernel
theorem dX0_letBelow_18 : decode cX0_letBelow 18 = .ok (.laload, 1) := by decide +kernel
theorem dX0_letBelow_19 : decode cX0_letBelow 19 = .ok (.aload_n 0, 1) := by decide +kernel
theorem dX0_letBelow_20 : decode cX0_letBelow 20 = .ok (.getfield 15, 3) := by decide +kernel
theorem dX0_letBelow_23 : decode cX0_letBelow 23 = .ok (.aload_n 0, 1) := by decide +kernel
theorem dX0_letBelow_24 : decode cX0_letBelow 24 = .ok (.getfield 19, 3) := by decide +kernel
theorem dX0_letBelow_27 : decode cX0_letBelow 27 = .ok (.getfield 23, 3) := by decide +kernel
theorem dX0_letBelow_30 : decode cX0_letBelow 30 = .ok (.iload_n 2, 1) := by decide +kernel
theorem dX0_letBelow_31 : decode cX0_letBelow 31 = .ok (.invokevirtual 51, 3) := by decide +kernel
theorem dX0_letBelow_34 : decode cX0_letBelow 34 = .ok (.land, 1) := by decide +kernel
theorem dX0_letBelow_35 : decode cX0_letBelow 35 = .ok (.lastore, 1) := by decide +kernel
theorem dX0_letBelow_36 : decode cX0_letBelow 36 = .ok (.iinc 2 (-1), 3) := by decide +kernel
theorem dX0_letBelow_39 : decode cX0_letBelow 39 = .ok (.goto (-37), 3) := by decide +kernel
theorem dX0_letBelow_42 : decode cX0_letBelow 42 = .ok (.aload_n 0, 1) := by decide +kernel
theorem dX0_letBelow_43 : decode cX0_letBelow 43 = .ok (.getfield 19, 3) := by decide +kernel
theorem dX0_letBelow_46 : decode cX0_letBelow 46 = .ok (.aload_n 0, 1) := by decide +kernel
theorem dX0_letBelow_47 : decode cX0_letBelow 47 = .ok (.getfield 9, 3) := by decide +kernel
theorem dX0_letBelow_50 : decode cX0_letBelow 50 = .ok (.iconst 0, 1) := by decide +kernel
theorem dX0_letBelow_51 : decode cX0_letBelow 51 = .ok (.laload, 1) := by decide +kernel
theorem dX0_letBelow_52 : decode cX0_letBelow 52 = .ok (.putfield 55, 3) := by decide +kernel
theorem dX0_letBelow_55 : decode cX0_letBelow 55 = .ok (.return_, 1) := by decide +kernel
set_option maxRecDepth 20000 in
theorem ggX0_partIn_X0_turnTo : GoodIn wsX0_partIn wsX0_turnTo := goodIn_r _ [6, 1, 7, 8, 9, 5, 10, 11, 12, 13, 14, 15, 16, 17, 18, 19, 20, 21, 22, 23, 24, 25, 26, 27, 28, 29, 30, 31, 32, 33, 34, 35, 36, 37, 38, 39, 40, 41, 42, 43, 44, 45, 46, 47, 48, 49, 50, 51, 52, 53, 54, 55, 56, 57, 58, 59, 60, 61, 62, 63, 100, 101, 102, 103, 104, 105, 106, 107, 108, 109, 110, 111, 112, 113, 114, 115, 116, 117, 118, 119, 120, 121, 122, 123, 124, 125, 126] (by decide +kernel) (by decide +kernel)
set_option maxRecDepth 20000 in
theorem gX0_partIn_X0_turnTo : GoodIn wsX0_partIn (wsV RX0 59 RX0 yX0_turnTo wsX0_turnTo) := goodIn_app (goodIn_of _ (by decide +kernel)) ggX0_partIn_X0_turnTo
set_option maxRecDepth 20000 in
theorem ggX0_partIn_X4_outcome : GoodIn wsX0_partIn wsX4_outcome := goodIn_r _ [67, 68, 32, 39, 38, 69, 70, 71, 72, 73, 74, 75, 76, 77, 78, 79, 80, 30, 81, 36, 35, 82, 83, 84, 85, 86, 87, 88, 89, 90, 91, 92, 93, 94, 95, 96, 97, 98, 99, 103, 104, 105, 106, 107, 108, 109, 110, 111, 127, 128, 129, 130, 125, 126, 131, 132, 133, 134] (by decide +kernel) (by decide +kernel)
set_option maxRecDepth 20000 in
theorem gX0_partIn_X4_outcome : GoodIn wsX0_partIn (wsV RX0 63 RX4 yX4_outcome wsX4_outcome) := goodIn_app (goodIn_of _ (by decide +kernel)) ggX0_partIn_X4_outcome
theorem dX0_partIn_0 : decode cX0_partIn 0 = .ok (.aload_n 0, 1) := by decide +kernel
theorem dX0_partIn_1 : decode cX0_partIn 1 = .ok (.iload_n 1, 1) := by decide +kernel
theorem dX0_partIn_2 : decode cX0_partIn 2 = .ok (.iload 4, 2) := by decide +kernel
theorem dX0_partIn_4 : decode cX0_partIn 4 = .ok (.invokevirtual 59, 3) := by decide +kernel
theorem dX0_partIn_7 : decode cX0_partIn 7 = .ok (.aload_n 0, 1) := by decide +kernel
theorem dX0_partIn_8 : decode cX0_partIn 8 = .ok (.getfield 19, 3) := by decide +kernel
theorem dX0_partIn_11 : decode cX0_partIn 11 = .ok (.iload_n 2, 1) := by decide +kernel
theorem dX0_partIn_12 : decode cX0_partIn 12 = .ok (.invokevirtual 63, 3) := by decide +kernel
theorem dX0_partIn_15 : decode cX0_partIn 15 = .ok (.aload_n 0, 1) := by decide +kernel
theorem dX0_partIn_16 : decode cX0_partIn 16 = .ok (.getfield 19, 3) := by decide +kernel
theorem dX0_partIn_19 : decode cX0_partIn 19 = .ok (.iload_n 3, 1) := by decide +kernel
theorem dX0_partIn_20 : decode cX0_partIn 20 = .ok (.invokevirtual 63, 3) := by decide +kernel
theorem dX0_partIn_23 : decode cX0_partIn 23 = .ok (.if_icmp .eq 7, 3) := by decide +kernel
theorem dX0_partIn_26 : decode cX0_partIn 26 = .ok (.iconst 1, 1) := by decide +kernel
theorem dX0_partIn_27 : decode cX0_partIn 27 = .ok (.goto 4, 3) := by decide +kernel
theorem dX0_partIn_30 : decode cX0_partIn 30 = .ok (.iconst 0, 1) := by decide +kernel
theorem dX0_partIn_31 : decode cX0_partIn 31 = .ok (.ireturn, 1) := by decide +kernel
set_option maxRecDepth 20000 in
theorem ggX0_countUnlike_X0_start : GoodIn wsX0_countUnlike wsX0_start := goodIn_r _ [5, 6, 7, 8, 9, 10, 11, 12, 13, 14, 15, 16, 17, 18, 19, 20, 21, 22, 23, 24, 25, 26, 27, 28, 4, 29, 30, 31, 32, 33, 34, 35, 36, 37, 123, 124, 125, 126, 127, 128, 129, 130, 131, 132, 133, 134, 135, 136, 137, 138, 139, 140, 141, 142, 143, 144, 145, 146, 147] (by decide +kernel) (by decide +kernel)
set_option maxRecDepth 20000 in
theorem gX0_countUnlike_X0_start : GoodIn wsX0_countUnlike (wsV RX0 67 RX0 yX0_start wsX0_start) := goodIn_app (goodIn_of _ (by decide +kernel)) ggX0_countUnlike_X0_start
set_option maxRecDepth 20000 in
theorem ggX0_countUnlike_X0_partIn : GoodIn wsX0_countUnlike wsX0_partIn := goodIn_r _ [41, 6, 42, 43, 44, 4, 45, 46, 47, 48, 49, 7, 26, 27, 28, 29, 8, 9, 30, 31, 32, 33, 17, 34, 35, 36, 37, 50, 51, 52, 53, 54, 55, 56, 57, 58, 59, 60, 61, 62, 63, 64, 65, 66, 67, 68, 69, 70, 71, 72, 73, 74, 75, 76, 77, 78, 79, 80, 81, 82, 83, 84, 85, 86, 87, 88, 89, 90, 91, 92, 93, 94, 95, 96, 97, 98, 99, 100, 101, 102, 103, 104, 105, 106, 107, 108, 109, 110, 111, 112, 113, 114, 115, 116, 117, 118, 119, 120, 121, 122, 123, 124, 125, 126, 127, 128, 129, 130, 131, 132, 133, 134, 135, 136, 137, 138, 139, 140, 141, 142, 143, 144, 145, 146, 147, 148, 149, 150, 151, 152, 153, 154, 155, 156, 157] (by decide +kernel) (by decide +kernel)
set_option maxRecDepth 20000 in
theorem gX0_countUnlike_X0_partIn : GoodIn wsX0_countUnlike (wsV RX0 70 RX0 yX0_partIn wsX0_partIn) := goodIn_app (goodIn_of _ (by decide +kernel)) ggX0_countUnlike_X0_partIn
theorem dX0_countUnlike_0 : decode cX0_countUnlike 0 = .ok (.iconst 0, 1) := by decide +kernel
theorem dX0_countUnlike_1 : decode cX0_countUnlike 1 = .ok (.istore 5, 2) := by decide +kernel
theorem dX0_countUnlike_3 : decode cX0_countUnlike 3 = .ok (.aload_n 0, 1) := by decide +kernel
theorem dX0_countUnlike_4 : decode cX0_countUnlike 4 = .ok (.iload 4, 2) := by decide +kernel
theorem dX0_countUnlike_6 : decode cX0_countUnlike 6 = .ok (.invokevirtual 67, 3) := by decide +kernel
theorem dX0_countUnlike_9 : decode cX0_countUnlike 9 = .ok (.iconst 0, 1) := by decide +kernel
theorem dX0_countUnlike_10 : decode cX0_countUnlike 10 = .ok (.istore 6, 2) := by decide +kernel
theorem dX0_countUnlike_12 : decode cX0_countUnlike 12 = .ok (.iload 6, 2) := by decide +kernel
theorem dX0_countUnlike_14 : decode cX0_countUnlike 14 = .ok (.sipush 15625, 3) := by decide +kernel
theorem dX0_countUnlike_17 : decode cX0_countUnlike 17 = .ok (.if_icmp .ge 24, 3) := by decide +kernel
theorem dX0_countUnlike_20 : decode cX0_countUnlike 20 = .ok (.aload_n 0, 1) := by decide +kernel
theorem dX0_countUnlike_21 : decode cX0_countUnlike 21 = .ok (.iload 6, 2) := by decide +kernel
theorem dX0_countUnlike_23 : decode cX0_countUnlike 23 = .ok (.iload_n 1, 1) := by decide +kernel
theorem dX0_countUnlike_24 : decode cX0_countUnlike 24 = .ok (.iload_n 2, 1) := by decide +kernel
theorem dX0_countUnlike_25 : decode cX0_countUnlike 25 = .ok (.iload_n 3, 1) := by decide +kernel
theorem dX0_countUnlike_26 : decode cX0_countUnlike 26 = .ok (.invokevirtual 70, 3) := by decide +kernel
theorem dX0_countUnlike_29 : decode cX0_countUnlike 29 = .ok (.ifCond .eq 6, 3) := by decide +kernel
theorem dX0_countUnlike_32 : decode cX0_countUnlike 32 = .ok (.iinc 5 1, 3) := by decide +kernel
theorem dX0_countUnlike_35 : decode cX0_countUnlike 35 = .ok (.iinc 6 1, 3) := by decide +kernel
theorem dX0_countUnlike_38 : decode cX0_countUnlike 38 = .ok (.goto (-26), 3) := by decide +kernel
theorem dX0_countUnlike_41 : decode cX0_countUnlike 41 = .ok (.iload 5, 2) := by decide +kernel
theorem dX0_countUnlike_43 : decode cX0_countUnlike 43 = .ok (.ireturn, 1) := by decide +kernel
set_option maxRecDepth 20000 in
theorem ggX0_leastUnlike_X0_start : GoodIn wsX0_leastUnlike wsX0_start := goodIn_r _ [5, 6, 7, 8, 9, 10, 11, 12, 13, 14, 15, 16, 17, 18, 19, 20, 21, 22, 23, 24, 25, 26, 27, 28, 4, 29, 30, 31, 32, 33, 34, 35, 36, 37, 127, 128, 129, 130, 131, 132, 133, 134, 135, 136, 137, 138, 139, 140, 141, 142, 143, 144, 145, 146, 147, 148, 149, 150, 151] (by decide +kernel) (by decide +kernel)
set_option maxRecDepth 20000 in
theorem gX0_leastUnlike_X0_start : GoodIn wsX0_leastUnlike (wsV RX0 67 RX0 yX0_start wsX0_start) := goodIn_app (goodIn_of _ (by decide +kernel)) ggX0_leastUnlike_X0_start
set_option maxRecDepth 20000 in
theorem ggX0_leastUnlike_X0_partIn : GoodIn wsX0_leastUnlike wsX0_partIn := goodIn_r _ [41, 6, 42, 43, 44, 4, 45, 46, 47, 48, 49, 7, 26, 27, 28, 29, 8, 9, 30, 31, 32, 33, 17, 34, 35, 36, 37, 50, 51, 52, 53, 54, 55, 56, 57, 58, 59, 60, 61, 62, 63, 64, 65, 66, 67, 68, 69, 70, 71, 72, 73, 74, 75, 76, 77, 78, 79, 80, 81, 82, 83, 84, 85, 86, 87, 88, 89, 90, 91, 92, 93, 94, 95, 96, 97, 98, 99, 100, 101, 102, 103, 104, 105, 106, 107, 108, 109, 110, 111, 112, 113, 114, 115, 116, 117, 118, 119, 120, 121, 122, 127, 128, 129, 130, 131, 132, 133, 134, 135, 136, 137, 138, 139, 140, 141, 142, 143, 144, 145, 146, 147, 148, 149, 150, 151, 152, 153, 154, 155, 156, 157, 158, 159, 160, 161] (by decide +kernel) (by decide +kernel)
set_option maxRecDepth 20000 in
theorem gX0_leastUnlike_X0_partIn : GoodIn wsX0_leastUnlike (wsV RX0 70 RX0 yX0_partIn wsX0_partIn) := goodIn_app (goodIn_of _ (by decide +kernel)) ggX0_leastUnlike_X0_partIn
set_option maxRecDepth 20000 in
theorem ggX0_leastUnlike_X0_tiesTold : GoodIn wsX0_leastUnlike wsX0_tiesTold := goodIn_r _ [126, 6, 7, 127, 128, 129, 130, 131, 132, 133, 134, 135, 136, 137, 138] (by decide +kernel) (by decide +kernel)
set_option maxRecDepth 20000 in
theorem gX0_leastUnlike_X0_tiesTold : GoodIn wsX0_leastUnlike (wsV RX0 74 RX0 yX0_tiesTold wsX0_tiesTold) := goodIn_app (goodIn_of _ (by decide +kernel)) ggX0_leastUnlike_X0_tiesTold
theorem dX0_leastUnlike_0 : decode cX0_leastUnlike 0 = .ok (.iconst (-1), 1) := by decide +kernel
theorem dX0_leastUnlike_1 : decode cX0_leastUnlike 1 = .ok (.istore 5, 2) := by decide +kernel
theorem dX0_leastUnlike_3 : decode cX0_leastUnlike 3 = .ok (.bipush 7, 2) := by decide +kernel
theorem dX0_leastUnlike_5 : decode cX0_leastUnlike 5 = .ok (.istore 6, 2) := by decide +kernel
theorem dX0_leastUnlike_7 : decode cX0_leastUnlike 7 = .ok (.aload_n 0, 1) := by decide +kernel
theorem dX0_leastUnlike_8 : decode cX0_leastUnlike 8 = .ok (.iload 4, 2) := by decide +kernel
theorem dX0_leastUnlike_10 : decode cX0_leastUnlike 10 = .ok (.invokevirtual 67, 3) := by decide +kernel
theorem dX0_leastUnlike_13 : decode cX0_leastUnlike 13 = .ok (.iconst 0, 1) := by decide +kernel
theorem dX0_leastUnlike_14 : decode cX0_leastUnlike 14 = .ok (.istore 7, 2) := by decide +kernel
theorem dX0_leastUnlike_16 : decode cX0_leastUnlike 16 = .ok (.iload 7, 2) := by decide +kernel
theorem dX0_leastUnlike_18 : decode cX0_leastUnlike 18 = .ok (.sipush 15625, 3) := by decide +kernel
theorem dX0_leastUnlike_21 : decode cX0_leastUnlike 21 = .ok (.if_icmp .ge 45, 3) := by decide +kernel
theorem dX0_leastUnlike_24 : decode cX0_leastUnlike 24 = .ok (.aload_n 0, 1) := by decide +kernel
theorem dX0_leastUnlike_25 : decode cX0_leastUnlike 25 = .ok (.iload 7, 2) := by decide +kernel
theorem dX0_leastUnlike_27 : decode cX0_leastUnlike 27 = .ok (.iload_n 1, 1) := by decide +kernel
theorem dX0_leastUnlike_28 : decode cX0_leastUnlike 28 = .ok (.iload_n 2, 1) := by decide +kernel
theorem dX0_leastUnlike_29 : decode cX0_leastUnlike 29 = .ok (.iload_n 3, 1) := by decide +kernel
theorem dX0_leastUnlike_30 : decode cX0_leastUnlike 30 = .ok (.invokevirtual 70, 3) := by decide +kernel
theorem dX0_leastUnlike_33 : decode cX0_leastUnlike 33 = .ok (.ifCond .ne 6, 3) := by decide +kernel
theorem dX0_leastUnlike_36 : decode cX0_leastUnlike 36 = .ok (.goto 24, 3) := by decide +kernel
theorem dX0_leastUnlike_39 : decode cX0_leastUnlike 39 = .ok (.aload_n 0, 1) := by decide +kernel
theorem dX0_leastUnlike_40 : decode cX0_leastUnlike 40 = .ok (.invokevirtual 74, 3) := by decide +kernel
theorem dX0_leastUnlike_43 : decode cX0_leastUnlike 43 = .ok (.istore 8, 2) := by decide +kernel
theorem dX0_leastUnlike_45 : decode cX0_leastUnlike 45 = .ok (.iload 8, 2) := by decide +kernel
theorem dX0_leastUnlike_47 : decode cX0_leastUnlike 47 = .ok (.iload 6, 2) := by decide +kernel
theorem dX0_leastUnlike_49 : decode cX0_leastUnlike 49 = .ok (.if_icmp .ge 11, 3) := by decide +kernel
theorem dX0_leastUnlike_52 : decode cX0_leastUnlike 52 = .ok (.iload 8, 2) := by decide +kernel
theorem dX0_leastUnlike_54 : decode cX0_leastUnlike 54 = .ok (.istore 6, 2) := by decide +kernel
theorem dX0_leastUnlike_56 : decode cX0_leastUnlike 56 = .ok (.iload 7, 2) := by decide +kernel
theorem dX0_leastUnlike_58 : decode cX0_leastUnlike 58 = .ok (.istore 5, 2) := by decide +kernel
theorem dX0_leastUnlike_60 : decode cX0_leastUnlike 60 = .ok (.iinc 7 1, 3) := by decide +kernel
theorem dX0_leastUnlike_63 : decode cX0_leastUnlike 63 = .ok (.goto (-47), 3) := by decide +kernel
theorem dX0_leastUnlike_66 : decode cX0_leastUnlike 66 = .ok (.iload 5, 2) := by decide +kernel
theorem dX0_leastUnlike_68 : decode cX0_leastUnlike 68 = .ok (.ireturn, 1) := by decide +kernel
theorem dX0_tiesTold_0 : decode cX0_tiesTold 0 = .ok (.iconst 0, 1) := by decide +kernel
theorem dX0_tiesTold_1 : decode cX0_tiesTold 1 = .ok (.istore_n 1, 1) := by decide +kernel
theorem dX0_tiesTold_2 : decode cX0_tiesTold 2 = .ok (.iconst 0, 1) := by decide +kernel
theorem dX0_tiesTold_3 : decode cX0_tiesTold 3 = .ok (.istore_n 2, 1) := by decide +kernel
theorem dX0_tiesTold_4 : decode cX0_tiesTold 4 = .ok (.iload_n 2, 1) := by decide +kernel
theorem dX0_tiesTold_5 : decode cX0_tiesTold 5 = .ok (.bipush 6, 2) := by decide +kernel
theorem dX0_tiesTold_7 : decode cX0_tiesTold 7 = .ok (.if_icmp .ge 25, 3) := by decide +kernel
theorem dX0_tiesTold_10 : decode cX0_tiesTold 10 = .ok (.aload_n 0, 1) := by decide +kernel
theorem dX0_tiesTold_11 : decode cX0_tiesTold 11 = .ok (.getfield 19, 3) := by decide +kernel
theorem dX0_tiesTold_14 : decode cX0_tiesTold 14 = .ok (.getfield 23, 3) := by decide +kernel
theorem dX0_tiesTold_17 : decode cX0_tiesTold 17 = .ok (.iload_n 2, 1) := by decide +kernel
theorem dX0_tiesTold_18 : decode cX0_tiesTold 18 = .ok (.iaload, 1) := by decide +kernel
theorem dX0_tiesTold_19 : decode cX0_tiesTold 19 = .ok (.iconst (-1), 1) := by decide +kernel
theorem dX0_tiesTold_20 : decode cX0_tiesTold 20 = .ok (.if_icmp .eq 6, 3) := by decide +kernel
theorem dX0_tiesTold_23 : decode cX0_tiesTold 23 = .ok (.iinc 1 1, 3) := by decide +kernel
theorem dX0_tiesTold_26 : decode cX0_tiesTold 26 = .ok (.iinc 2 1, 3) := by decide +kernel
theorem dX0_tiesTold_29 : decode cX0_tiesTold 29 = .ok (.goto (-25), 3) := by decide +kernel
theorem dX0_tiesTold_32 : decode cX0_tiesTold 32 = .ok (.iload_n 1, 1) := by decide +kernel
theorem dX0_tiesTold_33 : decode cX0_tiesTold 33 = .ok (.ireturn, 1) := by decide +kernel
set_option maxRecDepth 20000 in
theorem ggX0_landsReached_X0_start : GoodIn wsX0_landsReached wsX0_start := goodIn_r _ [6, 1, 7, 8, 9, 10, 11, 12, 13, 14, 15, 16, 17, 18, 19, 20, 21, 22, 23, 24, 25, 26, 27, 28, 5, 29, 30, 31, 32, 33, 34, 35, 36, 37, 119, 120, 121, 122, 123, 124, 125, 126, 127, 128, 129, 130, 131, 132, 133, 134, 135, 136, 137, 138, 139, 140, 141, 142, 143] (by decide +kernel) (by decide +kernel)
set_option maxRecDepth 20000 in
theorem gX0_landsReached_X0_start : GoodIn wsX0_landsReached (wsV RX0 67 RX0 yX0_start wsX0_start) := goodIn_app (goodIn_of _ (by decide +kernel)) ggX0_landsReached_X0_start
set_option maxRecDepth 20000 in
theorem ggX0_landsReached_X0_turnTo : GoodIn wsX0_landsReached wsX0_turnTo := goodIn_r _ [41, 1, 42, 43, 44, 5, 45, 7, 26, 27, 28, 29, 8, 9, 30, 31, 32, 33, 17, 34, 35, 36, 37, 46, 47, 48, 49, 50, 51, 52, 53, 54, 55, 56, 57, 58, 59, 60, 61, 62, 63, 64, 65, 66, 67, 68, 69, 70, 71, 72, 73, 74, 75, 76, 77, 78, 79, 80, 81, 82, 119, 120, 121, 122, 123, 124, 125, 126, 127, 128, 129, 130, 131, 132, 133, 134, 135, 136, 137, 138, 139, 140, 141, 142, 143, 144, 145] (by decide +kernel) (by decide +kernel)
set_option maxRecDepth 20000 in
theorem gX0_landsReached_X0_turnTo : GoodIn wsX0_landsReached (wsV RX0 59 RX0 yX0_turnTo wsX0_turnTo) := goodIn_app (goodIn_of _ (by decide +kernel)) ggX0_landsReached_X0_turnTo
set_option maxRecDepth 20000 in
theorem ggX0_landsReached_X4_outcome : GoodIn wsX0_landsReached wsX4_outcome := goodIn_r _ [86, 87, 51, 58, 57, 88, 89, 90, 91, 92, 93, 94, 95, 96, 97, 98, 99, 49, 100, 55, 54, 101, 102, 103, 104, 105, 106, 107, 108, 109, 110, 111, 112, 113, 114, 115, 116, 117, 118, 122, 123, 124, 125, 126, 127, 128, 129, 130, 146, 147, 148, 149, 144, 145, 150, 151, 152, 153] (by decide +kernel) (by decide +kernel)
set_option maxRecDepth 20000 in
theorem gX0_landsReached_X4_outcome : GoodIn wsX0_landsReached (wsV RX0 63 RX4 yX4_outcome wsX4_outcome) := goodIn_app (goodIn_of _ (by decide +kernel)) ggX0_landsReached_X4_outcome
theorem dX0_landsReached_0 : decode cX0_landsReached 0 = .ok (.iconst 0, 1) := by decide +kernel
theorem dX0_landsReached_1 : decode cX0_landsReached 1 = .ok (.istore 4, 2) := by decide +kernel
theorem dX0_landsReached_3 : decode cX0_landsReached 3 = .ok (.aload_n 0, 1) := by decide +kernel
theorem dX0_landsReached_4 : decode cX0_landsReached 4 = .ok (.iload_n 3, 1) := by decide +kernel
theorem dX0_landsReached_5 : decode cX0_landsReached 5 = .ok (.invokevirtual 67, 3) := by decide +kernel
theorem dX0_landsReached_8 : decode cX0_landsReached 8 = .ok (.iconst 0, 1) := by decide +kernel
theorem dX0_landsReached_9 : decode cX0_landsReached 9 = .ok (.istore 5, 2) := by decide +kernel
theorem dX0_landsReached_11 : decode cX0_landsReached 11 = .ok (.iload 5, 2) := by decide +kernel
theorem dX0_landsReached_13 : decode cX0_landsReached 13 = .ok (.sipush 15625, 3) := by decide +kernel
theorem dX0_landsReached_16 : decode cX0_landsReached 16 = .ok (.if_icmp .ge 46, 3) := by decide +kernel
theorem dX0_landsReached_19 : decode cX0_landsReached 19 = .ok (.aload_n 0, 1) := by decide +kernel
theorem dX0_landsReached_20 : decode cX0_landsReached 20 = .ok (.iload 5, 2) := by decide +kernel
theorem dX0_landsReached_22 : decode cX0_landsReached 22 = .ok (.iload_n 2, 1) := by decide +kernel
theorem dX0_landsReached_23 : decode cX0_landsReached 23 = .ok (.invokevirtual 59, 3) := by decide +kernel
theorem dX0_landsReached_26 : decode cX0_landsReached 26 = .ok (.aload_n 0, 1) := by decide +kernel
theorem dX0_landsReached_27 : decode cX0_landsReached 27 = .ok (.getfield 19, 3) := by decide +kernel
theorem dX0_landsReached_30 : decode cX0_landsReached 30 = .ok (.iload_n 1, 1) := by decide +kernel
theorem dX0_landsReached_31 : decode cX0_landsReached 31 = .ok (.invokevirtual 63, 3) := by decide +kernel
theorem dX0_landsReached_34 : decode cX0_landsReached 34 = .ok (.istore 6, 2) := by decide +kernel
theorem dX0_landsReached_36 : decode cX0_landsReached 36 = .ok (.iload 4, 2) := by decide +kernel
theorem dX0_landsReached_38 : decode cX0_landsReached 38 = .ok (.iconst 1, 1) := by decide +kernel
theorem dX0_landsReached_39 : decode cX0_landsReached 39 = .ok (.iload 6, 2) := by decide +kernel
theorem dX0_landsReached_41 : decode cX0_landsReached 41 = .ok (.bipush (-5), 2) := by decide +kernel
theorem dX0_landsReached_43 : decode cX0_landsReached 43 = .ok (.if_icmp .ne 7, 3) := by decide +kernel
theorem dX0_landsReached_46 : decode cX0_landsReached 46 = .ok (.iconst 4, 1) := by decide +kernel
theorem dX0_landsReached_47 : decode cX0_landsReached 47 = .ok (.goto 5, 3) := by decide +kernel
theorem dX0_landsReached_50 : decode cX0_landsReached 50 = .ok (.iload 6, 2) := by decide +kernel
theorem dX0_landsReached_52 : decode cX0_landsReached 52 = .ok (.ishl, 1) := by decide +kernel
theorem dX0_landsReached_53 : decode cX0_landsReached 53 = .ok (.ior, 1) := by decide +kernel
theorem dX0_landsReached_54 : decode cX0_landsReached 54 = .ok (.istore 4, 2) := by decide +kernel
theorem dX0_landsReached_56 : decode cX0_landsReached 56 = .ok (.iinc 5 1, 3) := by decide +kernel
theorem dX0_landsReached_59 : decode cX0_landsReached 59 = .ok (.goto (-48), 3) := by decide +kernel
theorem dX0_landsReached_62 : decode cX0_landsReached 62 = .ok (.iload 4, 2) := by decide +kernel
theorem dX0_landsReached_64 : decode cX0_landsReached 64 = .ok (.ireturn, 1) := by decide +kernel
set_option maxRecDepth 20000 in
theorem ggX0_countAlike_X0_start : GoodIn wsX0_countAlike wsX0_start := goodIn_r _ [6, 1, 7, 8, 9, 10, 11, 12, 13, 14, 15, 16, 17, 18, 19, 20, 21, 22, 23, 24, 25, 26, 27, 28, 5, 29, 30, 31, 32, 33, 34, 35, 36, 37, 123, 124, 125, 126, 127, 128, 129, 130, 131, 132, 133, 134, 135, 136, 137, 138, 139, 140, 141, 142, 143, 144, 145, 146, 147] (by decide +kernel) (by decide +kernel)
set_option maxRecDepth 20000 in
theorem gX0_countAlike_X0_start : GoodIn wsX0_countAlike (wsV RX0 67 RX0 yX0_start wsX0_start) := goodIn_app (goodIn_of _ (by decide +kernel)) ggX0_countAlike_X0_start
set_option maxRecDepth 20000 in
theorem ggX0_countAlike_X0_turnTo : GoodIn wsX0_countAlike wsX0_turnTo := goodIn_r _ [41, 1, 42, 43, 44, 5, 45, 7, 26, 27, 28, 29, 8, 9, 30, 31, 32, 33, 17, 34, 35, 36, 37, 46, 47, 48, 49, 50, 51, 52, 53, 54, 55, 56, 57, 58, 59, 60, 61, 62, 63, 64, 65, 66, 67, 68, 69, 70, 71, 72, 73, 74, 75, 76, 77, 78, 79, 80, 81, 82, 123, 124, 125, 126, 127, 128, 129, 130, 131, 132, 133, 134, 135, 136, 137, 138, 139, 140, 141, 142, 143, 144, 145, 146, 147, 148, 149] (by decide +kernel) (by decide +kernel)
set_option maxRecDepth 20000 in
theorem gX0_countAlike_X0_turnTo : GoodIn wsX0_countAlike (wsV RX0 59 RX0 yX0_turnTo wsX0_turnTo) := goodIn_app (goodIn_of _ (by decide +kernel)) ggX0_countAlike_X0_turnTo
set_option maxRecDepth 20000 in
theorem ggX0_countAlike_X4_allAlike : GoodIn wsX0_countAlike wsX4_allAlike := goodIn_r _ [86, 87, 88, 89, 49, 90, 91, 51, 58, 57, 92, 93, 94, 95, 96, 97, 98, 99, 100, 101, 102, 103, 104, 55, 54, 105, 106, 107, 108, 109, 110, 111, 112, 113, 114, 115, 116, 117, 118, 119, 120, 121, 122, 126, 127, 128, 129, 130, 131, 132, 133, 134, 150, 151, 152, 153, 148, 149, 154, 155, 156, 157] (by decide +kernel) (by decide +kernel)
set_option maxRecDepth 20000 in
theorem gX0_countAlike_X4_allAlike : GoodIn wsX0_countAlike (wsV RX0 78 RX4 yX4_allAlike wsX4_allAlike) := goodIn_app (goodIn_of _ (by decide +kernel)) ggX0_countAlike_X4_allAlike
theorem dX0_countAlike_0 : decode cX0_countAlike 0 = .ok (.iconst 0, 1) := by decide +kernel
theorem dX0_countAlike_1 : decode cX0_countAlike 1 = .ok (.istore_n 3, 1) := by decide +kernel
theorem dX0_countAlike_2 : decode cX0_countAlike 2 = .ok (.aload_n 0, 1) := by decide +kernel
theorem dX0_countAlike_3 : decode cX0_countAlike 3 = .ok (.iload_n 2, 1) := by decide +kernel
theorem dX0_countAlike_4 : decode cX0_countAlike 4 = .ok (.invokevirtual 67, 3) := by decide +kernel
theorem dX0_countAlike_7 : decode cX0_countAlike 7 = .ok (.iconst 0, 1) := by decide +kernel
theorem dX0_countAlike_8 : decode cX0_countAlike 8 = .ok (.istore 4, 2) := by decide +kernel
theorem dX0_countAlike_10 : decode cX0_countAlike 10 = .ok (.iload 4, 2) := by decide +kernel
theorem dX0_countAlike_12 : decode cX0_countAlike 12 = .ok (.sipush 15625, 3) := by decide +kernel
theorem dX0_countAlike_15 : decode cX0_countAlike 15 = .ok (.if_icmp .ge 29, 3) := by decide +kernel
theorem dX0_countAlike_18 : decode cX0_countAlike 18 = .ok (.aload_n 0, 1) := by decide +kernel
theorem dX0_countAlike_19 : decode cX0_countAlike 19 = .ok (.iload 4, 2) := by decide +kernel
theorem dX0_countAlike_21 : decode cX0_countAlike 21 = .ok (.iload_n 1, 1) := by decide +kernel
theorem dX0_countAlike_22 : decode cX0_countAlike 22 = .ok (.invokevirtual 59, 3) := by decide +kernel
theorem dX0_countAlike_25 : decode cX0_countAlike 25 = .ok (.aload_n 0, 1) := by decide +kernel
theorem dX0_countAlike_26 : decode cX0_countAlike 26 = .ok (.getfield 19, 3) := by decide +kernel
theorem dX0_countAlike_29 : decode cX0_countAlike 29 = .ok (.invokevirtual 78, 3) := by decide +kernel
theorem dX0_countAlike_32 : decode cX0_countAlike 32 = .ok (.ifCond .eq 6, 3) := by decide +kernel
theorem dX0_countAlike_35 : decode cX0_countAlike 35 = .ok (.iinc 3 1, 3) := by decide +kernel
theorem dX0_countAlike_38 : decode cX0_countAlike 38 = .ok (.iinc 4 1, 3) := by decide +kernel
theorem dX0_countAlike_41 : decode cX0_countAlike 41 = .ok (.goto (-31), 3) := by decide +kernel
theorem dX0_countAlike_44 : decode cX0_countAlike 44 = .ok (.iload_n 3, 1) := by decide +kernel
theorem dX0_countAlike_45 : decode cX0_countAlike 45 = .ok (.ireturn, 1) := by decide +kernel
set_option maxRecDepth 20000 in
theorem ggX0_everFirst_X0_start : GoodIn wsX0_everFirst wsX0_start := goodIn_r _ [8, 2, 9, 10, 1, 11, 12, 13, 14, 15, 16, 17, 18, 19, 20, 21, 22, 23, 24, 25, 26, 27, 28, 29, 7, 30, 3, 31, 32, 33, 34, 35, 36, 37, 54, 55, 56, 57, 58, 59, 60, 61, 62, 63, 64, 65, 66, 67, 68, 69, 70, 71, 72, 73, 74, 75, 76, 77, 78] (by decide +kernel) (by decide +kernel)
set_option maxRecDepth 20000 in
theorem gX0_everFirst_X0_start : GoodIn wsX0_everFirst (wsV RX0 67 RX0 yX0_start wsX0_start) := goodIn_app (goodIn_of _ (by decide +kernel)) ggX0_everFirst_X0_start
set_option maxRecDepth 20000 in
theorem ggX0_everFirst_X0_setTies : GoodIn wsX0_everFirst wsX0_setTies := goodIn_r _ [41, 2, 9, 27, 28, 29, 7, 30, 10, 1, 3, 31, 32, 33, 18, 34, 35, 36, 37, 54, 55, 56, 57, 58, 59, 60, 61, 62, 63, 64, 65, 66, 67, 68, 69, 70, 71, 72, 73, 74, 75, 76, 77, 78] (by decide +kernel) (by decide +kernel)
set_option maxRecDepth 20000 in
theorem gX0_everFirst_X0_setTies : GoodIn wsX0_everFirst (wsV RX0 45 RX0 yX0_setTies wsX0_setTies) := goodIn_app (goodIn_of _ (by decide +kernel)) ggX0_everFirst_X0_setTies
set_option maxRecDepth 20000 in
theorem ggX0_everFirst_X6_first : GoodIn wsX0_everFirst wsX6_first := goodIn_r _ [45, 46, 47, 48, 49, 50, 51, 52, 53, 66, 67, 68, 69, 70, 71, 72, 73, 74, 75, 76, 77, 78] (by decide +kernel) (by decide +kernel)
set_option maxRecDepth 20000 in
theorem gX0_everFirst_X6_first : GoodIn wsX0_everFirst (wsV RX0 82 RX6 yX6_first wsX6_first) := goodIn_app (goodIn_of _ (by decide +kernel)) ggX0_everFirst_X6_first
theorem dX0_everFirst_0 : decode cX0_everFirst 0 = .ok (.lconst 0, 1) := by decide +kernel
theorem dX0_everFirst_1 : decode cX0_everFirst 1 = .ok (.lstore 4, 2) := by decide +kernel
theorem dX0_everFirst_3 : decode cX0_everFirst 3 = .ok (.aload_n 0, 1) := by decide +kernel
theorem dX0_everFirst_4 : decode cX0_everFirst 4 = .ok (.iload_n 2, 1) := by decide +kernel
theorem dX0_everFirst_5 : decode cX0_everFirst 5 = .ok (.invokevirtual 67, 3) := by decide +kernel
theorem dX0_everFirst_8 : decode cX0_everFirst 8 = .ok (.iconst 0, 1) := by decide +kernel
theorem dX0_everFirst_9 : decode cX0_everFirst 9 = .ok (.istore 6, 2) := by decide +kernel
theorem dX0_everFirst_11 : decode cX0_everFirst 11 = .ok (.iload 6, 2) := by decide +kernel
theorem dX0_everFirst_13 : decode cX0_everFirst 13 = .ok (.sipush 15625, 3) := by decide +kernel
theorem dX0_everFirst_16 : decode cX0_everFirst 16 = .ok (.if_icmp .ge 77, 3) := by decide +kernel
theorem dX0_everFirst_19 : decode cX0_everFirst 19 = .ok (.aload_n 0, 1) := by decide +kernel
theorem dX0_everFirst_20 : decode cX0_everFirst 20 = .ok (.iload 6, 2) := by decide +kernel
theorem dX0_everFirst_22 : decode cX0_everFirst 22 = .ok (.invokevirtual 45, 3) := by decide +kernel
theorem dX0_everFirst_25 : decode cX0_everFirst 25 = .ok (.iconst 0, 1) := by decide +kernel
theorem dX0_everFirst_26 : decode cX0_everFirst 26 = .ok (.istore 7, 2) := by decide +kernel
theorem dX0_everFirst_28 : decode cX0_everFirst 28 = .ok (.iload 7, 2) := by decide +kernel
theorem dX0_everFirst_30 : decode cX0_everFirst 30 = .ok (.iconst 3, 1) := by decide +kernel
theorem dX0_everFirst_31 : decode cX0_everFirst 31 = .ok (.if_icmp .ge 56, 3) := by decide +kernel
theorem dX0_everFirst_34 : decode cX0_everFirst 34 = .ok (.iload_n 3, 1) := by decide +kernel
theorem dX0_everFirst_35 : decode cX0_everFirst 35 = .ok (.iload 7, 2) := by decide +kernel
theorem dX0_everFirst_37 : decode cX0_everFirst 37 = .ok (.iushr, 1) := by decide +kernel
theorem dX0_everFirst_38 : decode cX0_everFirst 38 = .ok (.iconst 1, 1) := by decide +kernel
theorem dX0_everFirst_39 : decode cX0_everFirst 39 = .ok (.iand, 1) := by decide +kernel
theorem dX0_everFirst_40 : decode cX0_everFirst 40 = .ok (.ifCond .ne 7, 3) := by decide +kernel
theorem dX0_everFirst_43 : decode cX0_everFirst 43 = .ok (.iconst (-1), 1) := by decide +kernel
theorem dX0_everFirst_44 : decode cX0_everFirst 44 = .ok (.goto 20, 3) := by decide +kernel
theorem dX0_everFirst_47 : decode cX0_everFirst 47 = .ok (.aload_n 0, 1) := by decide +kernel
theorem dX0_everFirst_48 : decode cX0_everFirst 48 = .ok (.getfield 15, 3) := by decide +kernel
theorem dX0_everFirst_51 : decode cX0_everFirst 51 = .ok (.aload_n 0, 1) := by decide +kernel
theorem dX0_everFirst_52 : decode cX0_everFirst 52 = .ok (.getfield 19, 3) := by decide +kernel
theorem dX0_everFirst_55 : decode cX0_everFirst 55 = .ok (.getfield 55, 3) := by decide +kernel
theorem dX0_everFirst_58 : decode cX0_everFirst 58 = .ok (.iload_n 1, 1) := by decide +kernel
theorem dX0_everFirst_59 : decode cX0_everFirst 59 = .ok (.iload 7, 2) := by decide +kernel
theorem dX0_everFirst_61 : decode cX0_everFirst 61 = .ok (.invokevirtual 82, 3) := by decide +kernel
theorem dX0_everFirst_64 : decode cX0_everFirst 64 = .ok (.istore 8, 2) := by decide +kernel
theorem dX0_everFirst_66 : decode cX0_everFirst 66 = .ok (.iload 8, 2) := by decide +kernel
theorem dX0_everFirst_68 : decode cX0_everFirst 68 = .ok (.iconst (-1), 1) := by decide +kernel
theorem dX0_everFirst_69 : decode cX0_everFirst 69 = .ok (.if_icmp .eq 12, 3) := by decide +kernel
theorem dX0_everFirst_72 : decode cX0_everFirst 72 = .ok (.lload 4, 2) := by decide +kernel
theorem dX0_everFirst_74 : decode cX0_everFirst 74 = .ok (.lconst 1, 1) := by decide +kernel
theorem dX0_everFirst_75 : decode cX0_everFirst 75 = .ok (.iload 8, 2) := by decide +kernel
theorem dX0_everFirst_77 : decode cX0_everFirst 77 = .ok (.lshl, 1) := by decide +kernel
theorem dX0_everFirst_78 : decode cX0_everFirst 78 = .ok (.lor, 1) := by decide +kernel
theorem dX0_everFirst_79 : decode cX0_everFirst 79 = .ok (.lstore 4, 2) := by decide +kernel
theorem dX0_everFirst_81 : decode cX0_everFirst 81 = .ok (.iinc 7 1, 3) := by decide +kernel
theorem dX0_everFirst_84 : decode cX0_everFirst 84 = .ok (.goto (-56), 3) := by decide +kernel
theorem dX0_everFirst_87 : decode cX0_everFirst 87 = .ok (.iinc 6 1, 3) := by decide +kernel
theorem dX0_everFirst_90 : decode cX0_everFirst 90 = .ok (.goto (-79), 3) := by decide +kernel
theorem dX0_everFirst_93 : decode cX0_everFirst 93 = .ok (.lload 4, 2) := by decide +kernel
theorem dX0_everFirst_95 : decode cX0_everFirst 95 = .ok (.lreturn, 1) := by decide +kernel
theorem dX1_init_0 : decode cX1_init 0 = .ok (.aload_n 0, 1) := by decide +kernel
theorem dX1_init_1 : decode cX1_init 1 = .ok (.invokespecial 3, 3) := by decide +kernel
theorem dX1_init_4 : decode cX1_init 4 = .ok (.aload_n 0, 1) := by decide +kernel
theorem dX1_init_5 : decode cX1_init 5 = .ok (.aload_n 1, 1) := by decide +kernel
theorem dX1_init_6 : decode cX1_init 6 = .ok (.putfield 9, 3) := by decide +kernel
theorem dX1_init_9 : decode cX1_init 9 = .ok (.aload_n 0, 1) := by decide +kernel
theorem dX1_init_10 : decode cX1_init 10 = .ok (.aload_n 2, 1) := by decide +kernel
theorem dX1_init_11 : decode cX1_init 11 = .ok (.putfield 15, 3) := by decide +kernel
theorem dX1_init_14 : decode cX1_init 14 = .ok (.return_, 1) := by decide +kernel
set_option maxRecDepth 20000 in
theorem ggX1_search_X0_start : GoodIn wsX1_search wsX0_start := goodIn_r _ [12, 13, 14, 15, 16, 17, 18, 19, 20, 21, 22, 23, 24, 25, 26, 27, 28, 29, 30, 31, 32, 33, 34, 35, 11, 36, 37, 38, 39, 40, 41, 42, 43, 44, 153, 154, 155, 156, 157, 158, 159, 160, 161, 162, 163, 164, 165, 166, 167, 168, 169, 170, 171, 172, 173, 174, 175, 176, 177] (by decide +kernel) (by decide +kernel)
set_option maxRecDepth 20000 in
theorem gX1_search_X0_start : GoodIn wsX1_search (wsV RX1 35 RX0 yX0_start wsX0_start) := goodIn_app (goodIn_of _ (by decide +kernel)) ggX1_search_X0_start
set_option maxRecDepth 20000 in
theorem ggX1_search_X0_setTies : GoodIn wsX1_search wsX0_setTies := goodIn_r _ [48, 13, 14, 33, 34, 35, 11, 36, 15, 16, 37, 38, 39, 40, 24, 41, 42, 43, 44, 153, 154, 155, 156, 157, 158, 159, 160, 161, 162, 163, 164, 165, 166, 167, 168, 169, 170, 171, 172, 173, 174, 175, 176, 177] (by decide +kernel) (by decide +kernel)
set_option maxRecDepth 20000 in
theorem gX1_search_X0_setTies : GoodIn wsX1_search (wsV RX1 41 RX0 yX0_setTies wsX0_setTies) := goodIn_app (goodIn_of _ (by decide +kernel)) ggX1_search_X0_setTies
set_option maxRecDepth 20000 in
theorem ggX1_search_X1_tiesMade : GoodIn wsX1_search wsX1_tiesMade := goodIn_r _ [53, 4, 7, 54, 5, 55, 56, 57, 58, 59, 60, 142, 143, 144, 145, 146, 153, 154, 155, 156, 157, 158, 159, 160, 161, 162, 163, 164, 147, 148, 149, 150, 151, 152] (by decide +kernel) (by decide +kernel)
set_option maxRecDepth 20000 in
theorem gX1_search_X1_tiesMade : GoodIn wsX1_search (wsV RX1 44 RX1 yX1_tiesMade wsX1_tiesMade) := goodIn_app (goodIn_of _ (by decide +kernel)) ggX1_search_X1_tiesMade
set_option maxRecDepth 20000 in
theorem ggX1_search_X4_readBooks : GoodIn wsX1_search wsX4_readBooks := goodIn_r _ [65, 66, 67, 68, 69, 70, 71, 72, 73, 74, 75, 76, 77, 78, 79, 80, 81, 82, 24, 83, 84, 85, 86, 87, 88, 89, 90, 91, 92, 93, 94, 95, 96, 97, 156, 157, 158, 159, 160, 161, 162, 163, 164, 165, 166, 167, 168, 169, 170, 171, 172, 173, 174, 175, 176, 177, 178, 179] (by decide +kernel) (by decide +kernel)
set_option maxRecDepth 20000 in
theorem gX1_search_X4_readBooks : GoodIn wsX1_search (wsV RX1 52 RX4 yX4_readBooks wsX4_readBooks) := goodIn_app (goodIn_of _ (by decide +kernel)) ggX1_search_X4_readBooks
set_option maxRecDepth 20000 in
theorem ggX1_search_X1_judgeEndingIn : GoodIn wsX1_search wsX1_judgeEndingIn := goodIn_r _ [101, 4, 7, 102, 103, 104, 64, 105, 106, 66, 73, 72, 107, 108, 109, 110, 111, 112, 113, 114, 115, 116, 117, 118, 119, 70, 69, 120, 121, 122, 123, 124, 125, 126, 127, 128, 129, 130, 131, 132, 133, 134, 135, 136, 137, 142, 143, 144, 145, 146, 153, 154, 155, 156, 157, 158, 159, 160, 161, 162, 163, 164, 180, 181, 182, 183, 178, 179, 184, 185, 186, 187] (by decide +kernel) (by decide +kernel)
set_option maxRecDepth 20000 in
theorem gX1_search_X1_judgeEndingIn : GoodIn wsX1_search (wsV RX1 57 RX1 yX1_judgeEndingIn wsX1_judgeEndingIn) := goodIn_app (goodIn_of _ (by decide +kernel)) ggX1_search_X1_judgeEndingIn
set_option maxRecDepth 20000 in
theorem ggX1_search_X1_keepIfBetter : GoodIn wsX1_search wsX1_keepIfBetter := goodIn_r _ [141, 1, 2, 3, 142, 143, 144, 145, 146] (by decide +kernel) (by decide +kernel)
set_option maxRecDepth 20000 in
theorem gX1_search_X1_keepIfBetter : GoodIn wsX1_search (wsV RX1 61 RX1 yX1_keepIfBetter wsX1_keepIfBetter) := goodIn_app (goodIn_of _ (by decide +kernel)) ggX1_search_X1_keepIfBetter
theorem dX1_search_0 : decode cX1_search 0 = .ok (.aload_n 0, 1) := by decide +kernel
theorem dX1_search_1 : decode cX1_search 1 = .ok (.iconst (-1), 1) := by decide +kernel
theorem dX1_search_2 : decode cX1_search 2 = .ok (.putfield 19, 3) := by decide +kernel
theorem dX1_search_5 : decode cX1_search 5 = .ok (.aload_n 0, 1) := by decide +kernel
theorem dX1_search_6 : decode cX1_search 6 = .ok (.iconst (-1), 1) := by decide +kernel
theorem dX1_search_7 : decode cX1_search 7 = .ok (.putfield 23, 3) := by decide +kernel
theorem dX1_search_10 : decode cX1_search 10 = .ok (.aload_n 0, 1) := by decide +kernel
theorem dX1_search_11 : decode cX1_search 11 = .ok (.iconst (-1), 1) := by decide +kernel
theorem dX1_search_12 : decode cX1_search 12 = .ok (.putfield 26, 3) := by decide +kernel
theorem dX1_search_15 : decode cX1_search 15 = .ok (.aload_n 0, 1) := by decide +kernel
theorem dX1_search_16 : decode cX1_search 16 = .ok (.getfield 15, 3) := by decide +kernel
theorem dX1_search_19 : decode cX1_search 19 = .ok (.aload_n 0, 1) := by decide +kernel
theorem dX1_search_20 : decode cX1_search 20 = .ok (.getfield 9, 3) := by decide +kernel
theorem dX1_search_23 : decode cX1_search 23 = .ok (.getfield 29, 3) := by decide +kernel
theorem dX1_search_26 : decode cX1_search 26 = .ok (.iload_n 1, 1) := by decide +kernel
theorem dX1_search_27 : decode cX1_search 27 = .ok (.iaload, 1) := by decide +kernel
theorem dX1_search_28 : decode cX1_search 28 = .ok (.invokevirtual 35, 3) := by decide +kernel
theorem dX1_search_31 : decode cX1_search 31 = .ok (.iconst 0, 1) := by decide +kernel
theorem dX1_search_32 : decode cX1_search 32 = .ok (.istore 5, 2) := by decide +kernel
theorem dX1_search_34 : decode cX1_search 34 = .ok (.iload 5, 2) := by decide +kernel
theorem dX1_search_36 : decode cX1_search 36 = .ok (.sipush 15625, 3) := by decide +kernel
theorem dX1_search_39 : decode cX1_search 39 = .ok (.if_icmp .ge 77, 3) := by decide +kernel
theorem dX1_search_42 : decode cX1_search 42 = .ok (.aload_n 0, 1) := by decide +kernel
theorem dX1_search_43 : decode cX1_search 43 = .ok (.getfield 15, 3) := by decide +kernel
theorem dX1_search_46 : decode cX1_search 46 = .ok (.iload 5, 2) := by decide +kernel
theorem dX1_search_48 : decode cX1_search 48 = .ok (.invokevirtual 41, 3) := by decide +kernel
theorem dX1_search_51 : decode cX1_search 51 = .ok (.aload_n 0, 1) := by decide +kernel
theorem dX1_search_52 : decode cX1_search 52 = .ok (.iload_n 1, 1) := by decide +kernel
theorem dX1_search_53 : decode cX1_search 53 = .ok (.iload 4, 2) := by decide +kernel
theorem dX1_search_55 : decode cX1_search 55 = .ok (.invokevirtual 44, 3) := by decide +kernel
theorem dX1_search_58 : decode cX1_search 58 = .ok (.istore 6, 2) := by decide +kernel
theorem dX1_search_60 : decode cX1_search 60 = .ok (.iload 6, 2) := by decide +kernel
theorem dX1_search_62 : decode cX1_search 62 = .ok (.iconst (-1), 1) := by decide +kernel
theorem dX1_search_63 : decode cX1_search 63 = .ok (.if_icmp .eq 47, 3) := by decide +kernel
theorem dX1_search_66 : decode cX1_search 66 = .ok (.aload_n 0, 1) := by decide +kernel
theorem dX1_search_67 : decode cX1_search 67 = .ok (.getfield 19, 3) := by decide +kernel
theorem dX1_search_70 : decode cX1_search 70 = .ok (.iconst (-1), 1) := by decide +kernel
theorem dX1_search_71 : decode cX1_search 71 = .ok (.if_icmp .eq 15, 3) := by decide +kernel
theorem dX1_search_74 : decode cX1_search 74 = .ok (.iload 6, 2) := by decide +kernel
theorem dX1_search_76 : decode cX1_search 76 = .ok (.aload_n 0, 1) := by decide +kernel
theorem dX1_search_77 : decode cX1_search 77 = .ok (.getfield 19, 3) := by decide +kernel
theorem dX1_search_80 : decode cX1_search 80 = .ok (.if_icmp .le 6, 3) := by decide +kernel
theorem dX1_search_83 : decode cX1_search 83 = .ok (.goto 27, 3) := by decide +kernel
theorem dX1_search_86 : decode cX1_search 86 = .ok (.aload_n 0, 1) := by decide +kernel
theorem dX1_search_87 : decode cX1_search 87 = .ok (.getfield 15, 3) := by decide +kernel
theorem dX1_search_90 : decode cX1_search 90 = .ok (.getfield 48, 3) := by decide +kernel
theorem dX1_search_93 : decode cX1_search 93 = .ok (.iload_n 2, 1) := by decide +kernel
theorem dX1_search_94 : decode cX1_search 94 = .ok (.invokevirtual 52, 3) := by decide +kernel
theorem dX1_search_97 : decode cX1_search 97 = .ok (.aload_n 0, 1) := by decide +kernel
theorem dX1_search_98 : decode cX1_search 98 = .ok (.iload 5, 2) := by decide +kernel
theorem dX1_search_100 : decode cX1_search 100 = .ok (.iload 6, 2) := by decide +kernel
theorem dX1_search_102 : decode cX1_search 102 = .ok (.aload_n 0, 1) := by decide +kernel
theorem dX1_search_103 : decode cX1_search 103 = .ok (.iload_n 3, 1) := by decide +kernel
theorem dX1_search_104 : decode cX1_search 104 = .ok (.invokevirtual 57, 3) := by decide +kernel
theorem dX1_search_107 : decode cX1_search 107 = .ok (.invokevirtual 61, 3) := by decide +kernel
theorem dX1_search_110 : decode cX1_search 110 = .ok (.iinc 5 1, 3) := by decide +kernel
theorem dX1_search_113 : decode cX1_search 113 = .ok (.goto (-79), 3) := by decide +kernel
theorem dX1_search_116 : decode cX1_search 116 = .ok (.return_, 1) := by decide +kernel
set_option maxRecDepth 20000 in
theorem ggX1_tiesMade_X2_landOf : GoodIn wsX1_tiesMade wsX2_landOf := goodIn_r _ [9, 10, 28, 29, 30, 31, 32, 33] (by decide +kernel) (by decide +kernel)
set_option maxRecDepth 20000 in
theorem gX1_tiesMade_X2_landOf : GoodIn wsX1_tiesMade (wsV RX1 68 RX2 yX2_landOf wsX2_landOf) := goodIn_app (goodIn_of _ (by decide +kernel)) ggX1_tiesMade_X2_landOf
theorem dX1_tiesMade_0 : decode cX1_tiesMade 0 = .ok (.iconst 0, 1) := by decide +kernel
theorem dX1_tiesMade_1 : decode cX1_tiesMade 1 = .ok (.istore_n 3, 1) := by decide +kernel
theorem dX1_tiesMade_2 : decode cX1_tiesMade 2 = .ok (.iconst 0, 1) := by decide +kernel
theorem dX1_tiesMade_3 : decode cX1_tiesMade 3 = .ok (.istore 4, 2) := by decide +kernel
theorem dX1_tiesMade_5 : decode cX1_tiesMade 5 = .ok (.iload 4, 2) := by decide +kernel
theorem dX1_tiesMade_7 : decode cX1_tiesMade 7 = .ok (.bipush 6, 2) := by decide +kernel
theorem dX1_tiesMade_9 : decode cX1_tiesMade 9 = .ok (.if_icmp .ge 62, 3) := by decide +kernel
theorem dX1_tiesMade_12 : decode cX1_tiesMade 12 = .ok (.aload_n 0, 1) := by decide +kernel
theorem dX1_tiesMade_13 : decode cX1_tiesMade 13 = .ok (.getfield 15, 3) := by decide +kernel
theorem dX1_tiesMade_16 : decode cX1_tiesMade 16 = .ok (.getfield 48, 3) := by decide +kernel
theorem dX1_tiesMade_19 : decode cX1_tiesMade 19 = .ok (.getfield 65, 3) := by decide +kernel
theorem dX1_tiesMade_22 : decode cX1_tiesMade 22 = .ok (.iload 4, 2) := by decide +kernel
theorem dX1_tiesMade_24 : decode cX1_tiesMade 24 = .ok (.iaload, 1) := by decide +kernel
theorem dX1_tiesMade_25 : decode cX1_tiesMade 25 = .ok (.istore 5, 2) := by decide +kernel
theorem dX1_tiesMade_27 : decode cX1_tiesMade 27 = .ok (.iload 5, 2) := by decide +kernel
theorem dX1_tiesMade_29 : decode cX1_tiesMade 29 = .ok (.aload_n 0, 1) := by decide +kernel
theorem dX1_tiesMade_30 : decode cX1_tiesMade 30 = .ok (.getfield 9, 3) := by decide +kernel
theorem dX1_tiesMade_33 : decode cX1_tiesMade 33 = .ok (.iload_n 1, 1) := by decide +kernel
theorem dX1_tiesMade_34 : decode cX1_tiesMade 34 = .ok (.iload 4, 2) := by decide +kernel
theorem dX1_tiesMade_36 : decode cX1_tiesMade 36 = .ok (.invokevirtual 68, 3) := by decide +kernel
theorem dX1_tiesMade_39 : decode cX1_tiesMade 39 = .ok (.if_icmp .ne 6, 3) := by decide +kernel
theorem dX1_tiesMade_42 : decode cX1_tiesMade 42 = .ok (.goto 23, 3) := by decide +kernel
theorem dX1_tiesMade_45 : decode cX1_tiesMade 45 = .ok (.iload 5, 2) := by decide +kernel
theorem dX1_tiesMade_47 : decode cX1_tiesMade 47 = .ok (.iconst (-1), 1) := by decide +kernel
theorem dX1_tiesMade_48 : decode cX1_tiesMade 48 = .ok (.if_icmp .eq 12, 3) := by decide +kernel
theorem dX1_tiesMade_51 : decode cX1_tiesMade 51 = .ok (.iload_n 2, 1) := by decide +kernel
theorem dX1_tiesMade_52 : decode cX1_tiesMade 52 = .ok (.iload 4, 2) := by decide +kernel
theorem dX1_tiesMade_54 : decode cX1_tiesMade 54 = .ok (.iushr, 1) := by decide +kernel
theorem dX1_tiesMade_55 : decode cX1_tiesMade 55 = .ok (.iconst 1, 1) := by decide +kernel
theorem dX1_tiesMade_56 : decode cX1_tiesMade 56 = .ok (.iand, 1) := by decide +kernel
theorem dX1_tiesMade_57 : decode cX1_tiesMade 57 = .ok (.ifCond .ne 5, 3) := by decide +kernel
theorem dX1_tiesMade_60 : decode cX1_tiesMade 60 = .ok (.iconst (-1), 1) := by decide +kernel
theorem dX1_tiesMade_61 : decode cX1_tiesMade 61 = .ok (.ireturn, 1) := by decide +kernel
theorem dX1_tiesMade_62 : decode cX1_tiesMade 62 = .ok (.iinc 3 1, 3) := by decide +kernel
theorem dX1_tiesMade_65 : decode cX1_tiesMade 65 = .ok (.iinc 4 1, 3) := by decide +kernel
theorem dX1_tiesMade_68 : decode cX1_tiesMade 68 = .ok (.goto (-63), 3) := by decide +kernel
theorem dX1_tiesMade_71 : decode cX1_tiesMade 71 = .ok (.iload_n 3, 1) := by decide +kernel
theorem dX1_tiesMade_72 : decode cX1_tiesMade 72 = .ok (.ireturn, 1) := by decide +kernel
set_option maxRecDepth 20000 in
theorem ggX1_judgeEndingIn_X4_outcome : GoodIn wsX1_judgeEndingIn wsX4_outcome := goodIn_r _ [7, 8, 9, 10, 11, 12, 13, 14, 15, 16, 17, 18, 19, 20, 21, 22, 23, 6, 24, 25, 26, 27, 28, 29, 30, 31, 32, 33, 34, 35, 36, 37, 38, 39, 40, 41, 42, 43, 44, 53, 54, 55, 56, 57, 58, 59, 60, 61, 62, 63, 64, 65, 66, 67, 68, 69, 70, 71] (by decide +kernel) (by decide +kernel)
set_option maxRecDepth 20000 in
theorem gX1_judgeEndingIn_X4_outcome : GoodIn wsX1_judgeEndingIn (wsV RX1 71 RX4 yX4_outcome wsX4_outcome) := goodIn_app (goodIn_of _ (by decide +kernel)) ggX1_judgeEndingIn_X4_outcome
theorem dX1_judgeEndingIn_0 : decode cX1_judgeEndingIn 0 = .ok (.iconst 0, 1) := by decide +kernel
theorem dX1_judgeEndingIn_1 : decode cX1_judgeEndingIn 1 = .ok (.istore_n 2, 1) := by decide +kernel
theorem dX1_judgeEndingIn_2 : decode cX1_judgeEndingIn 2 = .ok (.iload_n 2, 1) := by decide +kernel
theorem dX1_judgeEndingIn_3 : decode cX1_judgeEndingIn 3 = .ok (.iconst 4, 1) := by decide +kernel
theorem dX1_judgeEndingIn_4 : decode cX1_judgeEndingIn 4 = .ok (.if_icmp .ge 26, 3) := by decide +kernel
theorem dX1_judgeEndingIn_7 : decode cX1_judgeEndingIn 7 = .ok (.aload_n 0, 1) := by decide +kernel
theorem dX1_judgeEndingIn_8 : decode cX1_judgeEndingIn 8 = .ok (.getfield 15, 3) := by decide +kernel
theorem dX1_judgeEndingIn_11 : decode cX1_judgeEndingIn 11 = .ok (.getfield 48, 3) := by decide +kernel
theorem dX1_judgeEndingIn_14 : decode cX1_judgeEndingIn 14 = .ok (.iload_n 2, 1) := by decide +kernel
theorem dX1_judgeEndingIn_15 : decode cX1_judgeEndingIn 15 = .ok (.invokevirtual 71, 3) := by decide +kernel
theorem dX1_judgeEndingIn_18 : decode cX1_judgeEndingIn 18 = .ok (.iload_n 1, 1) := by decide +kernel
theorem dX1_judgeEndingIn_19 : decode cX1_judgeEndingIn 19 = .ok (.if_icmp .ne 5, 3) := by decide +kernel
theorem dX1_judgeEndingIn_22 : decode cX1_judgeEndingIn 22 = .ok (.iload_n 2, 1) := by decide +kernel
theorem dX1_judgeEndingIn_23 : decode cX1_judgeEndingIn 23 = .ok (.ireturn, 1) := by decide +kernel
theorem dX1_judgeEndingIn_24 : decode cX1_judgeEndingIn 24 = .ok (.iinc 2 1, 3) := by decide +kernel
theorem dX1_judgeEndingIn_27 : decode cX1_judgeEndingIn 27 = .ok (.goto (-25), 3) := by decide +kernel
theorem dX1_judgeEndingIn_30 : decode cX1_judgeEndingIn 30 = .ok (.iconst (-1), 1) := by decide +kernel
theorem dX1_judgeEndingIn_31 : decode cX1_judgeEndingIn 31 = .ok (.ireturn, 1) := by decide +kernel
theorem dX1_keepIfBetter_0 : decode cX1_keepIfBetter 0 = .ok (.iload_n 3, 1) := by decide +kernel
theorem dX1_keepIfBetter_1 : decode cX1_keepIfBetter 1 = .ok (.iconst (-1), 1) := by decide +kernel
theorem dX1_keepIfBetter_2 : decode cX1_keepIfBetter 2 = .ok (.if_icmp .ne 4, 3) := by decide +kernel
theorem dX1_keepIfBetter_5 : decode cX1_keepIfBetter 5 = .ok (.return_, 1) := by decide +kernel
theorem dX1_keepIfBetter_6 : decode cX1_keepIfBetter 6 = .ok (.aload_n 0, 1) := by decide +kernel
theorem dX1_keepIfBetter_7 : decode cX1_keepIfBetter 7 = .ok (.getfield 19, 3) := by decide +kernel
theorem dX1_keepIfBetter_10 : decode cX1_keepIfBetter 10 = .ok (.iconst (-1), 1) := by decide +kernel
theorem dX1_keepIfBetter_11 : decode cX1_keepIfBetter 11 = .ok (.if_icmp .eq 19, 3) := by decide +kernel
theorem dX1_keepIfBetter_14 : decode cX1_keepIfBetter 14 = .ok (.iload_n 2, 1) := by decide +kernel
theorem dX1_keepIfBetter_15 : decode cX1_keepIfBetter 15 = .ok (.aload_n 0, 1) := by decide +kernel
theorem dX1_keepIfBetter_16 : decode cX1_keepIfBetter 16 = .ok (.getfield 19, 3) := by decide +kernel
theorem dX1_keepIfBetter_19 : decode cX1_keepIfBetter 19 = .ok (.if_icmp .lt 11, 3) := by decide +kernel
theorem dX1_keepIfBetter_22 : decode cX1_keepIfBetter 22 = .ok (.iload_n 3, 1) := by decide +kernel
theorem dX1_keepIfBetter_23 : decode cX1_keepIfBetter 23 = .ok (.aload_n 0, 1) := by decide +kernel
theorem dX1_keepIfBetter_24 : decode cX1_keepIfBetter 24 = .ok (.getfield 23, 3) := by decide +kernel
theorem dX1_keepIfBetter_27 : decode cX1_keepIfBetter 27 = .ok (.if_icmp .ge 18, 3) := by decide +kernel
theorem dX1_keepIfBetter_30 : decode cX1_keepIfBetter 30 = .ok (.aload_n 0, 1) := by decide +kernel
theorem dX1_keepIfBetter_31 : decode cX1_keepIfBetter 31 = .ok (.iload_n 2, 1) := by decide +kernel
theorem dX1_keepIfBetter_32 : decode cX1_keepIfBetter 32 = .ok (.putfield 19, 3) := by decide +kernel
theorem dX1_keepIfBetter_35 : decode cX1_keepIfBetter 35 = .ok (.aload_n 0, 1) := by decide +kernel
theorem dX1_keepIfBetter_36 : decode cX1_keepIfBetter 36 = .ok (.iload_n 3, 1) := by decide +kernel
theorem dX1_keepIfBetter_37 : decode cX1_keepIfBetter 37 = .ok (.putfield 23, 3) := by decide +kernel
theorem dX1_keepIfBetter_40 : decode cX1_keepIfBetter 40 = .ok (.aload_n 0, 1) := by decide +kernel
theorem dX1_keepIfBetter_41 : decode cX1_keepIfBetter 41 = .ok (.iload_n 1, 1) := by decide +kernel
theorem dX1_keepIfBetter_42 : decode cX1_keepIfBetter 42 = .ok (.putfield 26, 3) := by decide +kernel
theorem dX1_keepIfBetter_45 : decode cX1_keepIfBetter 45 = .ok (.return_, 1) := by decide +kernel
set_option maxRecDepth 20000 in
theorem ggX2_init_J7_fill_53178 : GoodIn wsX2_init wsJ7_fill_53178 := goodIn_r _ [12] (by decide +kernel) (by decide +kernel)
set_option maxRecDepth 20000 in
theorem gX2_init_J7_fill_53178 : GoodIn wsX2_init (va_wsS RX2 24 yJ7_fill_53178 wsJ7_fill_53178) := goodIn_app (goodIn_of _ (by decide +kernel)) ggX2_init_J7_fill_53178
theorem dX2_init_0 : decode cX2_init 0 = .ok (.aload_n 0, 1) := by decide +kernel
theorem dX2_init_1 : decode cX2_init 1 = .ok (.invokespecial 3, 3) := by decide +kernel
theorem dX2_init_4 : decode cX2_init 4 = .ok (.aload_n 0, 1) := by decide +kernel
theorem dX2_init_5 : decode cX2_init 5 = .ok (.bipush 16, 2) := by decide +kernel
theorem dX2_init_7 : decode cX2_init 7 = .ok (.newarray .int, 2) := by decide +kernel
theorem dX2_init_9 : decode cX2_init 9 = .ok (.putfield 9, 3) := by decide +kernel
theorem dX2_init_12 : decode cX2_init 12 = .ok (.aload_n 0, 1) := by decide +kernel
theorem dX2_init_13 : decode cX2_init 13 = .ok (.bipush 16, 2) := by decide +kernel
theorem dX2_init_15 : decode cX2_init 15 = .ok (.newarray .int, 2) := by decide +kernel
theorem dX2_init_17 : decode cX2_init 17 = .ok (.putfield 15, 3) := by decide +kernel
theorem dX2_init_20 : decode cX2_init 20 = .ok (.aload_n 0, 1) := by decide +kernel
theorem dX2_init_21 : decode cX2_init 21 = .ok (.bipush 96, 2) := by decide +kernel
theorem dX2_init_23 : decode cX2_init 23 = .ok (.newarray .int, 2) := by decide +kernel
theorem dX2_init_25 : decode cX2_init 25 = .ok (.putfield 18, 3) := by decide +kernel
theorem dX2_init_28 : decode cX2_init 28 = .ok (.aload_n 0, 1) := by decide +kernel
theorem dX2_init_29 : decode cX2_init 29 = .ok (.bipush 96, 2) := by decide +kernel
theorem dX2_init_31 : decode cX2_init 31 = .ok (.newarray .int, 2) := by decide +kernel
theorem dX2_init_33 : decode cX2_init 33 = .ok (.putfield 21, 3) := by decide +kernel
theorem dX2_init_36 : decode cX2_init 36 = .ok (.aload_n 0, 1) := by decide +kernel
theorem dX2_init_37 : decode cX2_init 37 = .ok (.getfield 18, 3) := by decide +kernel
theorem dX2_init_40 : decode cX2_init 40 = .ok (.iconst (-1), 1) := by decide +kernel
theorem dX2_init_41 : decode cX2_init 41 = .ok (.invokestatic 24, 3) := by decide +kernel
theorem dX2_init_44 : decode cX2_init 44 = .ok (.aload_n 0, 1) := by decide +kernel
theorem dX2_init_45 : decode cX2_init 45 = .ok (.getfield 21, 3) := by decide +kernel
theorem dX2_init_48 : decode cX2_init 48 = .ok (.iconst (-1), 1) := by decide +kernel
theorem dX2_init_49 : decode cX2_init 49 = .ok (.invokestatic 24, 3) := by decide +kernel
theorem dX2_init_52 : decode cX2_init 52 = .ok (.return_, 1) := by decide +kernel
theorem dX2_add_0 : decode cX2_add 0 = .ok (.aload_n 0, 1) := by decide +kernel
theorem dX2_add_1 : decode cX2_add 1 = .ok (.getfield 9, 3) := by decide +kernel
theorem dX2_add_4 : decode cX2_add 4 = .ok (.aload_n 0, 1) := by decide +kernel
theorem dX2_add_5 : decode cX2_add 5 = .ok (.getfield 30, 3) := by decide +kernel
theorem dX2_add_8 : decode cX2_add 8 = .ok (.iload_n 1, 1) := by decide +kernel
theorem dX2_add_9 : decode cX2_add 9 = .ok (.iastore, 1) := by decide +kernel
theorem dX2_add_10 : decode cX2_add 10 = .ok (.aload_n 0, 1) := by decide +kernel
theorem dX2_add_11 : decode cX2_add 11 = .ok (.dup, 1) := by decide +kernel
theorem dX2_add_12 : decode cX2_add 12 = .ok (.getfield 30, 3) := by decide +kernel
theorem dX2_add_15 : decode cX2_add 15 = .ok (.iconst 1, 1) := by decide +kernel
theorem dX2_add_16 : decode cX2_add 16 = .ok (.iadd, 1) := by decide +kernel
theorem dX2_add_17 : decode cX2_add 17 = .ok (.putfield 30, 3) := by decide +kernel
theorem dX2_add_20 : decode cX2_add 20 = .ok (.aload_n 0, 1) := by decide +kernel
theorem dX2_add_21 : decode cX2_add 21 = .ok (.getfield 30, 3) := by decide +kernel
theorem dX2_add_24 : decode cX2_add 24 = .ok (.iconst 1, 1) := by decide +kernel
theorem dX2_add_25 : decode cX2_add 25 = .ok (.isub, 1) := by decide +kernel
theorem dX2_add_26 : decode cX2_add 26 = .ok (.ireturn, 1) := by decide +kernel
theorem dX2_tell_0 : decode cX2_tell 0 = .ok (.iload_n 1, 1) := by decide +kernel
theorem dX2_tell_1 : decode cX2_tell 1 = .ok (.bipush 6, 2) := by decide +kernel
theorem dX2_tell_3 : decode cX2_tell 3 = .ok (.imul, 1) := by decide +kernel
theorem dX2_tell_4 : decode cX2_tell 4 = .ok (.iload_n 2, 1) := by decide +kernel
theorem dX2_tell_5 : decode cX2_tell 5 = .ok (.iadd, 1) := by decide +kernel
theorem dX2_tell_6 : decode cX2_tell 6 = .ok (.istore 5, 2) := by decide +kernel
theorem dX2_tell_8 : decode cX2_tell 8 = .ok (.iload 4, 2) := by decide +kernel
theorem dX2_tell_10 : decode cX2_tell 10 = .ok (.aload_n 0, 1) := by decide +kernel
theorem dX2_tell_11 : decode cX2_tell 11 = .ok (.getfield 9, 3) := by decide +kernel
theorem dX2_tell_14 : decode cX2_tell 14 = .ok (.iload_n 1, 1) := by decide +kernel
theorem dX2_tell_15 : decode cX2_tell 15 = .ok (.iaload, 1) := by decide +kernel
theorem dX2_tell_16 : decode cX2_tell 16 = .ok (.if_icmp .gt 32, 3) := by decide +kernel
theorem dX2_tell_19 : decode cX2_tell 19 = .ok (.iload 4, 2) := by decide +kernel
theorem dX2_tell_21 : decode cX2_tell 21 = .ok (.aload_n 0, 1) := by decide +kernel
theorem dX2_tell_22 : decode cX2_tell 22 = .ok (.getfield 21, 3) := by decide +kernel
theorem dX2_tell_25 : decode cX2_tell 25 = .ok (.iload 5, 2) := by decide +kernel
theorem dX2_tell_27 : decode cX2_tell 27 = .ok (.iaload, 1) := by decide +kernel
theorem dX2_tell_28 : decode cX2_tell 28 = .ok (.if_icmp .lt 20, 3) := by decide +kernel
theorem dX2_tell_31 : decode cX2_tell 31 = .ok (.aload_n 0, 1) := by decide +kernel
theorem dX2_tell_32 : decode cX2_tell 32 = .ok (.getfield 18, 3) := by decide +kernel
theorem dX2_tell_35 : decode cX2_tell 35 = .ok (.iload 5, 2) := by decide +kernel
theorem dX2_tell_37 : decode cX2_tell 37 = .ok (.iload_n 3, 1) := by decide +kernel
theorem dX2_tell_38 : decode cX2_tell 38 = .ok (.iastore, 1) := by decide +kernel
theorem dX2_tell_39 : decode cX2_tell 39 = .ok (.aload_n 0, 1) := by decide +kernel
theorem dX2_tell_40 : decode cX2_tell 40 = .ok (.getfield 21, 3) := by decide +kernel
theorem dX2_tell_43 : decode cX2_tell 43 = .ok (.iload 5, 2) := by decide +kernel
theorem dX2_tell_45 : decode cX2_tell 45 = .ok (.iload 4, 2) := by decide +kernel
theorem dX2_tell_47 : decode cX2_tell 47 = .ok (.iastore, 1) := by decide +kernel
theorem dX2_tell_48 : decode cX2_tell 48 = .ok (.aload_n 0, 1) := by decide +kernel
theorem dX2_tell_49 : decode cX2_tell 49 = .ok (.dup, 1) := by decide +kernel
theorem dX2_tell_50 : decode cX2_tell 50 = .ok (.getfield 34, 3) := by decide +kernel
theorem dX2_tell_53 : decode cX2_tell 53 = .ok (.iconst 1, 1) := by decide +kernel
theorem dX2_tell_54 : decode cX2_tell 54 = .ok (.iadd, 1) := by decide +kernel
theorem dX2_tell_55 : decode cX2_tell 55 = .ok (.putfield 34, 3) := by decide +kernel
theorem dX2_tell_58 : decode cX2_tell 58 = .ok (.aload_n 0, 1) := by decide +kernel
theorem dX2_tell_59 : decode cX2_tell 59 = .ok (.getfield 34, 3) := by decide +kernel
theorem dX2_tell_62 : decode cX2_tell 62 = .ok (.ireturn, 1) := by decide +kernel
theorem dX2_landOf_0 : decode cX2_landOf 0 = .ok (.aload_n 0, 1) := by decide +kernel
theorem dX2_landOf_1 : decode cX2_landOf 1 = .ok (.getfield 18, 3) := by decide +kernel
theorem dX2_landOf_4 : decode cX2_landOf 4 = .ok (.iload_n 1, 1) := by decide +kernel
theorem dX2_landOf_5 : decode cX2_landOf 5 = .ok (.bipush 6, 2) := by decide +kernel
theorem dX2_landOf_7 : decode cX2_landOf 7 = .ok (.imul, 1) := by decide +kernel
theorem dX2_landOf_8 : decode cX2_landOf 8 = .ok (.iload_n 2, 1) := by decide +kernel
theorem dX2_landOf_9 : decode cX2_landOf 9 = .ok (.iadd, 1) := by decide +kernel
theorem dX2_landOf_10 : decode cX2_landOf 10 = .ok (.iaload, 1) := by decide +kernel
theorem dX2_landOf_11 : decode cX2_landOf 11 = .ok (.ireturn, 1) := by decide +kernel
theorem dX3_init_0 : decode cX3_init 0 = .ok (.aload_n 0, 1) := by decide +kernel
theorem dX3_init_1 : decode cX3_init 1 = .ok (.invokespecial 3, 3) := by decide +kernel
theorem dX3_init_4 : decode cX3_init 4 = .ok (.aload_n 0, 1) := by decide +kernel
theorem dX3_init_5 : decode cX3_init 5 = .ok (.iconst 4, 1) := by decide +kernel
theorem dX3_init_6 : decode cX3_init 6 = .ok (.newarray .int, 2) := by decide +kernel
theorem dX3_init_8 : decode cX3_init 8 = .ok (.putfield 9, 3) := by decide +kernel
theorem dX3_init_11 : decode cX3_init 11 = .ok (.return_, 1) := by decide +kernel
theorem dX3_follow_0 : decode cX3_follow 0 = .ok (.iconst 1, 1) := by decide +kernel
theorem dX3_follow_1 : decode cX3_follow 1 = .ok (.iload_n 2, 1) := by decide +kernel
theorem dX3_follow_2 : decode cX3_follow 2 = .ok (.ishl, 1) := by decide +kernel
theorem dX3_follow_3 : decode cX3_follow 3 = .ok (.istore_n 3, 1) := by decide +kernel
theorem dX3_follow_4 : decode cX3_follow 4 = .ok (.aload_n 0, 1) := by decide +kernel
theorem dX3_follow_5 : decode cX3_follow 5 = .ok (.getfield 9, 3) := by decide +kernel
theorem dX3_follow_8 : decode cX3_follow 8 = .ok (.iconst 0, 1) := by decide +kernel
theorem dX3_follow_9 : decode cX3_follow 9 = .ok (.iload_n 2, 1) := by decide +kernel
theorem dX3_follow_10 : decode cX3_follow 10 = .ok (.iastore, 1) := by decide +kernel
theorem dX3_follow_11 : decode cX3_follow 11 = .ok (.aload_n 0, 1) := by decide +kernel
theorem dX3_follow_12 : decode cX3_follow 12 = .ok (.iconst 1, 1) := by decide +kernel
theorem dX3_follow_13 : decode cX3_follow 13 = .ok (.putfield 15, 3) := by decide +kernel
theorem dX3_follow_16 : decode cX3_follow 16 = .ok (.iconst 0, 1) := by decide +kernel
theorem dX3_follow_17 : decode cX3_follow 17 = .ok (.istore 4, 2) := by decide +kernel
theorem dX3_follow_19 : decode cX3_follow 19 = .ok (.iload 4, 2) := by decide +kernel
theorem dX3_follow_21 : decode cX3_follow 21 = .ok (.iconst 4, 1) := by decide +kernel
theorem dX3_follow_22 : decode cX3_follow 22 = .ok (.if_icmp .ge 103, 3) := by decide +kernel
theorem dX3_follow_25 : decode cX3_follow 25 = .ok (.aload_n 0, 1) := by decide +kernel
theorem dX3_follow_26 : decode cX3_follow 26 = .ok (.getfield 9, 3) := by decide +kernel
theorem dX3_follow_29 : decode cX3_follow 29 = .ok (.aload_n 0, 1) := by decide +kernel
theorem dX3_follow_30 : decode cX3_follow 30 = .ok (.getfield 15, 3) := by decide +kernel
theorem dX3_follow_33 : decode cX3_follow 33 = .ok (.iconst 1, 1) := by decide +kernel
theorem dX3_follow_34 : decode cX3_follow 34 = .ok (.isub, 1) := by decide +kernel
theorem dX3_follow_35 : decode cX3_follow 35 = .ok (.iaload, 1) := by decide +kernel
theorem dX3_follow_36 : decode cX3_follow 36 = .ok (.istore 5, 2) := by decide +kernel
theorem dX3_follow_38 : decode cX3_follow 38 = .ok (.aload_n 0, 1) := by decide +kernel
theorem dX3_follow_39 : decode cX3_follow 39 = .ok (.aload_n 1, 1) := by decide +kernel
theorem dX3_follow_40 : decode cX3_follow 40 = .ok (.getfield 19, 3) := by decide +kernel
theorem dX3_follow_43 : decode cX3_follow 43 = .ok (.iload 5, 2) := by decide +kernel
theorem dX3_follow_45 : decode cX3_follow 45 = .ok (.iaload, 1) := by decide +kernel
theorem dX3_follow_46 : decode cX3_follow 46 = .ok (.putfield 24, 3) := by decide +kernel
theorem dX3_follow_49 : decode cX3_follow 49 = .ok (.aload_n 0, 1) := by decide +kernel
theorem dX3_follow_50 : decode cX3_follow 50 = .ok (.aload_n 1, 1) := by decide +kernel
theorem dX3_follow_51 : decode cX3_follow 51 = .ok (.getfield 27, 3) := by decide +kernel
theorem dX3_follow_54 : decode cX3_follow 54 = .ok (.iload 5, 2) := by decide +kernel
theorem dX3_follow_56 : decode cX3_follow 56 = .ok (.iaload, 1) := by decide +kernel
theorem dX3_follow_57 : decode cX3_follow 57 = .ok (.putfield 30, 3) := by decide +kernel
theorem dX3_follow_60 : decode cX3_follow 60 = .ok (.aload_n 0, 1) := by decide +kernel
theorem dX3_follow_61 : decode cX3_follow 61 = .ok (.getfield 24, 3) := by decide +kernel
theorem dX3_follow_64 : decode cX3_follow 64 = .ok (.ifCond .eq 22, 3) := by decide +kernel
theorem dX3_follow_67 : decode cX3_follow 67 = .ok (.iload_n 3, 1) := by decide +kernel
theorem dX3_follow_68 : decode cX3_follow 68 = .ok (.aload_n 0, 1) := by decide +kernel
theorem dX3_follow_69 : decode cX3_follow 69 = .ok (.getfield 30, 3) := by decide +kernel
theorem dX3_follow_72 : decode cX3_follow 72 = .ok (.iushr, 1) := by decide +kernel
theorem dX3_follow_73 : decode cX3_follow 73 = .ok (.iconst 1, 1) := by decide +kernel
theorem dX3_follow_74 : decode cX3_follow 74 = .ok (.iand, 1) := by decide +kernel
theorem dX3_follow_75 : decode cX3_follow 75 = .ok (.ifCond .ne 11, 3) := by decide +kernel
theorem dX3_follow_78 : decode cX3_follow 78 = .ok (.aload_n 0, 1) := by decide +kernel
theorem dX3_follow_79 : decode cX3_follow 79 = .ok (.getfield 15, 3) := by decide +kernel
theorem dX3_follow_82 : decode cX3_follow 82 = .ok (.iconst 4, 1) := by decide +kernel
theorem dX3_follow_83 : decode cX3_follow 83 = .ok (.if_icmp .lt 4, 3) := by decide +kernel
theorem dX3_follow_86 : decode cX3_follow 86 = .ok (.return_, 1) := by decide +kernel
theorem dX3_follow_87 : decode cX3_follow 87 = .ok (.iload_n 3, 1) := by decide +kernel
theorem dX3_follow_88 : decode cX3_follow 88 = .ok (.iconst 1, 1) := by decide +kernel
theorem dX3_follow_89 : decode cX3_follow 89 = .ok (.aload_n 0, 1) := by decide +kernel
theorem dX3_follow_90 : decode cX3_follow 90 = .ok (.getfield 30, 3) := by decide +kernel
theorem dX3_follow_93 : decode cX3_follow 93 = .ok (.ishl, 1) := by decide +kernel
theorem dX3_follow_94 : decode cX3_follow 94 = .ok (.ior, 1) := by decide +kernel
theorem dX3_follow_95 : decode cX3_follow 95 = .ok (.istore_n 3, 1) := by decide +kernel
theorem dX3_follow_96 : decode cX3_follow 96 = .ok (.aload_n 0, 1) := by decide +kernel
theorem dX3_follow_97 : decode cX3_follow 97 = .ok (.getfield 9, 3) := by decide +kernel
theorem dX3_follow_100 : decode cX3_follow 100 = .ok (.aload_n 0, 1) := by decide +kernel
theorem dX3_follow_101 : decode cX3_follow 101 = .ok (.getfield 15, 3) := by decide +kernel
theorem dX3_follow_104 : decode cX3_follow 104 = .ok (.aload_n 0, 1) := by decide +kernel
theorem dX3_follow_105 : decode cX3_follow 105 = .ok (.getfield 30, 3) := by decide +kernel
theorem dX3_follow_108 : decode cX3_follow 108 = .ok (.iastore, 1) := by decide +kernel
theorem dX3_follow_109 : decode cX3_follow 109 = .ok (.aload_n 0, 1) := by decide +kernel
theorem dX3_follow_110 : decode cX3_follow 110 = .ok (.dup, 1) := by decide +kernel
theorem dX3_follow_111 : decode cX3_follow 111 = .ok (.getfield 15, 3) := by decide +kernel
theorem dX3_follow_114 : decode cX3_follow 114 = .ok (.iconst 1, 1) := by decide +kernel
theorem dX3_follow_115 : decode cX3_follow 115 = .ok (.iadd, 1) := by decide +kernel
theorem dX3_follow_116 : decode cX3_follow 116 = .ok (.putfield 15, 3) := by decide +kernel
theorem dX3_follow_119 : decode cX3_follow 119 = .ok (.iinc 4 1, 3) := by decide +kernel
theorem dX3_follow_122 : decode cX3_follow 122 = .ok (.goto (-103), 3) := by decide +kernel
theorem dX3_follow_125 : decode cX3_follow 125 = .ok (.return_, 1) := by decide +kernel
theorem dX3_step_0 : decode cX3_step 0 = .ok (.iload_n 1, 1) := by decide +kernel
theorem dX3_step_1 : decode cX3_step 1 = .ok (.aload_n 0, 1) := by decide +kernel
theorem dX3_step_2 : decode cX3_step 2 = .ok (.getfield 15, 3) := by decide +kernel
theorem dX3_step_5 : decode cX3_step 5 = .ok (.if_icmp .ge 10, 3) := by decide +kernel
theorem dX3_step_8 : decode cX3_step 8 = .ok (.aload_n 0, 1) := by decide +kernel
theorem dX3_step_9 : decode cX3_step 9 = .ok (.getfield 9, 3) := by decide +kernel
theorem dX3_step_12 : decode cX3_step 12 = .ok (.iload_n 1, 1) := by decide +kernel
theorem dX3_step_13 : decode cX3_step 13 = .ok (.iaload, 1) := by decide +kernel
theorem dX3_step_14 : decode cX3_step 14 = .ok (.ireturn, 1) := by decide +kernel
theorem dX3_step_15 : decode cX3_step 15 = .ok (.iload_n 1, 1) := by decide +kernel
theorem dX3_step_16 : decode cX3_step 16 = .ok (.aload_n 0, 1) := by decide +kernel
theorem dX3_step_17 : decode cX3_step 17 = .ok (.getfield 15, 3) := by decide +kernel
theorem dX3_step_20 : decode cX3_step 20 = .ok (.if_icmp .ne 21, 3) := by decide +kernel
theorem dX3_step_23 : decode cX3_step 23 = .ok (.bipush 100, 2) := by decide +kernel
theorem dX3_step_25 : decode cX3_step 25 = .ok (.bipush 10, 2) := by decide +kernel
theorem dX3_step_27 : decode cX3_step 27 = .ok (.aload_n 0, 1) := by decide +kernel
theorem dX3_step_28 : decode cX3_step 28 = .ok (.getfield 24, 3) := by decide +kernel
theorem dX3_step_31 : decode cX3_step 31 = .ok (.imul, 1) := by decide +kernel
theorem dX3_step_32 : decode cX3_step 32 = .ok (.iadd, 1) := by decide +kernel
theorem dX3_step_33 : decode cX3_step 33 = .ok (.aload_n 0, 1) := by decide +kernel
theorem dX3_step_34 : decode cX3_step 34 = .ok (.getfield 30, 3) := by decide +kernel
theorem dX3_step_37 : decode cX3_step 37 = .ok (.iadd, 1) := by decide +kernel
theorem dX3_step_38 : decode cX3_step 38 = .ok (.goto 4, 3) := by decide +kernel
theorem dX3_step_41 : decode cX3_step 41 = .ok (.iconst (-1), 1) := by decide +kernel
theorem dX3_step_42 : decode cX3_step 42 = .ok (.ireturn, 1) := by decide +kernel
set_option maxRecDepth 20000 in
theorem ggX4_init_X3_init : GoodIn wsX4_init wsX3_init := goodIn_r _ [16, 17, 2, 3, 4, 18, 28, 29, 30, 31] (by decide +kernel) (by decide +kernel)
set_option maxRecDepth 20000 in
theorem gX4_init_X3_init_n23 : GoodIn wsX4_init (wsX3_init) := ggX4_init_X3_init
theorem dX4_init_0 : decode cX4_init 0 = .ok (.aload_n 0, 1) := by decide +kernel
theorem dX4_init_1 : decode cX4_init 1 = .ok (.invokespecial 3, 3) := by decide +kernel
theorem dX4_init_4 : decode cX4_init 4 = .ok (.aload_n 0, 1) := by decide +kernel
theorem dX4_init_5 : decode cX4_init 5 = .ok (.bipush 6, 2) := by decide +kernel
theorem dX4_init_7 : decode cX4_init 7 = .ok (.newarray .int, 2) := by decide +kernel
theorem dX4_init_9 : decode cX4_init 9 = .ok (.putfield 9, 3) := by decide +kernel
theorem dX4_init_12 : decode cX4_init 12 = .ok (.aload_n 0, 1) := by decide +kernel
theorem dX4_init_13 : decode cX4_init 13 = .ok (.iconst 4, 1) := by decide +kernel
theorem dX4_init_14 : decode cX4_init 14 = .ok (.newarray .int, 2) := by decide +kernel
theorem dX4_init_16 : decode cX4_init 16 = .ok (.putfield 15, 3) := by decide +kernel
theorem dX4_init_19 : decode cX4_init 19 = .ok (.aload_n 0, 1) := by decide +kernel
theorem dX4_init_20 : decode cX4_init 20 = .ok (.iconst 4, 1) := by decide +kernel
theorem dX4_init_21 : decode cX4_init 21 = .ok (.newarray .int, 2) := by decide +kernel
theorem dX4_init_23 : decode cX4_init 23 = .ok (.putfield 18, 3) := by decide +kernel
theorem dX4_init_26 : decode cX4_init 26 = .ok (.aload_n 0, 1) := by decide +kernel
theorem dX4_init_27 : decode cX4_init 27 = .ok (.new 21, 3) := by decide +kernel
theorem dX4_init_30 : decode cX4_init 30 = .ok (.dup, 1) := by decide +kernel
theorem dX4_init_31 : decode cX4_init 31 = .ok (.invokespecial 23, 3) := by decide +kernel
theorem dX4_init_34 : decode cX4_init 34 = .ok (.putfield 24, 3) := by decide +kernel
theorem dX4_init_37 : decode cX4_init 37 = .ok (.aload_n 0, 1) := by decide +kernel
theorem dX4_init_38 : decode cX4_init 38 = .ok (.aload_n 1, 1) := by decide +kernel
theorem dX4_init_39 : decode cX4_init 39 = .ok (.putfield 28, 3) := by decide +kernel
theorem dX4_init_42 : decode cX4_init 42 = .ok (.aload_n 0, 1) := by decide +kernel
theorem dX4_init_43 : decode cX4_init 43 = .ok (.aload_n 2, 1) := by decide +kernel
theorem dX4_init_44 : decode cX4_init 44 = .ok (.putfield 32, 3) := by decide +kernel
theorem dX4_init_47 : decode cX4_init 47 = .ok (.aload_n 0, 1) := by decide +kernel
theorem dX4_init_48 : decode cX4_init 48 = .ok (.aload_n 3, 1) := by decide +kernel
theorem dX4_init_49 : decode cX4_init 49 = .ok (.putfield 36, 3) := by decide +kernel
theorem dX4_init_52 : decode cX4_init 52 = .ok (.return_, 1) := by decide +kernel
set_option maxRecDepth 20000 in
theorem ggX4_open_X4_takeTies : GoodIn wsX4_open wsX4_takeTies := goodIn_r _ [9, 4, 10, 11, 12, 13, 14, 15, 35, 36, 37, 38, 39, 40, 41, 42, 43, 44, 45, 46, 47, 48, 49] (by decide +kernel) (by decide +kernel)
set_option maxRecDepth 20000 in
theorem gX4_open_X4_takeTies : GoodIn wsX4_open (wsV RX4 40 RX4 yX4_takeTies wsX4_takeTies) := goodIn_app (goodIn_of _ (by decide +kernel)) ggX4_open_X4_takeTies
set_option maxRecDepth 20000 in
theorem ggX4_open_X6_standing : GoodIn wsX4_open wsX6_standing := goodIn_r _ [20, 21, 22, 23, 24, 19, 25, 26, 27, 50, 51, 52, 53, 54, 55, 56, 57, 58, 59, 60, 61, 62] (by decide +kernel) (by decide +kernel)
set_option maxRecDepth 20000 in
theorem gX4_open_X6_standing : GoodIn wsX4_open (wsV RX4 49 RX6 yX6_standing wsX6_standing) := goodIn_app (goodIn_of _ (by decide +kernel)) ggX4_open_X6_standing
set_option maxRecDepth 20000 in
theorem ggX4_open_X6_letBy : GoodIn wsX4_open wsX6_letBy := goodIn_r _ [31, 32, 33, 34, 50, 51, 52, 53, 54, 55, 56, 57, 58, 59, 60, 61, 62] (by decide +kernel) (by decide +kernel)
set_option maxRecDepth 20000 in
theorem gX4_open_X6_letBy : GoodIn wsX4_open (wsV RX4 59 RX6 yX6_letBy wsX6_letBy) := goodIn_app (goodIn_of _ (by decide +kernel)) ggX4_open_X6_letBy
theorem dX4_open_0 : decode cX4_open 0 = .ok (.aload_n 0, 1) := by decide +kernel
theorem dX4_open_1 : decode cX4_open 1 = .ok (.aload_n 1, 1) := by decide +kernel
theorem dX4_open_2 : decode cX4_open 2 = .ok (.iload_n 2, 1) := by decide +kernel
theorem dX4_open_3 : decode cX4_open 3 = .ok (.invokevirtual 40, 3) := by decide +kernel
theorem dX4_open_6 : decode cX4_open 6 = .ok (.aload_n 0, 1) := by decide +kernel
theorem dX4_open_7 : decode cX4_open 7 = .ok (.aload_n 0, 1) := by decide +kernel
theorem dX4_open_8 : decode cX4_open 8 = .ok (.getfield 28, 3) := by decide +kernel
theorem dX4_open_11 : decode cX4_open 11 = .ok (.aload_n 1, 1) := by decide +kernel
theorem dX4_open_12 : decode cX4_open 12 = .ok (.getfield 44, 3) := by decide +kernel
theorem dX4_open_15 : decode cX4_open 15 = .ok (.iload_n 2, 1) := by decide +kernel
theorem dX4_open_16 : decode cX4_open 16 = .ok (.iaload, 1) := by decide +kernel
theorem dX4_open_17 : decode cX4_open 17 = .ok (.invokevirtual 49, 3) := by decide +kernel
theorem dX4_open_20 : decode cX4_open 20 = .ok (.putfield 55, 3) := by decide +kernel
theorem dX4_open_23 : decode cX4_open 23 = .ok (.iconst 0, 1) := by decide +kernel
theorem dX4_open_24 : decode cX4_open 24 = .ok (.istore_n 3, 1) := by decide +kernel
theorem dX4_open_25 : decode cX4_open 25 = .ok (.iload_n 3, 1) := by decide +kernel
theorem dX4_open_26 : decode cX4_open 26 = .ok (.bipush 6, 2) := by decide +kernel
theorem dX4_open_28 : decode cX4_open 28 = .ok (.if_icmp .ge 30, 3) := by decide +kernel
theorem dX4_open_31 : decode cX4_open 31 = .ok (.aload_n 0, 1) := by decide +kernel
theorem dX4_open_32 : decode cX4_open 32 = .ok (.dup, 1) := by decide +kernel
theorem dX4_open_33 : decode cX4_open 33 = .ok (.getfield 55, 3) := by decide +kernel
theorem dX4_open_36 : decode cX4_open 36 = .ok (.aload_n 0, 1) := by decide +kernel
theorem dX4_open_37 : decode cX4_open 37 = .ok (.getfield 28, 3) := by decide +kernel
theorem dX4_open_40 : decode cX4_open 40 = .ok (.aload_n 0, 1) := by decide +kernel
theorem dX4_open_41 : decode cX4_open 41 = .ok (.getfield 9, 3) := by decide +kernel
theorem dX4_open_44 : decode cX4_open 44 = .ok (.iload_n 3, 1) := by decide +kernel
theorem dX4_open_45 : decode cX4_open 45 = .ok (.invokevirtual 59, 3) := by decide +kernel
theorem dX4_open_48 : decode cX4_open 48 = .ok (.land, 1) := by decide +kernel
theorem dX4_open_49 : decode cX4_open 49 = .ok (.putfield 55, 3) := by decide +kernel
theorem dX4_open_52 : decode cX4_open 52 = .ok (.iinc 3 1, 3) := by decide +kernel
theorem dX4_open_55 : decode cX4_open 55 = .ok (.goto (-30), 3) := by decide +kernel
theorem dX4_open_58 : decode cX4_open 58 = .ok (.return_, 1) := by decide +kernel
set_option maxRecDepth 20000 in
theorem ggX4_takeTies_X2_landOf : GoodIn wsX4_takeTies wsX2_landOf := goodIn_r _ [6, 7, 17, 18, 19, 20, 21, 22] (by decide +kernel) (by decide +kernel)
set_option maxRecDepth 20000 in
theorem gX4_takeTies_X2_landOf : GoodIn wsX4_takeTies (wsV RX4 63 RX2 yX2_landOf wsX2_landOf) := goodIn_app (goodIn_of _ (by decide +kernel)) ggX4_takeTies_X2_landOf
theorem dX4_takeTies_0 : decode cX4_takeTies 0 = .ok (.iconst 0, 1) := by decide +kernel
theorem dX4_takeTies_1 : decode cX4_takeTies 1 = .ok (.istore_n 3, 1) := by decide +kernel
theorem dX4_takeTies_2 : decode cX4_takeTies 2 = .ok (.iload_n 3, 1) := by decide +kernel
theorem dX4_takeTies_3 : decode cX4_takeTies 3 = .ok (.bipush 6, 2) := by decide +kernel
theorem dX4_takeTies_5 : decode cX4_takeTies 5 = .ok (.if_icmp .ge 21, 3) := by decide +kernel
theorem dX4_takeTies_8 : decode cX4_takeTies 8 = .ok (.aload_n 0, 1) := by decide +kernel
theorem dX4_takeTies_9 : decode cX4_takeTies 9 = .ok (.getfield 9, 3) := by decide +kernel
theorem dX4_takeTies_12 : decode cX4_takeTies 12 = .ok (.iload_n 3, 1) := by decide +kernel
theorem dX4_takeTies_13 : decode cX4_takeTies 13 = .ok (.aload_n 1, 1) := by decide +kernel
theorem dX4_takeTies_14 : decode cX4_takeTies 14 = .ok (.iload_n 2, 1) := by decide +kernel
theorem dX4_takeTies_15 : decode cX4_takeTies 15 = .ok (.iload_n 3, 1) := by decide +kernel
theorem dX4_takeTies_16 : decode cX4_takeTies 16 = .ok (.invokevirtual 63, 3) := by decide +kernel
theorem dX4_takeTies_19 : decode cX4_takeTies 19 = .ok (.iastore, 1) := by decide +kernel
theorem dX4_takeTies_20 : decode cX4_takeTies 20 = .ok (.iinc 3 1, 3) := by decide +kernel
theorem dX4_takeTies_23 : decode cX4_takeTies 23 = .ok (.goto (-21), 3) := by decide +kernel
theorem dX4_takeTies_26 : decode cX4_takeTies 26 = .ok (.return_, 1) := by decide +kernel
set_option maxRecDepth 20000 in
theorem ggX4_readBooks_X5_ownKind : GoodIn wsX4_readBooks wsX5_ownKind := goodIn_r _ [13, 14, 56, 57] (by decide +kernel) (by decide +kernel)
set_option maxRecDepth 20000 in
theorem gX4_readBooks_X5_ownKind : GoodIn wsX4_readBooks (wsV RX4 71 RX5 yX5_ownKind wsX5_ownKind) := goodIn_app (goodIn_of _ (by decide +kernel)) ggX4_readBooks_X5_ownKind
set_option maxRecDepth 20000 in
theorem ggX4_readBooks_X6_first : GoodIn wsX4_readBooks wsX6_first := goodIn_r _ [19, 20, 21, 22, 23, 24, 25, 26, 27, 43, 44, 45, 46, 47, 48, 49, 50, 51, 52, 53, 54, 55] (by decide +kernel) (by decide +kernel)
set_option maxRecDepth 20000 in
theorem gX4_readBooks_X6_first : GoodIn wsX4_readBooks (wsV RX4 76 RX6 yX6_first wsX6_first) := goodIn_app (goodIn_of _ (by decide +kernel)) ggX4_readBooks_X6_first
set_option maxRecDepth 20000 in
theorem ggX4_readBooks_X6_landMeant : GoodIn wsX4_readBooks wsX6_landMeant := goodIn_r _ [31, 32, 33, 43, 44, 45, 46, 47, 48, 49, 50, 51, 52, 53, 54, 55] (by decide +kernel) (by decide +kernel)
set_option maxRecDepth 20000 in
theorem gX4_readBooks_X6_landMeant : GoodIn wsX4_readBooks (wsV RX4 81 RX6 yX6_landMeant wsX6_landMeant) := goodIn_app (goodIn_of _ (by decide +kernel)) ggX4_readBooks_X6_landMeant
theorem dX4_readBooks_0 : decode cX4_readBooks 0 = .ok (.aload_n 0, 1) := by decide +kernel
theorem dX4_readBooks_1 : decode cX4_readBooks 1 = .ok (.iload_n 1, 1) := by decide +kernel
theorem dX4_readBooks_2 : decode cX4_readBooks 2 = .ok (.putfield 67, 3) := by decide +kernel
theorem dX4_readBooks_5 : decode cX4_readBooks 5 = .ok (.iconst 0, 1) := by decide +kernel
theorem dX4_readBooks_6 : decode cX4_readBooks 6 = .ok (.istore_n 2, 1) := by decide +kernel
theorem dX4_readBooks_7 : decode cX4_readBooks 7 = .ok (.iload_n 2, 1) := by decide +kernel
theorem dX4_readBooks_8 : decode cX4_readBooks 8 = .ok (.iconst 4, 1) := by decide +kernel
theorem dX4_readBooks_9 : decode cX4_readBooks 9 = .ok (.if_icmp .ge 82, 3) := by decide +kernel
theorem dX4_readBooks_12 : decode cX4_readBooks 12 = .ok (.aload_n 0, 1) := by decide +kernel
theorem dX4_readBooks_13 : decode cX4_readBooks 13 = .ok (.getfield 28, 3) := by decide +kernel
theorem dX4_readBooks_16 : decode cX4_readBooks 16 = .ok (.aload_n 0, 1) := by decide +kernel
theorem dX4_readBooks_17 : decode cX4_readBooks 17 = .ok (.getfield 55, 3) := by decide +kernel
theorem dX4_readBooks_20 : decode cX4_readBooks 20 = .ok (.iload_n 2, 1) := by decide +kernel
theorem dX4_readBooks_21 : decode cX4_readBooks 21 = .ok (.aload_n 0, 1) := by decide +kernel
theorem dX4_readBooks_22 : decode cX4_readBooks 22 = .ok (.getfield 32, 3) := by decide +kernel
theorem dX4_readBooks_25 : decode cX4_readBooks 25 = .ok (.iload_n 2, 1) := by decide +kernel
theorem dX4_readBooks_26 : decode cX4_readBooks 26 = .ok (.iload_n 1, 1) := by decide +kernel
theorem dX4_readBooks_27 : decode cX4_readBooks 27 = .ok (.invokevirtual 71, 3) := by decide +kernel
theorem dX4_readBooks_30 : decode cX4_readBooks 30 = .ok (.invokevirtual 76, 3) := by decide +kernel
theorem dX4_readBooks_33 : decode cX4_readBooks 33 = .ok (.istore_n 3, 1) := by decide +kernel
theorem dX4_readBooks_34 : decode cX4_readBooks 34 = .ok (.aload_n 0, 1) := by decide +kernel
theorem dX4_readBooks_35 : decode cX4_readBooks 35 = .ok (.getfield 15, 3) := by decide +kernel
theorem dX4_readBooks_38 : decode cX4_readBooks 38 = .ok (.iload_n 2, 1) := by decide +kernel
theorem dX4_readBooks_39 : decode cX4_readBooks 39 = .ok (.iload_n 3, 1) := by decide +kernel
theorem dX4_readBooks_40 : decode cX4_readBooks 40 = .ok (.iconst (-1), 1) := by decide +kernel
theorem dX4_readBooks_41 : decode cX4_readBooks 41 = .ok (.if_icmp .ne 7, 3) := by decide +kernel
theorem dX4_readBooks_44 : decode cX4_readBooks 44 = .ok (.iconst 0, 1) := by decide +kernel
theorem dX4_readBooks_45 : decode cX4_readBooks 45 = .ok (.goto 12, 3) := by decide +kernel
theorem dX4_readBooks_48 : decode cX4_readBooks 48 = .ok (.aload_n 0, 1) := by decide +kernel
theorem dX4_readBooks_49 : decode cX4_readBooks 49 = .ok (.getfield 28, 3) := by decide +kernel
theorem dX4_readBooks_52 : decode cX4_readBooks 52 = .ok (.getfield 80, 3) := by decide +kernel
theorem dX4_readBooks_55 : decode cX4_readBooks 55 = .ok (.iload_n 3, 1) := by decide +kernel
theorem dX4_readBooks_56 : decode cX4_readBooks 56 = .ok (.iaload, 1) := by decide +kernel
theorem dX4_readBooks_57 : decode cX4_readBooks 57 = .ok (.iastore, 1) := by decide +kernel
theorem dX4_readBooks_58 : decode cX4_readBooks 58 = .ok (.aload_n 0, 1) := by decide +kernel
theorem dX4_readBooks_59 : decode cX4_readBooks 59 = .ok (.getfield 18, 3) := by decide +kernel
theorem dX4_readBooks_62 : decode cX4_readBooks 62 = .ok (.iload_n 2, 1) := by decide +kernel
theorem dX4_readBooks_63 : decode cX4_readBooks 63 = .ok (.iload_n 3, 1) := by decide +kernel
theorem dX4_readBooks_64 : decode cX4_readBooks 64 = .ok (.iconst (-1), 1) := by decide +kernel
theorem dX4_readBooks_65 : decode cX4_readBooks 65 = .ok (.if_icmp .ne 7, 3) := by decide +kernel
theorem dX4_readBooks_68 : decode cX4_readBooks 68 = .ok (.iload_n 2, 1) := by decide +kernel
theorem dX4_readBooks_69 : decode cX4_readBooks 69 = .ok (.goto 15, 3) := by decide +kernel
theorem dX4_readBooks_72 : decode cX4_readBooks 72 = .ok (.aload_n 0, 1) := by decide +kernel
theorem dX4_readBooks_73 : decode cX4_readBooks 73 = .ok (.getfield 28, 3) := by decide +kernel
theorem dX4_readBooks_76 : decode cX4_readBooks 76 = .ok (.iload_n 3, 1) := by decide +kernel
theorem dX4_readBooks_77 : decode cX4_readBooks 77 = .ok (.aload_n 0, 1) := by decide +kernel
theorem dX4_readBooks_78 : decode cX4_readBooks 78 = .ok (.getfield 9, 3) := by decide +kernel
theorem dX4_readBooks_81 : decode cX4_readBooks 81 = .ok (.invokevirtual 81, 3) := by decide +kernel
theorem dX4_readBooks_84 : decode cX4_readBooks 84 = .ok (.iastore, 1) := by decide +kernel
theorem dX4_readBooks_85 : decode cX4_readBooks 85 = .ok (.iinc 2 1, 3) := by decide +kernel
theorem dX4_readBooks_88 : decode cX4_readBooks 88 = .ok (.goto (-81), 3) := by decide +kernel
theorem dX4_readBooks_91 : decode cX4_readBooks 91 = .ok (.return_, 1) := by decide +kernel
set_option maxRecDepth 20000 in
theorem ggX4_outcome_X8_tells : GoodIn wsX4_outcome wsX8_tells := goodIn_r _ [9, 10, 11, 12, 13, 48, 49, 50, 51] (by decide +kernel) (by decide +kernel)
set_option maxRecDepth 20000 in
theorem gX4_outcome_X8_tells : GoodIn wsX4_outcome (wsV RX4 85 RX8 yX8_tells wsX8_tells) := goodIn_app (goodIn_of _ (by decide +kernel)) ggX4_outcome_X8_tells
set_option maxRecDepth 20000 in
theorem ggX4_outcome_X4_wayTaken : GoodIn wsX4_outcome wsX4_wayTaken := goodIn_r _ [18, 19, 4, 20, 21, 39, 40, 41, 42, 43, 44, 45, 46, 47, 52, 53] (by decide +kernel) (by decide +kernel)
set_option maxRecDepth 20000 in
theorem gX4_outcome_X4_wayTaken : GoodIn wsX4_outcome (wsV RX4 91 RX4 yX4_wayTaken wsX4_wayTaken) := goodIn_app (goodIn_of _ (by decide +kernel)) ggX4_outcome_X4_wayTaken
set_option maxRecDepth 20000 in
theorem ggX4_outcome_X4_byBooks : GoodIn wsX4_outcome wsX4_byBooks := goodIn_r _ [25, 4, 26, 27, 14, 15, 16, 17, 18, 19, 20, 21, 28, 29, 30, 31, 32, 33, 34, 35, 36, 37, 38, 39, 40, 41, 42, 43, 44, 45, 46, 47, 54, 55, 56, 57, 52, 53] (by decide +kernel) (by decide +kernel)
set_option maxRecDepth 20000 in
theorem gX4_outcome_X4_byBooks : GoodIn wsX4_outcome (wsV RX4 95 RX4 yX4_byBooks wsX4_byBooks) := goodIn_app (goodIn_of _ (by decide +kernel)) ggX4_outcome_X4_byBooks
theorem dX4_outcome_0 : decode cX4_outcome 0 = .ok (.iload_n 1, 1) := by decide +kernel
theorem dX4_outcome_1 : decode cX4_outcome 1 = .ok (.istore_n 2, 1) := by decide +kernel
theorem dX4_outcome_2 : decode cX4_outcome 2 = .ok (.iconst 0, 1) := by decide +kernel
theorem dX4_outcome_3 : decode cX4_outcome 3 = .ok (.istore_n 3, 1) := by decide +kernel
theorem dX4_outcome_4 : decode cX4_outcome 4 = .ok (.iload_n 3, 1) := by decide +kernel
theorem dX4_outcome_5 : decode cX4_outcome 5 = .ok (.iconst 4, 1) := by decide +kernel
theorem dX4_outcome_6 : decode cX4_outcome 6 = .ok (.if_icmp .ge 58, 3) := by decide +kernel
theorem dX4_outcome_9 : decode cX4_outcome 9 = .ok (.aload_n 0, 1) := by decide +kernel
theorem dX4_outcome_10 : decode cX4_outcome 10 = .ok (.getfield 36, 3) := by decide +kernel
theorem dX4_outcome_13 : decode cX4_outcome 13 = .ok (.iload_n 2, 1) := by decide +kernel
theorem dX4_outcome_14 : decode cX4_outcome 14 = .ok (.aload_n 0, 1) := by decide +kernel
theorem dX4_outcome_15 : decode cX4_outcome 15 = .ok (.getfield 67, 3) := by decide +kernel
theorem dX4_outcome_18 : decode cX4_outcome 18 = .ok (.aload_n 0, 1) := by decide +kernel
theorem dX4_outcome_19 : decode cX4_outcome 19 = .ok (.getfield 9, 3) := by decide +kernel
theorem dX4_outcome_22 : decode cX4_outcome 22 = .ok (.invokevirtual 85, 3) := by decide +kernel
theorem dX4_outcome_25 : decode cX4_outcome 25 = .ok (.istore 4, 2) := by decide +kernel
theorem dX4_outcome_27 : decode cX4_outcome 27 = .ok (.iload 4, 2) := by decide +kernel
theorem dX4_outcome_29 : decode cX4_outcome 29 = .ok (.iconst (-1), 1) := by decide +kernel
theorem dX4_outcome_30 : decode cX4_outcome 30 = .ok (.if_icmp .eq 6, 3) := by decide +kernel
theorem dX4_outcome_33 : decode cX4_outcome 33 = .ok (.iload 4, 2) := by decide +kernel
theorem dX4_outcome_35 : decode cX4_outcome 35 = .ok (.ireturn, 1) := by decide +kernel
theorem dX4_outcome_36 : decode cX4_outcome 36 = .ok (.aload_n 0, 1) := by decide +kernel
theorem dX4_outcome_37 : decode cX4_outcome 37 = .ok (.iload_n 2, 1) := by decide +kernel
theorem dX4_outcome_38 : decode cX4_outcome 38 = .ok (.invokevirtual 91, 3) := by decide +kernel
theorem dX4_outcome_41 : decode cX4_outcome 41 = .ok (.iconst 3, 1) := by decide +kernel
theorem dX4_outcome_42 : decode cX4_outcome 42 = .ok (.if_icmp .eq 9, 3) := by decide +kernel
theorem dX4_outcome_45 : decode cX4_outcome 45 = .ok (.aload_n 0, 1) := by decide +kernel
theorem dX4_outcome_46 : decode cX4_outcome 46 = .ok (.iload_n 2, 1) := by decide +kernel
theorem dX4_outcome_47 : decode cX4_outcome 47 = .ok (.invokevirtual 95, 3) := by decide +kernel
theorem dX4_outcome_50 : decode cX4_outcome 50 = .ok (.ireturn, 1) := by decide +kernel
theorem dX4_outcome_51 : decode cX4_outcome 51 = .ok (.aload_n 0, 1) := by decide +kernel
theorem dX4_outcome_52 : decode cX4_outcome 52 = .ok (.getfield 18, 3) := by decide +kernel
theorem dX4_outcome_55 : decode cX4_outcome 55 = .ok (.iload_n 2, 1) := by decide +kernel
theorem dX4_outcome_56 : decode cX4_outcome 56 = .ok (.iaload, 1) := by decide +kernel
theorem dX4_outcome_57 : decode cX4_outcome 57 = .ok (.istore_n 2, 1) := by decide +kernel
theorem dX4_outcome_58 : decode cX4_outcome 58 = .ok (.iinc 3 1, 3) := by decide +kernel
theorem dX4_outcome_61 : decode cX4_outcome 61 = .ok (.goto (-57), 3) := by decide +kernel
theorem dX4_outcome_64 : decode cX4_outcome 64 = .ok (.bipush (-5), 2) := by decide +kernel
theorem dX4_outcome_66 : decode cX4_outcome 66 = .ok (.ireturn, 1) := by decide +kernel
theorem dX4_wayTaken_0 : decode cX4_wayTaken 0 = .ok (.aload_n 0, 1) := by decide +kernel
theorem dX4_wayTaken_1 : decode cX4_wayTaken 1 = .ok (.getfield 15, 3) := by decide +kernel
theorem dX4_wayTaken_4 : decode cX4_wayTaken 4 = .ok (.iload_n 1, 1) := by decide +kernel
theorem dX4_wayTaken_5 : decode cX4_wayTaken 5 = .ok (.iaload, 1) := by decide +kernel
theorem dX4_wayTaken_6 : decode cX4_wayTaken 6 = .ok (.iconst 1, 1) := by decide +kernel
theorem dX4_wayTaken_7 : decode cX4_wayTaken 7 = .ok (.if_icmp .ne 25, 3) := by decide +kernel
theorem dX4_wayTaken_10 : decode cX4_wayTaken 10 = .ok (.aload_n 0, 1) := by decide +kernel
theorem dX4_wayTaken_11 : decode cX4_wayTaken 11 = .ok (.getfield 18, 3) := by decide +kernel
theorem dX4_wayTaken_14 : decode cX4_wayTaken 14 = .ok (.iload_n 1, 1) := by decide +kernel
theorem dX4_wayTaken_15 : decode cX4_wayTaken 15 = .ok (.iaload, 1) := by decide +kernel
theorem dX4_wayTaken_16 : decode cX4_wayTaken 16 = .ok (.iload_n 1, 1) := by decide +kernel
theorem dX4_wayTaken_17 : decode cX4_wayTaken 17 = .ok (.if_icmp .eq 15, 3) := by decide +kernel
theorem dX4_wayTaken_20 : decode cX4_wayTaken 20 = .ok (.aload_n 0, 1) := by decide +kernel
theorem dX4_wayTaken_21 : decode cX4_wayTaken 21 = .ok (.getfield 32, 3) := by decide +kernel
theorem dX4_wayTaken_24 : decode cX4_wayTaken 24 = .ok (.getfield 98, 3) := by decide +kernel
theorem dX4_wayTaken_27 : decode cX4_wayTaken 27 = .ok (.iload_n 1, 1) := by decide +kernel
theorem dX4_wayTaken_28 : decode cX4_wayTaken 28 = .ok (.iaload, 1) := by decide +kernel
theorem dX4_wayTaken_29 : decode cX4_wayTaken 29 = .ok (.goto 4, 3) := by decide +kernel
theorem dX4_wayTaken_32 : decode cX4_wayTaken 32 = .ok (.iconst 0, 1) := by decide +kernel
theorem dX4_wayTaken_33 : decode cX4_wayTaken 33 = .ok (.ireturn, 1) := by decide +kernel
set_option maxRecDepth 20000 in
theorem ggX4_byBooks_X4_wayTaken : GoodIn wsX4_byBooks wsX4_wayTaken := goodIn_r _ [8, 9, 1, 10, 11, 23, 24, 25, 26, 27, 28, 29, 30, 31, 36, 37] (by decide +kernel) (by decide +kernel)
set_option maxRecDepth 20000 in
theorem gX4_byBooks_X4_wayTaken : GoodIn wsX4_byBooks (wsV RX4 91 RX4 yX4_wayTaken wsX4_wayTaken) := goodIn_app (goodIn_of _ (by decide +kernel)) ggX4_byBooks_X4_wayTaken
set_option maxRecDepth 20000 in
theorem ggX4_byBooks_X3_follow : GoodIn wsX4_byBooks wsX3_follow := goodIn_r _ [16, 17, 18, 19, 20, 21, 22, 32, 33, 34, 35, 23, 24, 25, 26, 27, 28, 29, 30, 31] (by decide +kernel) (by decide +kernel)
set_option maxRecDepth 20000 in
theorem gX4_byBooks_X3_follow : GoodIn wsX4_byBooks (wsV RX4 101 RX3 yX3_follow wsX3_follow) := goodIn_app (goodIn_of _ (by decide +kernel)) ggX4_byBooks_X3_follow
theorem dX4_byBooks_0 : decode cX4_byBooks 0 = .ok (.aload_n 0, 1) := by decide +kernel
theorem dX4_byBooks_1 : decode cX4_byBooks 1 = .ok (.iload_n 1, 1) := by decide +kernel
theorem dX4_byBooks_2 : decode cX4_byBooks 2 = .ok (.invokevirtual 91, 3) := by decide +kernel
theorem dX4_byBooks_5 : decode cX4_byBooks 5 = .ok (.istore_n 2, 1) := by decide +kernel
theorem dX4_byBooks_6 : decode cX4_byBooks 6 = .ok (.iload_n 2, 1) := by decide +kernel
theorem dX4_byBooks_7 : decode cX4_byBooks 7 = .ok (.iconst 1, 1) := by decide +kernel
theorem dX4_byBooks_8 : decode cX4_byBooks 8 = .ok (.if_icmp .ne 15, 3) := by decide +kernel
theorem dX4_byBooks_11 : decode cX4_byBooks 11 = .ok (.aload_n 0, 1) := by decide +kernel
theorem dX4_byBooks_12 : decode cX4_byBooks 12 = .ok (.getfield 18, 3) := by decide +kernel
theorem dX4_byBooks_15 : decode cX4_byBooks 15 = .ok (.aload_n 0, 1) := by decide +kernel
theorem dX4_byBooks_16 : decode cX4_byBooks 16 = .ok (.getfield 18, 3) := by decide +kernel
theorem dX4_byBooks_19 : decode cX4_byBooks 19 = .ok (.iload_n 1, 1) := by decide +kernel
theorem dX4_byBooks_20 : decode cX4_byBooks 20 = .ok (.iaload, 1) := by decide +kernel
theorem dX4_byBooks_21 : decode cX4_byBooks 21 = .ok (.iaload, 1) := by decide +kernel
theorem dX4_byBooks_22 : decode cX4_byBooks 22 = .ok (.ireturn, 1) := by decide +kernel
theorem dX4_byBooks_23 : decode cX4_byBooks 23 = .ok (.iload_n 2, 1) := by decide +kernel
theorem dX4_byBooks_24 : decode cX4_byBooks 24 = .ok (.iconst 2, 1) := by decide +kernel
theorem dX4_byBooks_25 : decode cX4_byBooks 25 = .ok (.if_icmp .ne 20, 3) := by decide +kernel
theorem dX4_byBooks_28 : decode cX4_byBooks 28 = .ok (.aload_n 0, 1) := by decide +kernel
theorem dX4_byBooks_29 : decode cX4_byBooks 29 = .ok (.getfield 24, 3) := by decide +kernel
theorem dX4_byBooks_32 : decode cX4_byBooks 32 = .ok (.aload_n 0, 1) := by decide +kernel
theorem dX4_byBooks_33 : decode cX4_byBooks 33 = .ok (.iload_n 1, 1) := by decide +kernel
theorem dX4_byBooks_34 : decode cX4_byBooks 34 = .ok (.invokevirtual 101, 3) := by decide +kernel
theorem dX4_byBooks_37 : decode cX4_byBooks 37 = .ok (.aload_n 0, 1) := by decide +kernel
theorem dX4_byBooks_38 : decode cX4_byBooks 38 = .ok (.getfield 24, 3) := by decide +kernel
theorem dX4_byBooks_41 : decode cX4_byBooks 41 = .ok (.getfield 105, 3) := by decide +kernel
theorem dX4_byBooks_44 : decode cX4_byBooks 44 = .ok (.ireturn, 1) := by decide +kernel
theorem dX4_byBooks_45 : decode cX4_byBooks 45 = .ok (.aload_n 0, 1) := by decide +kernel
theorem dX4_byBooks_46 : decode cX4_byBooks 46 = .ok (.getfield 18, 3) := by decide +kernel
theorem dX4_byBooks_49 : decode cX4_byBooks 49 = .ok (.iload_n 1, 1) := by decide +kernel
theorem dX4_byBooks_50 : decode cX4_byBooks 50 = .ok (.iaload, 1) := by decide +kernel
theorem dX4_byBooks_51 : decode cX4_byBooks 51 = .ok (.ireturn, 1) := by decide +kernel
set_option maxRecDepth 20000 in
theorem ggX4_allAlike_X4_outcome : GoodIn wsX4_allAlike wsX4_outcome := goodIn_r _ [5, 6, 7, 8, 9, 10, 11, 12, 13, 14, 15, 16, 17, 18, 19, 20, 21, 4, 22, 23, 24, 25, 26, 27, 28, 29, 30, 31, 32, 33, 34, 35, 36, 37, 38, 39, 40, 41, 42, 43, 44, 45, 46, 47, 48, 49, 50, 51, 52, 53, 54, 55, 56, 57, 58, 59, 60, 61] (by decide +kernel) (by decide +kernel)
set_option maxRecDepth 20000 in
theorem gX4_allAlike_X4_outcome : GoodIn wsX4_allAlike (wsV RX4 108 RX4 yX4_outcome wsX4_outcome) := goodIn_app (goodIn_of _ (by decide +kernel)) ggX4_allAlike_X4_outcome
theorem dX4_allAlike_0 : decode cX4_allAlike 0 = .ok (.aload_n 0, 1) := by decide +kernel
theorem dX4_allAlike_1 : decode cX4_allAlike 1 = .ok (.iconst 0, 1) := by decide +kernel
theorem dX4_allAlike_2 : decode cX4_allAlike 2 = .ok (.invokevirtual 108, 3) := by decide +kernel
theorem dX4_allAlike_5 : decode cX4_allAlike 5 = .ok (.istore_n 1, 1) := by decide +kernel
theorem dX4_allAlike_6 : decode cX4_allAlike 6 = .ok (.iconst 1, 1) := by decide +kernel
theorem dX4_allAlike_7 : decode cX4_allAlike 7 = .ok (.istore_n 2, 1) := by decide +kernel
theorem dX4_allAlike_8 : decode cX4_allAlike 8 = .ok (.iload_n 2, 1) := by decide +kernel
theorem dX4_allAlike_9 : decode cX4_allAlike 9 = .ok (.iconst 4, 1) := by decide +kernel
theorem dX4_allAlike_10 : decode cX4_allAlike 10 = .ok (.if_icmp .ge 20, 3) := by decide +kernel
theorem dX4_allAlike_13 : decode cX4_allAlike 13 = .ok (.aload_n 0, 1) := by decide +kernel
theorem dX4_allAlike_14 : decode cX4_allAlike 14 = .ok (.iload_n 2, 1) := by decide +kernel
theorem dX4_allAlike_15 : decode cX4_allAlike 15 = .ok (.invokevirtual 108, 3) := by decide +kernel
theorem dX4_allAlike_18 : decode cX4_allAlike 18 = .ok (.iload_n 1, 1) := by decide +kernel
theorem dX4_allAlike_19 : decode cX4_allAlike 19 = .ok (.if_icmp .eq 5, 3) := by decide +kernel
theorem dX4_allAlike_22 : decode cX4_allAlike 22 = .ok (.iconst 0, 1) := by decide +kernel
theorem dX4_allAlike_23 : decode cX4_allAlike 23 = .ok (.ireturn, 1) := by decide +kernel
theorem dX4_allAlike_24 : decode cX4_allAlike 24 = .ok (.iinc 2 1, 3) := by decide +kernel
theorem dX4_allAlike_27 : decode cX4_allAlike 27 = .ok (.goto (-19), 3) := by decide +kernel
theorem dX4_allAlike_30 : decode cX4_allAlike 30 = .ok (.iconst 1, 1) := by decide +kernel
theorem dX4_allAlike_31 : decode cX4_allAlike 31 = .ok (.ireturn, 1) := by decide +kernel
theorem dX5_init_0 : decode cX5_init 0 = .ok (.aload_n 0, 1) := by decide +kernel
theorem dX5_init_1 : decode cX5_init 1 = .ok (.invokespecial 3, 3) := by decide +kernel
theorem dX5_init_4 : decode cX5_init 4 = .ok (.aload_n 0, 1) := by decide +kernel
theorem dX5_init_5 : decode cX5_init 5 = .ok (.bipush 12, 2) := by decide +kernel
theorem dX5_init_7 : decode cX5_init 7 = .ok (.newarray .int, 2) := by decide +kernel
theorem dX5_init_9 : decode cX5_init 9 = .ok (.putfield 9, 3) := by decide +kernel
theorem dX5_init_12 : decode cX5_init 12 = .ok (.aload_n 0, 1) := by decide +kernel
theorem dX5_init_13 : decode cX5_init 13 = .ok (.iconst 4, 1) := by decide +kernel
theorem dX5_init_14 : decode cX5_init 14 = .ok (.newarray .int, 2) := by decide +kernel
theorem dX5_init_16 : decode cX5_init 16 = .ok (.putfield 15, 3) := by decide +kernel
theorem dX5_init_19 : decode cX5_init 19 = .ok (.iconst 0, 1) := by decide +kernel
theorem dX5_init_20 : decode cX5_init 20 = .ok (.istore_n 1, 1) := by decide +kernel
theorem dX5_init_21 : decode cX5_init 21 = .ok (.iload_n 1, 1) := by decide +kernel
theorem dX5_init_22 : decode cX5_init 22 = .ok (.bipush 12, 2) := by decide +kernel
theorem dX5_init_24 : decode cX5_init 24 = .ok (.if_icmp .ge 18, 3) := by decide +kernel
theorem dX5_init_27 : decode cX5_init 27 = .ok (.aload_n 0, 1) := by decide +kernel
theorem dX5_init_28 : decode cX5_init 28 = .ok (.getfield 9, 3) := by decide +kernel
theorem dX5_init_31 : decode cX5_init 31 = .ok (.iload_n 1, 1) := by decide +kernel
theorem dX5_init_32 : decode cX5_init 32 = .ok (.iload_n 1, 1) := by decide +kernel
theorem dX5_init_33 : decode cX5_init 33 = .ok (.iconst 3, 1) := by decide +kernel
theorem dX5_init_34 : decode cX5_init 34 = .ok (.irem, 1) := by decide +kernel
theorem dX5_init_35 : decode cX5_init 35 = .ok (.iastore, 1) := by decide +kernel
theorem dX5_init_36 : decode cX5_init 36 = .ok (.iinc 1 1, 3) := by decide +kernel
theorem dX5_init_39 : decode cX5_init 39 = .ok (.goto (-18), 3) := by decide +kernel
theorem dX5_init_42 : decode cX5_init 42 = .ok (.return_, 1) := by decide +kernel
theorem dX5_ownKind_0 : decode cX5_ownKind 0 = .ok (.aload_n 0, 1) := by decide +kernel
theorem dX5_ownKind_1 : decode cX5_ownKind 1 = .ok (.getfield 9, 3) := by decide +kernel
theorem dX5_ownKind_4 : decode cX5_ownKind 4 = .ok (.iload_n 1, 1) := by decide +kernel
theorem dX5_ownKind_5 : decode cX5_ownKind 5 = .ok (.iconst 3, 1) := by decide +kernel
theorem dX5_ownKind_6 : decode cX5_ownKind 6 = .ok (.imul, 1) := by decide +kernel
theorem dX5_ownKind_7 : decode cX5_ownKind 7 = .ok (.iload_n 2, 1) := by decide +kernel
theorem dX5_ownKind_8 : decode cX5_ownKind 8 = .ok (.iadd, 1) := by decide +kernel
theorem dX5_ownKind_9 : decode cX5_ownKind 9 = .ok (.iaload, 1) := by decide +kernel
theorem dX5_ownKind_10 : decode cX5_ownKind 10 = .ok (.ireturn, 1) := by decide +kernel
set_option maxRecDepth 20000 in
theorem ggX5_kindsSorted_X5_ownKind : GoodIn wsX5_kindsSorted wsX5_ownKind := goodIn_r _ [5, 6, 7, 8] (by decide +kernel) (by decide +kernel)
set_option maxRecDepth 20000 in
theorem gX5_kindsSorted_X5_ownKind : GoodIn wsX5_kindsSorted (wsV RX5 18 RX5 yX5_ownKind wsX5_ownKind) := goodIn_app (goodIn_of _ (by decide +kernel)) ggX5_kindsSorted_X5_ownKind
theorem dX5_kindsSorted_0 : decode cX5_kindsSorted 0 = .ok (.iconst 0, 1) := by decide +kernel
theorem dX5_kindsSorted_1 : decode cX5_kindsSorted 1 = .ok (.istore_n 2, 1) := by decide +kernel
theorem dX5_kindsSorted_2 : decode cX5_kindsSorted 2 = .ok (.iconst 0, 1) := by decide +kernel
theorem dX5_kindsSorted_3 : decode cX5_kindsSorted 3 = .ok (.istore_n 3, 1) := by decide +kernel
theorem dX5_kindsSorted_4 : decode cX5_kindsSorted 4 = .ok (.iload_n 3, 1) := by decide +kernel
theorem dX5_kindsSorted_5 : decode cX5_kindsSorted 5 = .ok (.iconst 3, 1) := by decide +kernel
theorem dX5_kindsSorted_6 : decode cX5_kindsSorted 6 = .ok (.if_icmp .ge 20, 3) := by decide +kernel
theorem dX5_kindsSorted_9 : decode cX5_kindsSorted 9 = .ok (.iload_n 2, 1) := by decide +kernel
theorem dX5_kindsSorted_10 : decode cX5_kindsSorted 10 = .ok (.iconst 1, 1) := by decide +kernel
theorem dX5_kindsSorted_11 : decode cX5_kindsSorted 11 = .ok (.aload_n 0, 1) := by decide +kernel
theorem dX5_kindsSorted_12 : decode cX5_kindsSorted 12 = .ok (.iload_n 1, 1) := by decide +kernel
theorem dX5_kindsSorted_13 : decode cX5_kindsSorted 13 = .ok (.iload_n 3, 1) := by decide +kernel
theorem dX5_kindsSorted_14 : decode cX5_kindsSorted 14 = .ok (.invokevirtual 18, 3) := by decide +kernel
theorem dX5_kindsSorted_17 : decode cX5_kindsSorted 17 = .ok (.ishl, 1) := by decide +kernel
theorem dX5_kindsSorted_18 : decode cX5_kindsSorted 18 = .ok (.ior, 1) := by decide +kernel
theorem dX5_kindsSorted_19 : decode cX5_kindsSorted 19 = .ok (.istore_n 2, 1) := by decide +kernel
theorem dX5_kindsSorted_20 : decode cX5_kindsSorted 20 = .ok (.iinc 3 1, 3) := by decide +kernel
theorem dX5_kindsSorted_23 : decode cX5_kindsSorted 23 = .ok (.goto (-19), 3) := by decide +kernel
theorem dX5_kindsSorted_26 : decode cX5_kindsSorted 26 = .ok (.iload_n 2, 1) := by decide +kernel
theorem dX5_kindsSorted_27 : decode cX5_kindsSorted 27 = .ok (.ireturn, 1) := by decide +kernel
theorem dX6_init_0 : decode cX6_init 0 = .ok (.aload_n 0, 1) := by decide +kernel
theorem dX6_init_1 : decode cX6_init 1 = .ok (.invokespecial 3, 3) := by decide +kernel
theorem dX6_init_4 : decode cX6_init 4 = .ok (.aload_n 0, 1) := by decide +kernel
theorem dX6_init_5 : decode cX6_init 5 = .ok (.bipush 60, 2) := by decide +kernel
theorem dX6_init_7 : decode cX6_init 7 = .ok (.newarray .int, 2) := by decide +kernel
theorem dX6_init_9 : decode cX6_init 9 = .ok (.putfield 9, 3) := by decide +kernel
theorem dX6_init_12 : decode cX6_init 12 = .ok (.aload_n 0, 1) := by decide +kernel
theorem dX6_init_13 : decode cX6_init 13 = .ok (.bipush 60, 2) := by decide +kernel
theorem dX6_init_15 : decode cX6_init 15 = .ok (.newarray .int, 2) := by decide +kernel
theorem dX6_init_17 : decode cX6_init 17 = .ok (.putfield 15, 3) := by decide +kernel
theorem dX6_init_20 : decode cX6_init 20 = .ok (.aload_n 0, 1) := by decide +kernel
theorem dX6_init_21 : decode cX6_init 21 = .ok (.bipush 60, 2) := by decide +kernel
theorem dX6_init_23 : decode cX6_init 23 = .ok (.newarray .int, 2) := by decide +kernel
theorem dX6_init_25 : decode cX6_init 25 = .ok (.putfield 18, 3) := by decide +kernel
theorem dX6_init_28 : decode cX6_init 28 = .ok (.aload_n 0, 1) := by decide +kernel
theorem dX6_init_29 : decode cX6_init 29 = .ok (.bipush 60, 2) := by decide +kernel
theorem dX6_init_31 : decode cX6_init 31 = .ok (.newarray .int, 2) := by decide +kernel
theorem dX6_init_33 : decode cX6_init 33 = .ok (.putfield 21, 3) := by decide +kernel
theorem dX6_init_36 : decode cX6_init 36 = .ok (.aload_n 0, 1) := by decide +kernel
theorem dX6_init_37 : decode cX6_init 37 = .ok (.bipush 60, 2) := by decide +kernel
theorem dX6_init_39 : decode cX6_init 39 = .ok (.newarray .int, 2) := by decide +kernel
theorem dX6_init_41 : decode cX6_init 41 = .ok (.putfield 24, 3) := by decide +kernel
theorem dX6_init_44 : decode cX6_init 44 = .ok (.aload_n 0, 1) := by decide +kernel
theorem dX6_init_45 : decode cX6_init 45 = .ok (.bipush 60, 2) := by decide +kernel
theorem dX6_init_47 : decode cX6_init 47 = .ok (.newarray .int, 2) := by decide +kernel
theorem dX6_init_49 : decode cX6_init 49 = .ok (.putfield 27, 3) := by decide +kernel
theorem dX6_init_52 : decode cX6_init 52 = .ok (.aload_n 0, 1) := by decide +kernel
theorem dX6_init_53 : decode cX6_init 53 = .ok (.bipush 60, 2) := by decide +kernel
theorem dX6_init_55 : decode cX6_init 55 = .ok (.newarray .int, 2) := by decide +kernel
theorem dX6_init_57 : decode cX6_init 57 = .ok (.putfield 30, 3) := by decide +kernel
theorem dX6_init_60 : decode cX6_init 60 = .ok (.aload_n 0, 1) := by decide +kernel
theorem dX6_init_61 : decode cX6_init 61 = .ok (.bipush 120, 2) := by decide +kernel
theorem dX6_init_63 : decode cX6_init 63 = .ok (.newarray .int, 2) := by decide +kernel
theorem dX6_init_65 : decode cX6_init 65 = .ok (.putfield 33, 3) := by decide +kernel
theorem dX6_init_68 : decode cX6_init 68 = .ok (.aload_n 0, 1) := by decide +kernel
theorem dX6_init_69 : decode cX6_init 69 = .ok (.bipush 120, 2) := by decide +kernel
theorem dX6_init_71 : decode cX6_init 71 = .ok (.newarray .int, 2) := by decide +kernel
theorem dX6_init_73 : decode cX6_init 73 = .ok (.putfield 36, 3) := by decide +kernel
theorem dX6_init_76 : decode cX6_init 76 = .ok (.aload_n 0, 1) := by decide +kernel
theorem dX6_init_77 : decode cX6_init 77 = .ok (.bipush 12, 2) := by decide +kernel
theorem dX6_init_79 : decode cX6_init 79 = .ok (.newarray .long, 2) := by decide +kernel
theorem dX6_init_81 : decode cX6_init 81 = .ok (.putfield 39, 3) := by decide +kernel
theorem dX6_init_84 : decode cX6_init 84 = .ok (.aload_n 0, 1) := by decide +kernel
theorem dX6_init_85 : decode cX6_init 85 = .ok (.bipush 30, 2) := by decide +kernel
theorem dX6_init_87 : decode cX6_init 87 = .ok (.newarray .long, 2) := by decide +kernel
theorem dX6_init_89 : decode cX6_init 89 = .ok (.putfield 43, 3) := by decide +kernel
theorem dX6_init_92 : decode cX6_init 92 = .ok (.aload_n 0, 1) := by decide +kernel
theorem dX6_init_93 : decode cX6_init 93 = .ok (.bipush 36, 2) := by decide +kernel
theorem dX6_init_95 : decode cX6_init 95 = .ok (.newarray .long, 2) := by decide +kernel
theorem dX6_init_97 : decode cX6_init 97 = .ok (.putfield 46, 3) := by decide +kernel
theorem dX6_init_100 : decode cX6_init 100 = .ok (.return_, 1) := by decide +kernel
theorem dX6_add_0 : decode cX6_add 0 = .ok (.aload_n 0, 1) := by decide +kernel
theorem dX6_add_1 : decode cX6_add 1 = .ok (.getfield 49, 3) := by decide +kernel
theorem dX6_add_4 : decode cX6_add 4 = .ok (.istore 6, 2) := by decide +kernel
theorem dX6_add_6 : decode cX6_add 6 = .ok (.aload_n 0, 1) := by decide +kernel
theorem dX6_add_7 : decode cX6_add 7 = .ok (.getfield 9, 3) := by decide +kernel
theorem dX6_add_10 : decode cX6_add 10 = .ok (.iload 6, 2) := by decide +kernel
theorem dX6_add_12 : decode cX6_add 12 = .ok (.iload_n 1, 1) := by decide +kernel
theorem dX6_add_13 : decode cX6_add 13 = .ok (.iastore, 1) := by decide +kernel
theorem dX6_add_14 : decode cX6_add 14 = .ok (.aload_n 0, 1) := by decide +kernel
theorem dX6_add_15 : decode cX6_add 15 = .ok (.getfield 15, 3) := by decide +kernel
theorem dX6_add_18 : decode cX6_add 18 = .ok (.iload 6, 2) := by decide +kernel
theorem dX6_add_20 : decode cX6_add 20 = .ok (.iload_n 2, 1) := by decide +kernel
theorem dX6_add_21 : decode cX6_add 21 = .ok (.iastore, 1) := by decide +kernel
theorem dX6_add_22 : decode cX6_add 22 = .ok (.aload_n 0, 1) := by decide +kernel
theorem dX6_add_23 : decode cX6_add 23 = .ok (.getfield 18, 3) := by decide +kernel
theorem dX6_add_26 : decode cX6_add 26 = .ok (.iload 6, 2) := by decide +kernel
theorem dX6_add_28 : decode cX6_add 28 = .ok (.iload_n 3, 1) := by decide +kernel
theorem dX6_add_29 : decode cX6_add 29 = .ok (.iastore, 1) := by decide +kernel
theorem dX6_add_30 : decode cX6_add 30 = .ok (.aload_n 0, 1) := by decide +kernel
theorem dX6_add_31 : decode cX6_add 31 = .ok (.getfield 21, 3) := by decide +kernel
theorem dX6_add_34 : decode cX6_add 34 = .ok (.iload 6, 2) := by decide +kernel
theorem dX6_add_36 : decode cX6_add 36 = .ok (.iload 4, 2) := by decide +kernel
theorem dX6_add_38 : decode cX6_add 38 = .ok (.iastore, 1) := by decide +kernel
theorem dX6_add_39 : decode cX6_add 39 = .ok (.aload_n 0, 1) := by decide +kernel
theorem dX6_add_40 : decode cX6_add 40 = .ok (.getfield 24, 3) := by decide +kernel
theorem dX6_add_43 : decode cX6_add 43 = .ok (.iload 6, 2) := by decide +kernel
theorem dX6_add_45 : decode cX6_add 45 = .ok (.iload 5, 2) := by decide +kernel
theorem dX6_add_47 : decode cX6_add 47 = .ok (.iastore, 1) := by decide +kernel
theorem dX6_add_48 : decode cX6_add 48 = .ok (.aload_n 0, 1) := by decide +kernel
theorem dX6_add_49 : decode cX6_add 49 = .ok (.getfield 27, 3) := by decide +kernel
theorem dX6_add_52 : decode cX6_add 52 = .ok (.iload 6, 2) := by decide +kernel
theorem dX6_add_54 : decode cX6_add 54 = .ok (.iconst (-1), 1) := by decide +kernel
theorem dX6_add_55 : decode cX6_add 55 = .ok (.iastore, 1) := by decide +kernel
theorem dX6_add_56 : decode cX6_add 56 = .ok (.aload_n 0, 1) := by decide +kernel
theorem dX6_add_57 : decode cX6_add 57 = .ok (.getfield 39, 3) := by decide +kernel
theorem dX6_add_60 : decode cX6_add 60 = .ok (.iload_n 1, 1) := by decide +kernel
theorem dX6_add_61 : decode cX6_add 61 = .ok (.iconst 3, 1) := by decide +kernel
theorem dX6_add_62 : decode cX6_add 62 = .ok (.imul, 1) := by decide +kernel
theorem dX6_add_63 : decode cX6_add 63 = .ok (.iload_n 2, 1) := by decide +kernel
theorem dX6_add_64 : decode cX6_add 64 = .ok (.iadd, 1) := by decide +kernel
theorem dX6_add_65 : decode cX6_add 65 = .ok (.dup2, 1) := by decide +kernel
theorem dX6_add_66 : decode cX6_add 66 = .ok (.laload, 1) := by decide +kernel
theorem dX6_add_67 : decode cX6_add 67 = .ok (.lconst 1, 1) := by decide +kernel
theorem dX6_add_68 : decode cX6_add 68 = .ok (.iload 6, 2) := by decide +kernel
theorem dX6_add_70 : decode cX6_add 70 = .ok (.lshl, 1) := by decide +kernel
theorem dX6_add_71 : decode cX6_add 71 = .ok (.lor, 1) := by decide +kernel
theorem dX6_add_72 : decode cX6_add 72 = .ok (.lastore, 1) := by decide +kernel
theorem dX6_add_73 : decode cX6_add 73 = .ok (.iload 4, 2) := by decide +kernel
theorem dX6_add_75 : decode cX6_add 75 = .ok (.iconst 5, 1) := by decide +kernel
theorem dX6_add_76 : decode cX6_add 76 = .ok (.if_icmp .lt 21, 3) := by decide +kernel
theorem dX6_add_79 : decode cX6_add 79 = .ok (.aload_n 0, 1) := by decide +kernel
theorem dX6_add_80 : decode cX6_add 80 = .ok (.getfield 43, 3) := by decide +kernel
theorem dX6_add_83 : decode cX6_add 83 = .ok (.iload 4, 2) := by decide +kernel
theorem dX6_add_85 : decode cX6_add 85 = .ok (.iconst 5, 1) := by decide +kernel
theorem dX6_add_86 : decode cX6_add 86 = .ok (.isub, 1) := by decide +kernel
theorem dX6_add_87 : decode cX6_add 87 = .ok (.iconst 5, 1) := by decide +kernel
theorem dX6_add_88 : decode cX6_add 88 = .ok (.imul, 1) := by decide +kernel
theorem dX6_add_89 : decode cX6_add 89 = .ok (.dup2, 1) := by decide +kernel
theorem dX6_add_90 : decode cX6_add 90 = .ok (.laload, 1) := by decide +kernel
theorem dX6_add_91 : decode cX6_add 91 = .ok (.lconst 1, 1) := by decide +kernel
theorem dX6_add_92 : decode cX6_add 92 = .ok (.iload 6, 2) := by decide +kernel
theorem dX6_add_94 : decode cX6_add 94 = .ok (.lshl, 1) := by decide +kernel
theorem dX6_add_95 : decode cX6_add 95 = .ok (.lor, 1) := by decide +kernel
theorem dX6_add_96 : decode cX6_add 96 = .ok (.lastore, 1) := by decide +kernel
theorem dX6_add_97 : decode cX6_add 97 = .ok (.aload_n 0, 1) := by decide +kernel
theorem dX6_add_98 : decode cX6_add 98 = .ok (.dup, 1) := by decide +kernel
theorem dX6_add_99 : decode cX6_add 99 = .ok (.getfield 49, 3) := by decide +kernel
theorem dX6_add_102 : decode cX6_add 102 = .ok (.iconst 1, 1) := by decide +kernel
theorem dX6_add_103 : decode cX6_add 103 = .ok (.iadd, 1) := by decide +kernel
theorem dX6_add_104 : decode cX6_add 104 = .ok (.putfield 49, 3) := by decide +kernel
theorem dX6_add_107 : decode cX6_add 107 = .ok (.iload 6, 2) := by decide +kernel
theorem dX6_add_109 : decode cX6_add 109 = .ok (.ireturn, 1) := by decide +kernel
set_option maxRecDepth 20000 in
theorem ggX6_addTest_X6_fits : GoodIn wsX6_addTest wsX6_fits := goodIn_r _ [9] (by decide +kernel) (by decide +kernel)
set_option maxRecDepth 20000 in
theorem gX6_addTest_X6_fits : GoodIn wsX6_addTest (va_wsS RX6 53 yX6_fits wsX6_fits) := goodIn_app (goodIn_of _ (by decide +kernel)) ggX6_addTest_X6_fits
set_option maxRecDepth 20000 in
theorem ggX6_addTest_X6_pair : GoodIn wsX6_addTest wsX6_pair := goodIn_r _ [13, 14, 15, 16, 17, 18, 19, 20, 21, 22, 23, 24, 25, 26, 27, 28, 29, 30, 31, 32, 33, 34] (by decide +kernel) (by decide +kernel)
set_option maxRecDepth 20000 in
theorem gX6_addTest_X6_pair : GoodIn wsX6_addTest (wsV RX6 57 RX6 yX6_pair wsX6_pair) := goodIn_app (goodIn_of _ (by decide +kernel)) ggX6_addTest_X6_pair
theorem dX6_addTest_0 : decode cX6_addTest 0 = .ok (.iload_n 1, 1) := by decide +kernel
theorem dX6_addTest_1 : decode cX6_addTest 1 = .ok (.iconst 2, 1) := by decide +kernel
theorem dX6_addTest_2 : decode cX6_addTest 2 = .ok (.imul, 1) := by decide +kernel
theorem dX6_addTest_3 : decode cX6_addTest 3 = .ok (.aload_n 0, 1) := by decide +kernel
theorem dX6_addTest_4 : decode cX6_addTest 4 = .ok (.getfield 30, 3) := by decide +kernel
theorem dX6_addTest_7 : decode cX6_addTest 7 = .ok (.iload_n 1, 1) := by decide +kernel
theorem dX6_addTest_8 : decode cX6_addTest 8 = .ok (.iaload, 1) := by decide +kernel
theorem dX6_addTest_9 : decode cX6_addTest 9 = .ok (.iadd, 1) := by decide +kernel
theorem dX6_addTest_10 : decode cX6_addTest 10 = .ok (.istore 4, 2) := by decide +kernel
theorem dX6_addTest_12 : decode cX6_addTest 12 = .ok (.aload_n 0, 1) := by decide +kernel
theorem dX6_addTest_13 : decode cX6_addTest 13 = .ok (.getfield 33, 3) := by decide +kernel
theorem dX6_addTest_16 : decode cX6_addTest 16 = .ok (.iload 4, 2) := by decide +kernel
theorem dX6_addTest_18 : decode cX6_addTest 18 = .ok (.iload_n 2, 1) := by decide +kernel
theorem dX6_addTest_19 : decode cX6_addTest 19 = .ok (.iastore, 1) := by decide +kernel
theorem dX6_addTest_20 : decode cX6_addTest 20 = .ok (.aload_n 0, 1) := by decide +kernel
theorem dX6_addTest_21 : decode cX6_addTest 21 = .ok (.getfield 36, 3) := by decide +kernel
theorem dX6_addTest_24 : decode cX6_addTest 24 = .ok (.iload 4, 2) := by decide +kernel
theorem dX6_addTest_26 : decode cX6_addTest 26 = .ok (.iload_n 3, 1) := by decide +kernel
theorem dX6_addTest_27 : decode cX6_addTest 27 = .ok (.iastore, 1) := by decide +kernel
theorem dX6_addTest_28 : decode cX6_addTest 28 = .ok (.iconst (-1), 1) := by decide +kernel
theorem dX6_addTest_29 : decode cX6_addTest 29 = .ok (.istore 5, 2) := by decide +kernel
theorem dX6_addTest_31 : decode cX6_addTest 31 = .ok (.iload 5, 2) := by decide +kernel
theorem dX6_addTest_33 : decode cX6_addTest 33 = .ok (.iconst 4, 1) := by decide +kernel
theorem dX6_addTest_34 : decode cX6_addTest 34 = .ok (.if_icmp .ge 43, 3) := by decide +kernel
theorem dX6_addTest_37 : decode cX6_addTest 37 = .ok (.iload_n 3, 1) := by decide +kernel
theorem dX6_addTest_38 : decode cX6_addTest 38 = .ok (.iload 5, 2) := by decide +kernel
theorem dX6_addTest_40 : decode cX6_addTest 40 = .ok (.aload_n 0, 1) := by decide +kernel
theorem dX6_addTest_41 : decode cX6_addTest 41 = .ok (.getfield 9, 3) := by decide +kernel
theorem dX6_addTest_44 : decode cX6_addTest 44 = .ok (.iload_n 1, 1) := by decide +kernel
theorem dX6_addTest_45 : decode cX6_addTest 45 = .ok (.iaload, 1) := by decide +kernel
theorem dX6_addTest_46 : decode cX6_addTest 46 = .ok (.invokestatic 53, 3) := by decide +kernel
theorem dX6_addTest_49 : decode cX6_addTest 49 = .ok (.ifCond .ne 22, 3) := by decide +kernel
theorem dX6_addTest_52 : decode cX6_addTest 52 = .ok (.aload_n 0, 1) := by decide +kernel
theorem dX6_addTest_53 : decode cX6_addTest 53 = .ok (.getfield 43, 3) := by decide +kernel
theorem dX6_addTest_56 : decode cX6_addTest 56 = .ok (.iload_n 2, 1) := by decide +kernel
theorem dX6_addTest_57 : decode cX6_addTest 57 = .ok (.iconst 5, 1) := by decide +kernel
theorem dX6_addTest_58 : decode cX6_addTest 58 = .ok (.imul, 1) := by decide +kernel
theorem dX6_addTest_59 : decode cX6_addTest 59 = .ok (.iload 5, 2) := by decide +kernel
theorem dX6_addTest_61 : decode cX6_addTest 61 = .ok (.iadd, 1) := by decide +kernel
theorem dX6_addTest_62 : decode cX6_addTest 62 = .ok (.iconst 1, 1) := by decide +kernel
theorem dX6_addTest_63 : decode cX6_addTest 63 = .ok (.iadd, 1) := by decide +kernel
theorem dX6_addTest_64 : decode cX6_addTest 64 = .ok (.dup2, 1) := by decide +kernel
theorem dX6_addTest_65 : decode cX6_addTest 65 = .ok (.laload, 1) := by decide +kernel
theorem dX6_addTest_66 : decode cX6_addTest 66 = .ok (.lconst 1, 1) := by decide +kernel
theorem dX6_addTest_67 : decode cX6_addTest 67 = .ok (.iload_n 1, 1) := by decide +kernel
theorem dX6_addTest_68 : decode cX6_addTest 68 = .ok (.lshl, 1) := by decide +kernel
theorem dX6_addTest_69 : decode cX6_addTest 69 = .ok (.lor, 1) := by decide +kernel
theorem dX6_addTest_70 : decode cX6_addTest 70 = .ok (.lastore, 1) := by decide +kernel
theorem dX6_addTest_71 : decode cX6_addTest 71 = .ok (.iinc 5 1, 3) := by decide +kernel
theorem dX6_addTest_74 : decode cX6_addTest 74 = .ok (.goto (-43), 3) := by decide +kernel
theorem dX6_addTest_77 : decode cX6_addTest 77 = .ok (.iload_n 3, 1) := by decide +kernel
theorem dX6_addTest_78 : decode cX6_addTest 78 = .ok (.bipush 8, 2) := by decide +kernel
theorem dX6_addTest_80 : decode cX6_addTest 80 = .ok (.if_icmp .lt 13, 3) := by decide +kernel
theorem dX6_addTest_83 : decode cX6_addTest 83 = .ok (.aload_n 0, 1) := by decide +kernel
theorem dX6_addTest_84 : decode cX6_addTest 84 = .ok (.iload_n 1, 1) := by decide +kernel
theorem dX6_addTest_85 : decode cX6_addTest 85 = .ok (.iload_n 2, 1) := by decide +kernel
theorem dX6_addTest_86 : decode cX6_addTest 86 = .ok (.iload_n 3, 1) := by decide +kernel
theorem dX6_addTest_87 : decode cX6_addTest 87 = .ok (.bipush 8, 2) := by decide +kernel
theorem dX6_addTest_89 : decode cX6_addTest 89 = .ok (.isub, 1) := by decide +kernel
theorem dX6_addTest_90 : decode cX6_addTest 90 = .ok (.invokevirtual 57, 3) := by decide +kernel
theorem dX6_addTest_93 : decode cX6_addTest 93 = .ok (.aload_n 0, 1) := by decide +kernel
theorem dX6_addTest_94 : decode cX6_addTest 94 = .ok (.getfield 30, 3) := by decide +kernel
theorem dX6_addTest_97 : decode cX6_addTest 97 = .ok (.iload_n 1, 1) := by decide +kernel
theorem dX6_addTest_98 : decode cX6_addTest 98 = .ok (.dup2, 1) := by decide +kernel
theorem dX6_addTest_99 : decode cX6_addTest 99 = .ok (.iaload, 1) := by decide +kernel
theorem dX6_addTest_100 : decode cX6_addTest 100 = .ok (.iconst 1, 1) := by decide +kernel
theorem dX6_addTest_101 : decode cX6_addTest 101 = .ok (.iadd, 1) := by decide +kernel
theorem dX6_addTest_102 : decode cX6_addTest 102 = .ok (.iastore, 1) := by decide +kernel
theorem dX6_addTest_103 : decode cX6_addTest 103 = .ok (.aload_n 0, 1) := by decide +kernel
theorem dX6_addTest_104 : decode cX6_addTest 104 = .ok (.getfield 30, 3) := by decide +kernel
theorem dX6_addTest_107 : decode cX6_addTest 107 = .ok (.iload_n 1, 1) := by decide +kernel
theorem dX6_addTest_108 : decode cX6_addTest 108 = .ok (.iaload, 1) := by decide +kernel
theorem dX6_addTest_109 : decode cX6_addTest 109 = .ok (.ireturn, 1) := by decide +kernel
theorem dX6_pair_0 : decode cX6_pair 0 = .ok (.aload_n 0, 1) := by decide +kernel
theorem dX6_pair_1 : decode cX6_pair 1 = .ok (.getfield 46, 3) := by decide +kernel
theorem dX6_pair_4 : decode cX6_pair 4 = .ok (.iload_n 2, 1) := by decide +kernel
theorem dX6_pair_5 : decode cX6_pair 5 = .ok (.iload_n 3, 1) := by decide +kernel
theorem dX6_pair_6 : decode cX6_pair 6 = .ok (.invokestatic 61, 3) := by decide +kernel
theorem dX6_pair_9 : decode cX6_pair 9 = .ok (.bipush 6, 2) := by decide +kernel
theorem dX6_pair_11 : decode cX6_pair 11 = .ok (.imul, 1) := by decide +kernel
theorem dX6_pair_12 : decode cX6_pair 12 = .ok (.iload_n 2, 1) := by decide +kernel
theorem dX6_pair_13 : decode cX6_pair 13 = .ok (.iload_n 3, 1) := by decide +kernel
theorem dX6_pair_14 : decode cX6_pair 14 = .ok (.invokestatic 67, 3) := by decide +kernel
theorem dX6_pair_17 : decode cX6_pair 17 = .ok (.iadd, 1) := by decide +kernel
theorem dX6_pair_18 : decode cX6_pair 18 = .ok (.dup2, 1) := by decide +kernel
theorem dX6_pair_19 : decode cX6_pair 19 = .ok (.laload, 1) := by decide +kernel
theorem dX6_pair_20 : decode cX6_pair 20 = .ok (.lconst 1, 1) := by decide +kernel
theorem dX6_pair_21 : decode cX6_pair 21 = .ok (.iload_n 1, 1) := by decide +kernel
theorem dX6_pair_22 : decode cX6_pair 22 = .ok (.lshl, 1) := by decide +kernel
theorem dX6_pair_23 : decode cX6_pair 23 = .ok (.lor, 1) := by decide +kernel
theorem dX6_pair_24 : decode cX6_pair 24 = .ok (.lastore, 1) := by decide +kernel
theorem dX6_pair_25 : decode cX6_pair 25 = .ok (.return_, 1) := by decide +kernel
theorem dX6_fits_0 : decode cX6_fits 0 = .ok (.iload_n 0, 1) := by decide +kernel
theorem dX6_fits_1 : decode cX6_fits 1 = .ok (.iconst 1, 1) := by decide +kernel
theorem dX6_fits_2 : decode cX6_fits 2 = .ok (.if_icmp .ne 14, 3) := by decide +kernel
theorem dX6_fits_5 : decode cX6_fits 5 = .ok (.iload_n 1, 1) := by decide +kernel
theorem dX6_fits_6 : decode cX6_fits 6 = .ok (.iconst (-1), 1) := by decide +kernel
theorem dX6_fits_7 : decode cX6_fits 7 = .ok (.if_icmp .ne 7, 3) := by decide +kernel
theorem dX6_fits_10 : decode cX6_fits 10 = .ok (.iconst 1, 1) := by decide +kernel
theorem dX6_fits_11 : decode cX6_fits 11 = .ok (.goto 4, 3) := by decide +kernel
theorem dX6_fits_14 : decode cX6_fits 14 = .ok (.iconst 0, 1) := by decide +kernel
theorem dX6_fits_15 : decode cX6_fits 15 = .ok (.ireturn, 1) := by decide +kernel
theorem dX6_fits_16 : decode cX6_fits 16 = .ok (.iload_n 0, 1) := by decide +kernel
theorem dX6_fits_17 : decode cX6_fits 17 = .ok (.ifCond .eq 9, 3) := by decide +kernel
theorem dX6_fits_20 : decode cX6_fits 20 = .ok (.iload_n 0, 1) := by decide +kernel
theorem dX6_fits_21 : decode cX6_fits 21 = .ok (.bipush 8, 2) := by decide +kernel
theorem dX6_fits_23 : decode cX6_fits 23 = .ok (.if_icmp .lt 14, 3) := by decide +kernel
theorem dX6_fits_26 : decode cX6_fits 26 = .ok (.iload_n 1, 1) := by decide +kernel
theorem dX6_fits_27 : decode cX6_fits 27 = .ok (.iconst (-1), 1) := by decide +kernel
theorem dX6_fits_28 : decode cX6_fits 28 = .ok (.if_icmp .eq 7, 3) := by decide +kernel
theorem dX6_fits_31 : decode cX6_fits 31 = .ok (.iconst 1, 1) := by decide +kernel
theorem dX6_fits_32 : decode cX6_fits 32 = .ok (.goto 4, 3) := by decide +kernel
theorem dX6_fits_35 : decode cX6_fits 35 = .ok (.iconst 0, 1) := by decide +kernel
theorem dX6_fits_36 : decode cX6_fits 36 = .ok (.ireturn, 1) := by decide +kernel
theorem dX6_fits_37 : decode cX6_fits 37 = .ok (.iload_n 0, 1) := by decide +kernel
theorem dX6_fits_38 : decode cX6_fits 38 = .ok (.iconst 2, 1) := by decide +kernel
theorem dX6_fits_39 : decode cX6_fits 39 = .ok (.if_icmp .ne 14, 3) := by decide +kernel
theorem dX6_fits_42 : decode cX6_fits 42 = .ok (.iload_n 1, 1) := by decide +kernel
theorem dX6_fits_43 : decode cX6_fits 43 = .ok (.iload_n 2, 1) := by decide +kernel
theorem dX6_fits_44 : decode cX6_fits 44 = .ok (.if_icmp .ne 7, 3) := by decide +kernel
theorem dX6_fits_47 : decode cX6_fits 47 = .ok (.iconst 1, 1) := by decide +kernel
theorem dX6_fits_48 : decode cX6_fits 48 = .ok (.goto 4, 3) := by decide +kernel
theorem dX6_fits_51 : decode cX6_fits 51 = .ok (.iconst 0, 1) := by decide +kernel
theorem dX6_fits_52 : decode cX6_fits 52 = .ok (.ireturn, 1) := by decide +kernel
theorem dX6_fits_53 : decode cX6_fits 53 = .ok (.iload_n 0, 1) := by decide +kernel
theorem dX6_fits_54 : decode cX6_fits 54 = .ok (.iconst 3, 1) := by decide +kernel
theorem dX6_fits_55 : decode cX6_fits 55 = .ok (.if_icmp .ne 19, 3) := by decide +kernel
theorem dX6_fits_58 : decode cX6_fits 58 = .ok (.iload_n 1, 1) := by decide +kernel
theorem dX6_fits_59 : decode cX6_fits 59 = .ok (.iconst (-1), 1) := by decide +kernel
theorem dX6_fits_60 : decode cX6_fits 60 = .ok (.if_icmp .eq 12, 3) := by decide +kernel
theorem dX6_fits_63 : decode cX6_fits 63 = .ok (.iload_n 1, 1) := by decide +kernel
theorem dX6_fits_64 : decode cX6_fits 64 = .ok (.iload_n 2, 1) := by decide +kernel
theorem dX6_fits_65 : decode cX6_fits 65 = .ok (.if_icmp .eq 7, 3) := by decide +kernel
theorem dX6_fits_68 : decode cX6_fits 68 = .ok (.iconst 1, 1) := by decide +kernel
theorem dX6_fits_69 : decode cX6_fits 69 = .ok (.goto 4, 3) := by decide +kernel
theorem dX6_fits_72 : decode cX6_fits 72 = .ok (.iconst 0, 1) := by decide +kernel
theorem dX6_fits_73 : decode cX6_fits 73 = .ok (.ireturn, 1) := by decide +kernel
theorem dX6_fits_74 : decode cX6_fits 74 = .ok (.iload_n 1, 1) := by decide +kernel
theorem dX6_fits_75 : decode cX6_fits 75 = .ok (.iload_n 0, 1) := by decide +kernel
theorem dX6_fits_76 : decode cX6_fits 76 = .ok (.iconst 4, 1) := by decide +kernel
theorem dX6_fits_77 : decode cX6_fits 77 = .ok (.isub, 1) := by decide +kernel
theorem dX6_fits_78 : decode cX6_fits 78 = .ok (.if_icmp .ne 7, 3) := by decide +kernel
theorem dX6_fits_81 : decode cX6_fits 81 = .ok (.iconst 1, 1) := by decide +kernel
theorem dX6_fits_82 : decode cX6_fits 82 = .ok (.goto 4, 3) := by decide +kernel
theorem dX6_fits_85 : decode cX6_fits 85 = .ok (.iconst 0, 1) := by decide +kernel
theorem dX6_fits_86 : decode cX6_fits 86 = .ok (.ireturn, 1) := by decide +kernel
theorem dX6_stands_0 : decode cX6_stands 0 = .ok (.aload_n 0, 1) := by decide +kernel
theorem dX6_stands_1 : decode cX6_stands 1 = .ok (.getfield 24, 3) := by decide +kernel
theorem dX6_stands_4 : decode cX6_stands 4 = .ok (.iload_n 1, 1) := by decide +kernel
theorem dX6_stands_5 : decode cX6_stands 5 = .ok (.iaload, 1) := by decide +kernel
theorem dX6_stands_6 : decode cX6_stands 6 = .ok (.iload_n 2, 1) := by decide +kernel
theorem dX6_stands_7 : decode cX6_stands 7 = .ok (.if_icmp .gt 27, 3) := by decide +kernel
theorem dX6_stands_10 : decode cX6_stands 10 = .ok (.aload_n 0, 1) := by decide +kernel
theorem dX6_stands_11 : decode cX6_stands 11 = .ok (.getfield 27, 3) := by decide +kernel
theorem dX6_stands_14 : decode cX6_stands 14 = .ok (.iload_n 1, 1) := by decide +kernel
theorem dX6_stands_15 : decode cX6_stands 15 = .ok (.iaload, 1) := by decide +kernel
theorem dX6_stands_16 : decode cX6_stands 16 = .ok (.iconst (-1), 1) := by decide +kernel
theorem dX6_stands_17 : decode cX6_stands 17 = .ok (.if_icmp .eq 13, 3) := by decide +kernel
theorem dX6_stands_20 : decode cX6_stands 20 = .ok (.iload_n 2, 1) := by decide +kernel
theorem dX6_stands_21 : decode cX6_stands 21 = .ok (.aload_n 0, 1) := by decide +kernel
theorem dX6_stands_22 : decode cX6_stands 22 = .ok (.getfield 27, 3) := by decide +kernel
theorem dX6_stands_25 : decode cX6_stands 25 = .ok (.iload_n 1, 1) := by decide +kernel
theorem dX6_stands_26 : decode cX6_stands 26 = .ok (.iaload, 1) := by decide +kernel
theorem dX6_stands_27 : decode cX6_stands 27 = .ok (.if_icmp .ge 7, 3) := by decide +kernel
theorem dX6_stands_30 : decode cX6_stands 30 = .ok (.iconst 1, 1) := by decide +kernel
theorem dX6_stands_31 : decode cX6_stands 31 = .ok (.goto 4, 3) := by decide +kernel
theorem dX6_stands_34 : decode cX6_stands 34 = .ok (.iconst 0, 1) := by decide +kernel
theorem dX6_stands_35 : decode cX6_stands 35 = .ok (.ireturn, 1) := by decide +kernel
set_option maxRecDepth 20000 in
theorem ggX6_standing_X6_stands : GoodIn wsX6_standing wsX6_stands := goodIn_r _ [6, 7, 8, 9, 10, 11, 12, 13, 14, 15, 16, 17, 18, 19, 20, 21] (by decide +kernel) (by decide +kernel)
set_option maxRecDepth 20000 in
theorem gX6_standing_X6_stands : GoodIn wsX6_standing (wsV RX6 70 RX6 yX6_stands wsX6_stands) := goodIn_app (goodIn_of _ (by decide +kernel)) ggX6_standing_X6_stands
theorem dX6_standing_0 : decode cX6_standing 0 = .ok (.lconst 0, 1) := by decide +kernel
theorem dX6_standing_1 : decode cX6_standing 1 = .ok (.lstore_n 2, 1) := by decide +kernel
theorem dX6_standing_2 : decode cX6_standing 2 = .ok (.iconst 0, 1) := by decide +kernel
theorem dX6_standing_3 : decode cX6_standing 3 = .ok (.istore 4, 2) := by decide +kernel
theorem dX6_standing_5 : decode cX6_standing 5 = .ok (.iload 4, 2) := by decide +kernel
theorem dX6_standing_7 : decode cX6_standing 7 = .ok (.aload_n 0, 1) := by decide +kernel
theorem dX6_standing_8 : decode cX6_standing 8 = .ok (.getfield 49, 3) := by decide +kernel
theorem dX6_standing_11 : decode cX6_standing 11 = .ok (.if_icmp .ge 26, 3) := by decide +kernel
theorem dX6_standing_14 : decode cX6_standing 14 = .ok (.aload_n 0, 1) := by decide +kernel
theorem dX6_standing_15 : decode cX6_standing 15 = .ok (.iload 4, 2) := by decide +kernel
theorem dX6_standing_17 : decode cX6_standing 17 = .ok (.iload_n 1, 1) := by decide +kernel
theorem dX6_standing_18 : decode cX6_standing 18 = .ok (.invokevirtual 70, 3) := by decide +kernel
theorem dX6_standing_21 : decode cX6_standing 21 = .ok (.ifCond .eq 10, 3) := by decide +kernel
theorem dX6_standing_24 : decode cX6_standing 24 = .ok (.lload_n 2, 1) := by decide +kernel
theorem dX6_standing_25 : decode cX6_standing 25 = .ok (.lconst 1, 1) := by decide +kernel
theorem dX6_standing_26 : decode cX6_standing 26 = .ok (.iload 4, 2) := by decide +kernel
theorem dX6_standing_28 : decode cX6_standing 28 = .ok (.lshl, 1) := by decide +kernel
theorem dX6_standing_29 : decode cX6_standing 29 = .ok (.lor, 1) := by decide +kernel
theorem dX6_standing_30 : decode cX6_standing 30 = .ok (.lstore_n 2, 1) := by decide +kernel
theorem dX6_standing_31 : decode cX6_standing 31 = .ok (.iinc 4 1, 3) := by decide +kernel
theorem dX6_standing_34 : decode cX6_standing 34 = .ok (.goto (-29), 3) := by decide +kernel
theorem dX6_standing_37 : decode cX6_standing 37 = .ok (.lload_n 2, 1) := by decide +kernel
theorem dX6_standing_38 : decode cX6_standing 38 = .ok (.lreturn, 1) := by decide +kernel
theorem dX6_letBy_0 : decode cX6_letBy 0 = .ok (.aload_n 0, 1) := by decide +kernel
theorem dX6_letBy_1 : decode cX6_letBy 1 = .ok (.getfield 43, 3) := by decide +kernel
theorem dX6_letBy_4 : decode cX6_letBy 4 = .ok (.iload_n 2, 1) := by decide +kernel
theorem dX6_letBy_5 : decode cX6_letBy 5 = .ok (.iconst 5, 1) := by decide +kernel
theorem dX6_letBy_6 : decode cX6_letBy 6 = .ok (.imul, 1) := by decide +kernel
theorem dX6_letBy_7 : decode cX6_letBy 7 = .ok (.aload_n 1, 1) := by decide +kernel
theorem dX6_letBy_8 : decode cX6_letBy 8 = .ok (.iload_n 2, 1) := by decide +kernel
theorem dX6_letBy_9 : decode cX6_letBy 9 = .ok (.iaload, 1) := by decide +kernel
theorem dX6_letBy_10 : decode cX6_letBy 10 = .ok (.iadd, 1) := by decide +kernel
theorem dX6_letBy_11 : decode cX6_letBy 11 = .ok (.iconst 1, 1) := by decide +kernel
theorem dX6_letBy_12 : decode cX6_letBy 12 = .ok (.iadd, 1) := by decide +kernel
theorem dX6_letBy_13 : decode cX6_letBy 13 = .ok (.laload, 1) := by decide +kernel
theorem dX6_letBy_14 : decode cX6_letBy 14 = .ok (.ldc2_w 74, 3) := by decide +kernel
theorem dX6_letBy_17 : decode cX6_letBy 17 = .ok (.lxor, 1) := by decide +kernel
theorem dX6_letBy_18 : decode cX6_letBy 18 = .ok (.lstore_n 3, 1) := by decide +kernel
theorem dX6_letBy_19 : decode cX6_letBy 19 = .ok (.iload_n 2, 1) := by decide +kernel
theorem dX6_letBy_20 : decode cX6_letBy 20 = .ok (.iconst 1, 1) := by decide +kernel
theorem dX6_letBy_21 : decode cX6_letBy 21 = .ok (.iadd, 1) := by decide +kernel
theorem dX6_letBy_22 : decode cX6_letBy 22 = .ok (.istore 5, 2) := by decide +kernel
theorem dX6_letBy_24 : decode cX6_letBy 24 = .ok (.iload 5, 2) := by decide +kernel
theorem dX6_letBy_26 : decode cX6_letBy 26 = .ok (.bipush 6, 2) := by decide +kernel
theorem dX6_letBy_28 : decode cX6_letBy 28 = .ok (.if_icmp .ge 38, 3) := by decide +kernel
theorem dX6_letBy_31 : decode cX6_letBy 31 = .ok (.aload_n 1, 1) := by decide +kernel
theorem dX6_letBy_32 : decode cX6_letBy 32 = .ok (.iload 5, 2) := by decide +kernel
theorem dX6_letBy_34 : decode cX6_letBy 34 = .ok (.iaload, 1) := by decide +kernel
theorem dX6_letBy_35 : decode cX6_letBy 35 = .ok (.aload_n 1, 1) := by decide +kernel
theorem dX6_letBy_36 : decode cX6_letBy 36 = .ok (.iload_n 2, 1) := by decide +kernel
theorem dX6_letBy_37 : decode cX6_letBy 37 = .ok (.iaload, 1) := by decide +kernel
theorem dX6_letBy_38 : decode cX6_letBy 38 = .ok (.if_icmp .eq 22, 3) := by decide +kernel
theorem dX6_letBy_41 : decode cX6_letBy 41 = .ok (.lload_n 3, 1) := by decide +kernel
theorem dX6_letBy_42 : decode cX6_letBy 42 = .ok (.aload_n 0, 1) := by decide +kernel
theorem dX6_letBy_43 : decode cX6_letBy 43 = .ok (.getfield 46, 3) := by decide +kernel
theorem dX6_letBy_46 : decode cX6_letBy 46 = .ok (.iload_n 2, 1) := by decide +kernel
theorem dX6_letBy_47 : decode cX6_letBy 47 = .ok (.bipush 6, 2) := by decide +kernel
theorem dX6_letBy_49 : decode cX6_letBy 49 = .ok (.imul, 1) := by decide +kernel
theorem dX6_letBy_50 : decode cX6_letBy 50 = .ok (.iload 5, 2) := by decide +kernel
theorem dX6_letBy_52 : decode cX6_letBy 52 = .ok (.iadd, 1) := by decide +kernel
