theorem dX6_letBy_53 : decode cX6_letBy 53 = .ok (.laload, 1) := by decide +kernel
theorem dX6_letBy_54 : decode cX6_letBy 54 = .ok (.ldc2_w 74, 3) := by decide +kernel
theorem dX6_letBy_57 : decode cX6_letBy 57 = .ok (.lxor, 1) := by decide +kernel
theorem dX6_letBy_58 : decode cX6_letBy 58 = .ok (.land, 1) := by decide +kernel
theorem dX6_letBy_59 : decode cX6_letBy 59 = .ok (.lstore_n 3, 1) := by decide +kernel
theorem dX6_letBy_60 : decode cX6_letBy 60 = .ok (.iinc 5 1, 3) := by decide +kernel
theorem dX6_letBy_63 : decode cX6_letBy 63 = .ok (.goto (-39), 3) := by decide +kernel
theorem dX6_letBy_66 : decode cX6_letBy 66 = .ok (.lload_n 3, 1) := by decide +kernel
theorem dX6_letBy_67 : decode cX6_letBy 67 = .ok (.lreturn, 1) := by decide +kernel
set_option maxRecDepth 20000 in
theorem ggX6_first_J13_bitCount_95d88 : GoodIn wsX6_first wsJ13_bitCount_95d88 := goodIn_r _ [5, 6, 7, 8] (by decide +kernel) (by decide +kernel)
set_option maxRecDepth 20000 in
theorem gX6_first_J13_bitCount_95d88 : GoodIn wsX6_first (va_wsS RX6 76 yJ13_bitCount_95d88 wsJ13_bitCount_95d88) := goodIn_app (goodIn_of _ (by decide +kernel)) ggX6_first_J13_bitCount_95d88
theorem dX6_first_0 : decode cX6_first 0 = .ok (.lload_n 1, 1) := by decide +kernel
theorem dX6_first_1 : decode cX6_first 1 = .ok (.aload_n 0, 1) := by decide +kernel
theorem dX6_first_2 : decode cX6_first 2 = .ok (.getfield 39, 3) := by decide +kernel
theorem dX6_first_5 : decode cX6_first 5 = .ok (.iload_n 3, 1) := by decide +kernel
theorem dX6_first_6 : decode cX6_first 6 = .ok (.iconst 3, 1) := by decide +kernel
theorem dX6_first_7 : decode cX6_first 7 = .ok (.imul, 1) := by decide +kernel
theorem dX6_first_8 : decode cX6_first 8 = .ok (.iload 4, 2) := by decide +kernel
theorem dX6_first_10 : decode cX6_first 10 = .ok (.iadd, 1) := by decide +kernel
theorem dX6_first_11 : decode cX6_first 11 = .ok (.laload, 1) := by decide +kernel
theorem dX6_first_12 : decode cX6_first 12 = .ok (.land, 1) := by decide +kernel
theorem dX6_first_13 : decode cX6_first 13 = .ok (.lstore 5, 2) := by decide +kernel
theorem dX6_first_15 : decode cX6_first 15 = .ok (.lload 5, 2) := by decide +kernel
theorem dX6_first_17 : decode cX6_first 17 = .ok (.lconst 0, 1) := by decide +kernel
theorem dX6_first_18 : decode cX6_first 18 = .ok (.lcmp, 1) := by decide +kernel
theorem dX6_first_19 : decode cX6_first 19 = .ok (.ifCond .ne 7, 3) := by decide +kernel
theorem dX6_first_22 : decode cX6_first 22 = .ok (.iconst (-1), 1) := by decide +kernel
theorem dX6_first_23 : decode cX6_first 23 = .ok (.goto 14, 3) := by decide +kernel
theorem dX6_first_26 : decode cX6_first 26 = .ok (.lload 5, 2) := by decide +kernel
theorem dX6_first_28 : decode cX6_first 28 = .ok (.lload 5, 2) := by decide +kernel
theorem dX6_first_30 : decode cX6_first 30 = .ok (.lneg, 1) := by decide +kernel
theorem dX6_first_31 : decode cX6_first 31 = .ok (.land, 1) := by decide +kernel
theorem dX6_first_32 : decode cX6_first 32 = .ok (.lconst 1, 1) := by decide +kernel
theorem dX6_first_33 : decode cX6_first 33 = .ok (.lsub, 1) := by decide +kernel
theorem dX6_first_34 : decode cX6_first 34 = .ok (.invokestatic 76, 3) := by decide +kernel
theorem dX6_first_37 : decode cX6_first 37 = .ok (.ireturn, 1) := by decide +kernel
theorem dX6_landMeant_0 : decode cX6_landMeant 0 = .ok (.aload_n 0, 1) := by decide +kernel
theorem dX6_landMeant_1 : decode cX6_landMeant 1 = .ok (.getfield 21, 3) := by decide +kernel
theorem dX6_landMeant_4 : decode cX6_landMeant 4 = .ok (.iload_n 1, 1) := by decide +kernel
theorem dX6_landMeant_5 : decode cX6_landMeant 5 = .ok (.iaload, 1) := by decide +kernel
theorem dX6_landMeant_6 : decode cX6_landMeant 6 = .ok (.istore_n 3, 1) := by decide +kernel
theorem dX6_landMeant_7 : decode cX6_landMeant 7 = .ok (.iload_n 3, 1) := by decide +kernel
theorem dX6_landMeant_8 : decode cX6_landMeant 8 = .ok (.ifCond .ne 10, 3) := by decide +kernel
theorem dX6_landMeant_11 : decode cX6_landMeant 11 = .ok (.aload_n 0, 1) := by decide +kernel
theorem dX6_landMeant_12 : decode cX6_landMeant 12 = .ok (.getfield 9, 3) := by decide +kernel
theorem dX6_landMeant_15 : decode cX6_landMeant 15 = .ok (.iload_n 1, 1) := by decide +kernel
theorem dX6_landMeant_16 : decode cX6_landMeant 16 = .ok (.iaload, 1) := by decide +kernel
theorem dX6_landMeant_17 : decode cX6_landMeant 17 = .ok (.ireturn, 1) := by decide +kernel
theorem dX6_landMeant_18 : decode cX6_landMeant 18 = .ok (.iload_n 3, 1) := by decide +kernel
theorem dX6_landMeant_19 : decode cX6_landMeant 19 = .ok (.iconst 5, 1) := by decide +kernel
theorem dX6_landMeant_20 : decode cX6_landMeant 20 = .ok (.if_icmp .ge 9, 3) := by decide +kernel
theorem dX6_landMeant_23 : decode cX6_landMeant 23 = .ok (.iload_n 3, 1) := by decide +kernel
theorem dX6_landMeant_24 : decode cX6_landMeant 24 = .ok (.iconst 1, 1) := by decide +kernel
theorem dX6_landMeant_25 : decode cX6_landMeant 25 = .ok (.isub, 1) := by decide +kernel
theorem dX6_landMeant_26 : decode cX6_landMeant 26 = .ok (.goto 8, 3) := by decide +kernel
theorem dX6_landMeant_29 : decode cX6_landMeant 29 = .ok (.aload_n 2, 1) := by decide +kernel
theorem dX6_landMeant_30 : decode cX6_landMeant 30 = .ok (.iload_n 3, 1) := by decide +kernel
theorem dX6_landMeant_31 : decode cX6_landMeant 31 = .ok (.iconst 5, 1) := by decide +kernel
theorem dX6_landMeant_32 : decode cX6_landMeant 32 = .ok (.isub, 1) := by decide +kernel
theorem dX6_landMeant_33 : decode cX6_landMeant 33 = .ok (.iaload, 1) := by decide +kernel
theorem dX6_landMeant_34 : decode cX6_landMeant 34 = .ok (.ireturn, 1) := by decide +kernel
set_option maxRecDepth 20000 in
theorem ggX6_placesWithout_X6_stands : GoodIn wsX6_placesWithout wsX6_stands := goodIn_r _ [7, 8, 9, 10, 11, 12, 13, 14, 15, 16, 17, 18, 19, 20, 21, 22] (by decide +kernel) (by decide +kernel)
set_option maxRecDepth 20000 in
theorem gX6_placesWithout_X6_stands : GoodIn wsX6_placesWithout (wsV RX6 70 RX6 yX6_stands wsX6_stands) := goodIn_app (goodIn_of _ (by decide +kernel)) ggX6_placesWithout_X6_stands
theorem dX6_placesWithout_0 : decode cX6_placesWithout 0 = .ok (.iconst 0, 1) := by decide +kernel
theorem dX6_placesWithout_1 : decode cX6_placesWithout 1 = .ok (.istore 5, 2) := by decide +kernel
theorem dX6_placesWithout_3 : decode cX6_placesWithout 3 = .ok (.iconst 0, 1) := by decide +kernel
theorem dX6_placesWithout_4 : decode cX6_placesWithout 4 = .ok (.istore 6, 2) := by decide +kernel
theorem dX6_placesWithout_6 : decode cX6_placesWithout 6 = .ok (.iconst 0, 1) := by decide +kernel
theorem dX6_placesWithout_7 : decode cX6_placesWithout 7 = .ok (.istore 7, 2) := by decide +kernel
theorem dX6_placesWithout_9 : decode cX6_placesWithout 9 = .ok (.iload 7, 2) := by decide +kernel
theorem dX6_placesWithout_11 : decode cX6_placesWithout 11 = .ok (.aload_n 0, 1) := by decide +kernel
theorem dX6_placesWithout_12 : decode cX6_placesWithout 12 = .ok (.getfield 49, 3) := by decide +kernel
theorem dX6_placesWithout_15 : decode cX6_placesWithout 15 = .ok (.if_icmp .ge 64, 3) := by decide +kernel
theorem dX6_placesWithout_18 : decode cX6_placesWithout 18 = .ok (.aload_n 0, 1) := by decide +kernel
theorem dX6_placesWithout_19 : decode cX6_placesWithout 19 = .ok (.getfield 9, 3) := by decide +kernel
theorem dX6_placesWithout_22 : decode cX6_placesWithout 22 = .ok (.iload 7, 2) := by decide +kernel
theorem dX6_placesWithout_24 : decode cX6_placesWithout 24 = .ok (.iaload, 1) := by decide +kernel
theorem dX6_placesWithout_25 : decode cX6_placesWithout 25 = .ok (.iload_n 3, 1) := by decide +kernel
theorem dX6_placesWithout_26 : decode cX6_placesWithout 26 = .ok (.if_icmp .ne 47, 3) := by decide +kernel
theorem dX6_placesWithout_29 : decode cX6_placesWithout 29 = .ok (.aload_n 0, 1) := by decide +kernel
theorem dX6_placesWithout_30 : decode cX6_placesWithout 30 = .ok (.iload 7, 2) := by decide +kernel
theorem dX6_placesWithout_32 : decode cX6_placesWithout 32 = .ok (.iload 4, 2) := by decide +kernel
theorem dX6_placesWithout_34 : decode cX6_placesWithout 34 = .ok (.invokevirtual 70, 3) := by decide +kernel
theorem dX6_placesWithout_37 : decode cX6_placesWithout 37 = .ok (.ifCond .ne 6, 3) := by decide +kernel
theorem dX6_placesWithout_40 : decode cX6_placesWithout 40 = .ok (.goto 33, 3) := by decide +kernel
theorem dX6_placesWithout_43 : decode cX6_placesWithout 43 = .ok (.iload 6, 2) := by decide +kernel
theorem dX6_placesWithout_45 : decode cX6_placesWithout 45 = .ok (.bipush 30, 2) := by decide +kernel
theorem dX6_placesWithout_47 : decode cX6_placesWithout 47 = .ok (.if_icmp .ge 23, 3) := by decide +kernel
theorem dX6_placesWithout_50 : decode cX6_placesWithout 50 = .ok (.lload_n 1, 1) := by decide +kernel
theorem dX6_placesWithout_51 : decode cX6_placesWithout 51 = .ok (.iload 7, 2) := by decide +kernel
theorem dX6_placesWithout_53 : decode cX6_placesWithout 53 = .ok (.lushr, 1) := by decide +kernel
theorem dX6_placesWithout_54 : decode cX6_placesWithout 54 = .ok (.lconst 1, 1) := by decide +kernel
theorem dX6_placesWithout_55 : decode cX6_placesWithout 55 = .ok (.land, 1) := by decide +kernel
theorem dX6_placesWithout_56 : decode cX6_placesWithout 56 = .ok (.lconst 0, 1) := by decide +kernel
theorem dX6_placesWithout_57 : decode cX6_placesWithout 57 = .ok (.lcmp, 1) := by decide +kernel
theorem dX6_placesWithout_58 : decode cX6_placesWithout 58 = .ok (.ifCond .ne 12, 3) := by decide +kernel
theorem dX6_placesWithout_61 : decode cX6_placesWithout 61 = .ok (.iload 5, 2) := by decide +kernel
theorem dX6_placesWithout_63 : decode cX6_placesWithout 63 = .ok (.iconst 1, 1) := by decide +kernel
theorem dX6_placesWithout_64 : decode cX6_placesWithout 64 = .ok (.iload 6, 2) := by decide +kernel
theorem dX6_placesWithout_66 : decode cX6_placesWithout 66 = .ok (.ishl, 1) := by decide +kernel
theorem dX6_placesWithout_67 : decode cX6_placesWithout 67 = .ok (.ior, 1) := by decide +kernel
theorem dX6_placesWithout_68 : decode cX6_placesWithout 68 = .ok (.istore 5, 2) := by decide +kernel
theorem dX6_placesWithout_70 : decode cX6_placesWithout 70 = .ok (.iinc 6 1, 3) := by decide +kernel
theorem dX6_placesWithout_73 : decode cX6_placesWithout 73 = .ok (.iinc 7 1, 3) := by decide +kernel
theorem dX6_placesWithout_76 : decode cX6_placesWithout 76 = .ok (.goto (-67), 3) := by decide +kernel
theorem dX6_placesWithout_79 : decode cX6_placesWithout 79 = .ok (.iload 5, 2) := by decide +kernel
theorem dX6_placesWithout_81 : decode cX6_placesWithout 81 = .ok (.ireturn, 1) := by decide +kernel
theorem dX7_init_0 : decode cX7_init 0 = .ok (.aload_n 0, 1) := by decide +kernel
theorem dX7_init_1 : decode cX7_init 1 = .ok (.invokespecial 3, 3) := by decide +kernel
theorem dX7_init_4 : decode cX7_init 4 = .ok (.aload_n 0, 1) := by decide +kernel
theorem dX7_init_5 : decode cX7_init 5 = .ok (.bipush 16, 2) := by decide +kernel
theorem dX7_init_7 : decode cX7_init 7 = .ok (.newarray .long, 2) := by decide +kernel
theorem dX7_init_9 : decode cX7_init 9 = .ok (.putfield 9, 3) := by decide +kernel
theorem dX7_init_12 : decode cX7_init 12 = .ok (.aload_n 0, 1) := by decide +kernel
theorem dX7_init_13 : decode cX7_init 13 = .ok (.aload_n 1, 1) := by decide +kernel
theorem dX7_init_14 : decode cX7_init 14 = .ok (.putfield 15, 3) := by decide +kernel
theorem dX7_init_17 : decode cX7_init 17 = .ok (.aload_n 0, 1) := by decide +kernel
theorem dX7_init_18 : decode cX7_init 18 = .ok (.aload_n 2, 1) := by decide +kernel
theorem dX7_init_19 : decode cX7_init 19 = .ok (.putfield 19, 3) := by decide +kernel
theorem dX7_init_22 : decode cX7_init 22 = .ok (.aload_n 0, 1) := by decide +kernel
theorem dX7_init_23 : decode cX7_init 23 = .ok (.aload_n 3, 1) := by decide +kernel
theorem dX7_init_24 : decode cX7_init 24 = .ok (.putfield 23, 3) := by decide +kernel
theorem dX7_init_27 : decode cX7_init 27 = .ok (.return_, 1) := by decide +kernel
set_option maxRecDepth 20000 in
theorem ggX7_fewestOf_X4_open : GoodIn wsX7_fewestOf wsX4_open := goodIn_r _ [12, 13, 14, 15, 16, 17, 18, 19, 11, 20, 21, 22, 23, 24, 25, 26, 27, 28, 29, 30, 31, 32, 33, 34, 35, 36, 37, 38, 39, 40, 41, 42, 43, 44, 45, 151, 152, 153, 154, 155, 156, 157, 158, 159, 145, 146, 147, 148, 149, 150, 162, 163, 164, 165, 166, 167, 168, 169, 170, 171, 172, 173, 174] (by decide +kernel) (by decide +kernel)
set_option maxRecDepth 20000 in
theorem gX7_fewestOf_X4_open : GoodIn wsX7_fewestOf (wsV RX7 33 RX4 yX4_open wsX4_open) := goodIn_app (goodIn_of _ (by decide +kernel)) ggX7_fewestOf_X4_open
set_option maxRecDepth 20000 in
theorem ggX7_fewestOf_J6_bitCount_0f7a4 : GoodIn wsX7_fewestOf wsJ6_bitCount_0f7a4 := goodIn_r _ [49, 50, 51, 52] (by decide +kernel) (by decide +kernel)
set_option maxRecDepth 20000 in
theorem gX7_fewestOf_J6_bitCount_0f7a4 : GoodIn wsX7_fewestOf (va_wsS RX7 45 yJ6_bitCount_0f7a4 wsJ6_bitCount_0f7a4) := goodIn_app (goodIn_of _ (by decide +kernel)) ggX7_fewestOf_J6_bitCount_0f7a4
set_option maxRecDepth 20000 in
theorem ggX7_fewestOf_X9_rulesAt : GoodIn wsX7_fewestOf wsX9_rulesAt := goodIn_r _ [57, 58, 59, 160, 161] (by decide +kernel) (by decide +kernel)
set_option maxRecDepth 20000 in
theorem gX7_fewestOf_X9_rulesAt : GoodIn wsX7_fewestOf (wsV RX7 51 RX9 yX9_rulesAt wsX9_rulesAt) := goodIn_app (goodIn_of _ (by decide +kernel)) ggX7_fewestOf_X9_rulesAt
set_option maxRecDepth 20000 in
theorem ggX7_fewestOf_X7_allAlikeWithout : GoodIn wsX7_fewestOf wsX7_allAlikeWithout := goodIn_r _ [64, 1, 2, 3, 4, 65, 5, 66, 67, 18, 19, 11, 20, 16, 21, 22, 23, 24, 25, 26, 68, 69, 70, 71, 72, 13, 15, 73, 74, 75, 76, 77, 78, 79, 80, 81, 82, 83, 84, 85, 30, 86, 87, 88, 89, 90, 91, 92, 93, 94, 95, 96, 97, 98, 99, 100, 101, 102, 103, 104, 105, 106, 107, 108, 109, 110, 111, 112, 113, 114, 115, 116, 117, 118, 119, 120, 121, 122, 123, 124, 125, 126, 127, 128, 129, 130, 131, 132, 133, 134, 135, 136, 137, 138, 139, 140, 141, 142, 143, 144, 145, 146, 147, 148, 149, 150, 151, 152, 153, 154, 155, 156, 157, 158, 159, 162, 163, 164, 165, 166, 167, 168, 169, 170, 171, 172, 173, 174, 175, 176, 177, 178, 179, 180, 181, 182, 183, 184] (by decide +kernel) (by decide +kernel)
set_option maxRecDepth 20000 in
theorem gX7_fewestOf_X7_allAlikeWithout : GoodIn wsX7_fewestOf (wsV RX7 55 RX7 yX7_allAlikeWithout wsX7_allAlikeWithout) := goodIn_app (goodIn_of _ (by decide +kernel)) ggX7_fewestOf_X7_allAlikeWithout
theorem dX7_fewestOf_0 : decode cX7_fewestOf 0 = .ok (.iconst 0, 1) := by decide +kernel
theorem dX7_fewestOf_1 : decode cX7_fewestOf 1 = .ok (.istore_n 1, 1) := by decide +kernel
theorem dX7_fewestOf_2 : decode cX7_fewestOf 2 = .ok (.iload_n 1, 1) := by decide +kernel
theorem dX7_fewestOf_3 : decode cX7_fewestOf 3 = .ok (.aload_n 0, 1) := by decide +kernel
theorem dX7_fewestOf_4 : decode cX7_fewestOf 4 = .ok (.getfield 15, 3) := by decide +kernel
theorem dX7_fewestOf_7 : decode cX7_fewestOf 7 = .ok (.getfield 27, 3) := by decide +kernel
theorem dX7_fewestOf_10 : decode cX7_fewestOf 10 = .ok (.if_icmp .ge 34, 3) := by decide +kernel
theorem dX7_fewestOf_13 : decode cX7_fewestOf 13 = .ok (.aload_n 0, 1) := by decide +kernel
theorem dX7_fewestOf_14 : decode cX7_fewestOf 14 = .ok (.getfield 23, 3) := by decide +kernel
theorem dX7_fewestOf_17 : decode cX7_fewestOf 17 = .ok (.aload_n 0, 1) := by decide +kernel
theorem dX7_fewestOf_18 : decode cX7_fewestOf 18 = .ok (.getfield 15, 3) := by decide +kernel
theorem dX7_fewestOf_21 : decode cX7_fewestOf 21 = .ok (.iload_n 1, 1) := by decide +kernel
theorem dX7_fewestOf_22 : decode cX7_fewestOf 22 = .ok (.invokevirtual 33, 3) := by decide +kernel
theorem dX7_fewestOf_25 : decode cX7_fewestOf 25 = .ok (.aload_n 0, 1) := by decide +kernel
theorem dX7_fewestOf_26 : decode cX7_fewestOf 26 = .ok (.getfield 9, 3) := by decide +kernel
theorem dX7_fewestOf_29 : decode cX7_fewestOf 29 = .ok (.iload_n 1, 1) := by decide +kernel
theorem dX7_fewestOf_30 : decode cX7_fewestOf 30 = .ok (.aload_n 0, 1) := by decide +kernel
theorem dX7_fewestOf_31 : decode cX7_fewestOf 31 = .ok (.getfield 23, 3) := by decide +kernel
theorem dX7_fewestOf_34 : decode cX7_fewestOf 34 = .ok (.getfield 39, 3) := by decide +kernel
theorem dX7_fewestOf_37 : decode cX7_fewestOf 37 = .ok (.lastore, 1) := by decide +kernel
theorem dX7_fewestOf_38 : decode cX7_fewestOf 38 = .ok (.iinc 1 1, 3) := by decide +kernel
theorem dX7_fewestOf_41 : decode cX7_fewestOf 41 = .ok (.goto (-39), 3) := by decide +kernel
theorem dX7_fewestOf_44 : decode cX7_fewestOf 44 = .ok (.iconst 0, 1) := by decide +kernel
theorem dX7_fewestOf_45 : decode cX7_fewestOf 45 = .ok (.istore_n 1, 1) := by decide +kernel
theorem dX7_fewestOf_46 : decode cX7_fewestOf 46 = .ok (.iload_n 1, 1) := by decide +kernel
theorem dX7_fewestOf_47 : decode cX7_fewestOf 47 = .ok (.aload_n 0, 1) := by decide +kernel
theorem dX7_fewestOf_48 : decode cX7_fewestOf 48 = .ok (.getfield 19, 3) := by decide +kernel
theorem dX7_fewestOf_51 : decode cX7_fewestOf 51 = .ok (.getfield 42, 3) := by decide +kernel
theorem dX7_fewestOf_54 : decode cX7_fewestOf 54 = .ok (.if_icmp .gt 55, 3) := by decide +kernel
theorem dX7_fewestOf_57 : decode cX7_fewestOf 57 = .ok (.iconst 0, 1) := by decide +kernel
theorem dX7_fewestOf_58 : decode cX7_fewestOf 58 = .ok (.istore_n 2, 1) := by decide +kernel
theorem dX7_fewestOf_59 : decode cX7_fewestOf 59 = .ok (.iload_n 2, 1) := by decide +kernel
theorem dX7_fewestOf_60 : decode cX7_fewestOf 60 = .ok (.iconst 1, 1) := by decide +kernel
theorem dX7_fewestOf_61 : decode cX7_fewestOf 61 = .ok (.aload_n 0, 1) := by decide +kernel
theorem dX7_fewestOf_62 : decode cX7_fewestOf 62 = .ok (.getfield 19, 3) := by decide +kernel
theorem dX7_fewestOf_65 : decode cX7_fewestOf 65 = .ok (.getfield 42, 3) := by decide +kernel
theorem dX7_fewestOf_68 : decode cX7_fewestOf 68 = .ok (.ishl, 1) := by decide +kernel
theorem dX7_fewestOf_69 : decode cX7_fewestOf 69 = .ok (.if_icmp .ge 34, 3) := by decide +kernel
theorem dX7_fewestOf_72 : decode cX7_fewestOf 72 = .ok (.iload_n 2, 1) := by decide +kernel
theorem dX7_fewestOf_73 : decode cX7_fewestOf 73 = .ok (.invokestatic 45, 3) := by decide +kernel
theorem dX7_fewestOf_76 : decode cX7_fewestOf 76 = .ok (.iload_n 1, 1) := by decide +kernel
theorem dX7_fewestOf_77 : decode cX7_fewestOf 77 = .ok (.if_icmp .ne 20, 3) := by decide +kernel
theorem dX7_fewestOf_80 : decode cX7_fewestOf 80 = .ok (.aload_n 0, 1) := by decide +kernel
theorem dX7_fewestOf_81 : decode cX7_fewestOf 81 = .ok (.aload_n 0, 1) := by decide +kernel
theorem dX7_fewestOf_82 : decode cX7_fewestOf 82 = .ok (.getfield 19, 3) := by decide +kernel
theorem dX7_fewestOf_85 : decode cX7_fewestOf 85 = .ok (.iload_n 2, 1) := by decide +kernel
theorem dX7_fewestOf_86 : decode cX7_fewestOf 86 = .ok (.invokevirtual 51, 3) := by decide +kernel
theorem dX7_fewestOf_89 : decode cX7_fewestOf 89 = .ok (.invokevirtual 55, 3) := by decide +kernel
theorem dX7_fewestOf_92 : decode cX7_fewestOf 92 = .ok (.ifCond .eq 5, 3) := by decide +kernel
theorem dX7_fewestOf_95 : decode cX7_fewestOf 95 = .ok (.iload_n 2, 1) := by decide +kernel
theorem dX7_fewestOf_96 : decode cX7_fewestOf 96 = .ok (.ireturn, 1) := by decide +kernel
theorem dX7_fewestOf_97 : decode cX7_fewestOf 97 = .ok (.iinc 2 1, 3) := by decide +kernel
theorem dX7_fewestOf_100 : decode cX7_fewestOf 100 = .ok (.goto (-41), 3) := by decide +kernel
theorem dX7_fewestOf_103 : decode cX7_fewestOf 103 = .ok (.iinc 1 1, 3) := by decide +kernel
theorem dX7_fewestOf_106 : decode cX7_fewestOf 106 = .ok (.goto (-60), 3) := by decide +kernel
theorem dX7_fewestOf_109 : decode cX7_fewestOf 109 = .ok (.iconst (-1), 1) := by decide +kernel
theorem dX7_fewestOf_110 : decode cX7_fewestOf 110 = .ok (.ireturn, 1) := by decide +kernel
set_option maxRecDepth 20000 in
theorem ggX7_allAlikeWithout_X4_takeTies : GoodIn wsX7_allAlikeWithout wsX4_takeTies := goodIn_r _ [12, 13, 14, 15, 16, 17, 18, 19, 106, 107, 108, 109, 110, 111, 112, 113, 114, 100, 101, 102, 103, 104, 105] (by decide +kernel) (by decide +kernel)
set_option maxRecDepth 20000 in
theorem gX7_allAlikeWithout_X4_takeTies : GoodIn wsX7_allAlikeWithout (wsV RX7 59 RX4 yX4_takeTies wsX4_takeTies) := goodIn_app (goodIn_of _ (by decide +kernel)) ggX7_allAlikeWithout_X4_takeTies
set_option maxRecDepth 20000 in
theorem ggX7_allAlikeWithout_X4_readBooks : GoodIn wsX7_allAlikeWithout wsX4_readBooks := goodIn_r _ [23, 24, 25, 26, 27, 28, 29, 30, 13, 31, 32, 33, 34, 35, 36, 37, 38, 39, 40, 41, 42, 43, 44, 45, 46, 47, 48, 49, 50, 51, 52, 53, 54, 55, 106, 107, 108, 109, 110, 111, 112, 113, 114, 115, 116, 117, 118, 119, 120, 121, 122, 123, 124, 125, 126, 127, 128, 129] (by decide +kernel) (by decide +kernel)
set_option maxRecDepth 20000 in
theorem gX7_allAlikeWithout_X4_readBooks : GoodIn wsX7_allAlikeWithout (wsV RX7 68 RX4 yX4_readBooks wsX4_readBooks) := goodIn_app (goodIn_of _ (by decide +kernel)) ggX7_allAlikeWithout_X4_readBooks
set_option maxRecDepth 20000 in
theorem ggX7_allAlikeWithout_X4_allAlike : GoodIn wsX7_allAlikeWithout wsX4_allAlike := goodIn_r _ [59, 60, 61, 62, 11, 63, 64, 24, 13, 30, 65, 66, 67, 68, 69, 70, 71, 72, 73, 74, 75, 76, 77, 28, 27, 78, 79, 80, 81, 82, 83, 84, 85, 86, 87, 88, 89, 90, 91, 92, 93, 94, 95, 106, 107, 108, 109, 110, 111, 112, 113, 114, 130, 131, 132, 133, 128, 129, 134, 135, 136, 137] (by decide +kernel) (by decide +kernel)
set_option maxRecDepth 20000 in
theorem gX7_allAlikeWithout_X4_allAlike : GoodIn wsX7_allAlikeWithout (wsV RX7 72 RX4 yX4_allAlike wsX4_allAlike) := goodIn_app (goodIn_of _ (by decide +kernel)) ggX7_allAlikeWithout_X4_allAlike
theorem dX7_allAlikeWithout_0 : decode cX7_allAlikeWithout 0 = .ok (.iconst 0, 1) := by decide +kernel
theorem dX7_allAlikeWithout_1 : decode cX7_allAlikeWithout 1 = .ok (.istore_n 3, 1) := by decide +kernel
theorem dX7_allAlikeWithout_2 : decode cX7_allAlikeWithout 2 = .ok (.iload_n 3, 1) := by decide +kernel
theorem dX7_allAlikeWithout_3 : decode cX7_allAlikeWithout 3 = .ok (.aload_n 0, 1) := by decide +kernel
theorem dX7_allAlikeWithout_4 : decode cX7_allAlikeWithout 4 = .ok (.getfield 15, 3) := by decide +kernel
theorem dX7_allAlikeWithout_7 : decode cX7_allAlikeWithout 7 = .ok (.getfield 27, 3) := by decide +kernel
theorem dX7_allAlikeWithout_10 : decode cX7_allAlikeWithout 10 = .ok (.if_icmp .ge 68, 3) := by decide +kernel
theorem dX7_allAlikeWithout_13 : decode cX7_allAlikeWithout 13 = .ok (.aload_n 0, 1) := by decide +kernel
theorem dX7_allAlikeWithout_14 : decode cX7_allAlikeWithout 14 = .ok (.getfield 23, 3) := by decide +kernel
theorem dX7_allAlikeWithout_17 : decode cX7_allAlikeWithout 17 = .ok (.aload_n 0, 1) := by decide +kernel
theorem dX7_allAlikeWithout_18 : decode cX7_allAlikeWithout 18 = .ok (.getfield 15, 3) := by decide +kernel
theorem dX7_allAlikeWithout_21 : decode cX7_allAlikeWithout 21 = .ok (.iload_n 3, 1) := by decide +kernel
theorem dX7_allAlikeWithout_22 : decode cX7_allAlikeWithout 22 = .ok (.invokevirtual 59, 3) := by decide +kernel
theorem dX7_allAlikeWithout_25 : decode cX7_allAlikeWithout 25 = .ok (.aload_n 0, 1) := by decide +kernel
theorem dX7_allAlikeWithout_26 : decode cX7_allAlikeWithout 26 = .ok (.getfield 23, 3) := by decide +kernel
theorem dX7_allAlikeWithout_29 : decode cX7_allAlikeWithout 29 = .ok (.aload_n 0, 1) := by decide +kernel
theorem dX7_allAlikeWithout_30 : decode cX7_allAlikeWithout 30 = .ok (.getfield 9, 3) := by decide +kernel
theorem dX7_allAlikeWithout_33 : decode cX7_allAlikeWithout 33 = .ok (.iload_n 3, 1) := by decide +kernel
theorem dX7_allAlikeWithout_34 : decode cX7_allAlikeWithout 34 = .ok (.laload, 1) := by decide +kernel
theorem dX7_allAlikeWithout_35 : decode cX7_allAlikeWithout 35 = .ok (.lload_n 1, 1) := by decide +kernel
theorem dX7_allAlikeWithout_36 : decode cX7_allAlikeWithout 36 = .ok (.ldc2_w 62, 3) := by decide +kernel
theorem dX7_allAlikeWithout_39 : decode cX7_allAlikeWithout 39 = .ok (.lxor, 1) := by decide +kernel
theorem dX7_allAlikeWithout_40 : decode cX7_allAlikeWithout 40 = .ok (.land, 1) := by decide +kernel
theorem dX7_allAlikeWithout_41 : decode cX7_allAlikeWithout 41 = .ok (.putfield 39, 3) := by decide +kernel
theorem dX7_allAlikeWithout_44 : decode cX7_allAlikeWithout 44 = .ok (.aload_n 0, 1) := by decide +kernel
theorem dX7_allAlikeWithout_45 : decode cX7_allAlikeWithout 45 = .ok (.getfield 23, 3) := by decide +kernel
theorem dX7_allAlikeWithout_48 : decode cX7_allAlikeWithout 48 = .ok (.aload_n 0, 1) := by decide +kernel
theorem dX7_allAlikeWithout_49 : decode cX7_allAlikeWithout 49 = .ok (.getfield 15, 3) := by decide +kernel
theorem dX7_allAlikeWithout_52 : decode cX7_allAlikeWithout 52 = .ok (.getfield 64, 3) := by decide +kernel
theorem dX7_allAlikeWithout_55 : decode cX7_allAlikeWithout 55 = .ok (.iload_n 3, 1) := by decide +kernel
theorem dX7_allAlikeWithout_56 : decode cX7_allAlikeWithout 56 = .ok (.iaload, 1) := by decide +kernel
theorem dX7_allAlikeWithout_57 : decode cX7_allAlikeWithout 57 = .ok (.invokevirtual 68, 3) := by decide +kernel
theorem dX7_allAlikeWithout_60 : decode cX7_allAlikeWithout 60 = .ok (.aload_n 0, 1) := by decide +kernel
theorem dX7_allAlikeWithout_61 : decode cX7_allAlikeWithout 61 = .ok (.getfield 23, 3) := by decide +kernel
theorem dX7_allAlikeWithout_64 : decode cX7_allAlikeWithout 64 = .ok (.invokevirtual 72, 3) := by decide +kernel
theorem dX7_allAlikeWithout_67 : decode cX7_allAlikeWithout 67 = .ok (.ifCond .ne 5, 3) := by decide +kernel
theorem dX7_allAlikeWithout_70 : decode cX7_allAlikeWithout 70 = .ok (.iconst 0, 1) := by decide +kernel
theorem dX7_allAlikeWithout_71 : decode cX7_allAlikeWithout 71 = .ok (.ireturn, 1) := by decide +kernel
theorem dX7_allAlikeWithout_72 : decode cX7_allAlikeWithout 72 = .ok (.iinc 3 1, 3) := by decide +kernel
theorem dX7_allAlikeWithout_75 : decode cX7_allAlikeWithout 75 = .ok (.goto (-73), 3) := by decide +kernel
theorem dX7_allAlikeWithout_78 : decode cX7_allAlikeWithout 78 = .ok (.iconst 1, 1) := by decide +kernel
theorem dX7_allAlikeWithout_79 : decode cX7_allAlikeWithout 79 = .ok (.ireturn, 1) := by decide +kernel
theorem dX8_init_0 : decode cX8_init 0 = .ok (.aload_n 0, 1) := by decide +kernel
theorem dX8_init_1 : decode cX8_init 1 = .ok (.invokespecial 3, 3) := by decide +kernel
theorem dX8_init_4 : decode cX8_init 4 = .ok (.aload_n 0, 1) := by decide +kernel
theorem dX8_init_5 : decode cX8_init 5 = .ok (.bipush 8, 2) := by decide +kernel
theorem dX8_init_7 : decode cX8_init 7 = .ok (.newarray .int, 2) := by decide +kernel
theorem dX8_init_9 : decode cX8_init 9 = .ok (.putfield 9, 3) := by decide +kernel
theorem dX8_init_12 : decode cX8_init 12 = .ok (.aload_n 0, 1) := by decide +kernel
theorem dX8_init_13 : decode cX8_init 13 = .ok (.bipush 8, 2) := by decide +kernel
theorem dX8_init_15 : decode cX8_init 15 = .ok (.newarray .int, 2) := by decide +kernel
theorem dX8_init_17 : decode cX8_init 17 = .ok (.putfield 15, 3) := by decide +kernel
theorem dX8_init_20 : decode cX8_init 20 = .ok (.aload_n 0, 1) := by decide +kernel
theorem dX8_init_21 : decode cX8_init 21 = .ok (.bipush 8, 2) := by decide +kernel
theorem dX8_init_23 : decode cX8_init 23 = .ok (.newarray .int, 2) := by decide +kernel
theorem dX8_init_25 : decode cX8_init 25 = .ok (.putfield 18, 3) := by decide +kernel
theorem dX8_init_28 : decode cX8_init 28 = .ok (.return_, 1) := by decide +kernel
theorem dX8_add_0 : decode cX8_add 0 = .ok (.aload_n 0, 1) := by decide +kernel
theorem dX8_add_1 : decode cX8_add 1 = .ok (.getfield 9, 3) := by decide +kernel
theorem dX8_add_4 : decode cX8_add 4 = .ok (.aload_n 0, 1) := by decide +kernel
theorem dX8_add_5 : decode cX8_add 5 = .ok (.getfield 21, 3) := by decide +kernel
theorem dX8_add_8 : decode cX8_add 8 = .ok (.iload_n 1, 1) := by decide +kernel
theorem dX8_add_9 : decode cX8_add 9 = .ok (.iastore, 1) := by decide +kernel
theorem dX8_add_10 : decode cX8_add 10 = .ok (.aload_n 0, 1) := by decide +kernel
theorem dX8_add_11 : decode cX8_add 11 = .ok (.getfield 15, 3) := by decide +kernel
theorem dX8_add_14 : decode cX8_add 14 = .ok (.aload_n 0, 1) := by decide +kernel
theorem dX8_add_15 : decode cX8_add 15 = .ok (.getfield 21, 3) := by decide +kernel
theorem dX8_add_18 : decode cX8_add 18 = .ok (.iload_n 2, 1) := by decide +kernel
theorem dX8_add_19 : decode cX8_add 19 = .ok (.iastore, 1) := by decide +kernel
theorem dX8_add_20 : decode cX8_add 20 = .ok (.aload_n 0, 1) := by decide +kernel
theorem dX8_add_21 : decode cX8_add 21 = .ok (.getfield 18, 3) := by decide +kernel
theorem dX8_add_24 : decode cX8_add 24 = .ok (.aload_n 0, 1) := by decide +kernel
theorem dX8_add_25 : decode cX8_add 25 = .ok (.getfield 21, 3) := by decide +kernel
theorem dX8_add_28 : decode cX8_add 28 = .ok (.iload_n 3, 1) := by decide +kernel
theorem dX8_add_29 : decode cX8_add 29 = .ok (.iastore, 1) := by decide +kernel
theorem dX8_add_30 : decode cX8_add 30 = .ok (.aload_n 0, 1) := by decide +kernel
theorem dX8_add_31 : decode cX8_add 31 = .ok (.dup, 1) := by decide +kernel
theorem dX8_add_32 : decode cX8_add 32 = .ok (.getfield 21, 3) := by decide +kernel
theorem dX8_add_35 : decode cX8_add 35 = .ok (.iconst 1, 1) := by decide +kernel
theorem dX8_add_36 : decode cX8_add 36 = .ok (.iadd, 1) := by decide +kernel
theorem dX8_add_37 : decode cX8_add 37 = .ok (.putfield 21, 3) := by decide +kernel
theorem dX8_add_40 : decode cX8_add 40 = .ok (.aload_n 0, 1) := by decide +kernel
theorem dX8_add_41 : decode cX8_add 41 = .ok (.getfield 21, 3) := by decide +kernel
theorem dX8_add_44 : decode cX8_add 44 = .ok (.iconst 1, 1) := by decide +kernel
theorem dX8_add_45 : decode cX8_add 45 = .ok (.isub, 1) := by decide +kernel
theorem dX8_add_46 : decode cX8_add 46 = .ok (.ireturn, 1) := by decide +kernel
theorem dX8_tells_0 : decode cX8_tells 0 = .ok (.iconst 0, 1) := by decide +kernel
theorem dX8_tells_1 : decode cX8_tells 1 = .ok (.istore 4, 2) := by decide +kernel
theorem dX8_tells_3 : decode cX8_tells 3 = .ok (.iload 4, 2) := by decide +kernel
theorem dX8_tells_5 : decode cX8_tells 5 = .ok (.aload_n 0, 1) := by decide +kernel
theorem dX8_tells_6 : decode cX8_tells 6 = .ok (.getfield 21, 3) := by decide +kernel
theorem dX8_tells_9 : decode cX8_tells 9 = .ok (.if_icmp .ge 72, 3) := by decide +kernel
theorem dX8_tells_12 : decode cX8_tells 12 = .ok (.aload_n 3, 1) := by decide +kernel
theorem dX8_tells_13 : decode cX8_tells 13 = .ok (.aload_n 0, 1) := by decide +kernel
theorem dX8_tells_14 : decode cX8_tells 14 = .ok (.getfield 18, 3) := by decide +kernel
theorem dX8_tells_17 : decode cX8_tells 17 = .ok (.iload 4, 2) := by decide +kernel
theorem dX8_tells_19 : decode cX8_tells 19 = .ok (.iaload, 1) := by decide +kernel
theorem dX8_tells_20 : decode cX8_tells 20 = .ok (.iaload, 1) := by decide +kernel
theorem dX8_tells_21 : decode cX8_tells 21 = .ok (.istore 5, 2) := by decide +kernel
theorem dX8_tells_23 : decode cX8_tells 23 = .ok (.aload_n 0, 1) := by decide +kernel
theorem dX8_tells_24 : decode cX8_tells 24 = .ok (.getfield 9, 3) := by decide +kernel
theorem dX8_tells_27 : decode cX8_tells 27 = .ok (.iload 4, 2) := by decide +kernel
theorem dX8_tells_29 : decode cX8_tells 29 = .ok (.iaload, 1) := by decide +kernel
theorem dX8_tells_30 : decode cX8_tells 30 = .ok (.iload_n 2, 1) := by decide +kernel
theorem dX8_tells_31 : decode cX8_tells 31 = .ok (.if_icmp .ne 44, 3) := by decide +kernel
theorem dX8_tells_34 : decode cX8_tells 34 = .ok (.iload 5, 2) := by decide +kernel
theorem dX8_tells_36 : decode cX8_tells 36 = .ok (.iconst (-1), 1) := by decide +kernel
theorem dX8_tells_37 : decode cX8_tells 37 = .ok (.if_icmp .ne 6, 3) := by decide +kernel
theorem dX8_tells_40 : decode cX8_tells 40 = .ok (.goto 35, 3) := by decide +kernel
theorem dX8_tells_43 : decode cX8_tells 43 = .ok (.aload_n 0, 1) := by decide +kernel
theorem dX8_tells_44 : decode cX8_tells 44 = .ok (.getfield 15, 3) := by decide +kernel
theorem dX8_tells_47 : decode cX8_tells 47 = .ok (.iload 4, 2) := by decide +kernel
theorem dX8_tells_49 : decode cX8_tells 49 = .ok (.iaload, 1) := by decide +kernel
theorem dX8_tells_50 : decode cX8_tells 50 = .ok (.iload_n 1, 1) := by decide +kernel
theorem dX8_tells_51 : decode cX8_tells 51 = .ok (.iushr, 1) := by decide +kernel
theorem dX8_tells_52 : decode cX8_tells 52 = .ok (.iconst 1, 1) := by decide +kernel
theorem dX8_tells_53 : decode cX8_tells 53 = .ok (.iand, 1) := by decide +kernel
theorem dX8_tells_54 : decode cX8_tells 54 = .ok (.ifCond .eq 21, 3) := by decide +kernel
theorem dX8_tells_57 : decode cX8_tells 57 = .ok (.aload_n 0, 1) := by decide +kernel
theorem dX8_tells_58 : decode cX8_tells 58 = .ok (.getfield 15, 3) := by decide +kernel
theorem dX8_tells_61 : decode cX8_tells 61 = .ok (.iload 4, 2) := by decide +kernel
theorem dX8_tells_63 : decode cX8_tells 63 = .ok (.iaload, 1) := by decide +kernel
theorem dX8_tells_64 : decode cX8_tells 64 = .ok (.iload 5, 2) := by decide +kernel
theorem dX8_tells_66 : decode cX8_tells 66 = .ok (.iushr, 1) := by decide +kernel
theorem dX8_tells_67 : decode cX8_tells 67 = .ok (.iconst 1, 1) := by decide +kernel
theorem dX8_tells_68 : decode cX8_tells 68 = .ok (.iand, 1) := by decide +kernel
theorem dX8_tells_69 : decode cX8_tells 69 = .ok (.ifCond .eq 6, 3) := by decide +kernel
theorem dX8_tells_72 : decode cX8_tells 72 = .ok (.iload 5, 2) := by decide +kernel
theorem dX8_tells_74 : decode cX8_tells 74 = .ok (.ireturn, 1) := by decide +kernel
theorem dX8_tells_75 : decode cX8_tells 75 = .ok (.iinc 4 1, 3) := by decide +kernel
theorem dX8_tells_78 : decode cX8_tells 78 = .ok (.goto (-75), 3) := by decide +kernel
theorem dX8_tells_81 : decode cX8_tells 81 = .ok (.iconst (-1), 1) := by decide +kernel
theorem dX8_tells_82 : decode cX8_tells 82 = .ok (.ireturn, 1) := by decide +kernel
theorem dX9_init_0 : decode cX9_init 0 = .ok (.aload_n 0, 1) := by decide +kernel
theorem dX9_init_1 : decode cX9_init 1 = .ok (.invokespecial 3, 3) := by decide +kernel
theorem dX9_init_4 : decode cX9_init 4 = .ok (.aload_n 0, 1) := by decide +kernel
theorem dX9_init_5 : decode cX9_init 5 = .ok (.bipush 12, 2) := by decide +kernel
theorem dX9_init_7 : decode cX9_init 7 = .ok (.newarray .int, 2) := by decide +kernel
theorem dX9_init_9 : decode cX9_init 9 = .ok (.putfield 9, 3) := by decide +kernel
theorem dX9_init_12 : decode cX9_init 12 = .ok (.return_, 1) := by decide +kernel
theorem dX9_has_0 : decode cX9_has 0 = .ok (.iconst 0, 1) := by decide +kernel
theorem dX9_has_1 : decode cX9_has 1 = .ok (.istore_n 2, 1) := by decide +kernel
theorem dX9_has_2 : decode cX9_has 2 = .ok (.iload_n 2, 1) := by decide +kernel
theorem dX9_has_3 : decode cX9_has 3 = .ok (.aload_n 0, 1) := by decide +kernel
theorem dX9_has_4 : decode cX9_has 4 = .ok (.getfield 15, 3) := by decide +kernel
theorem dX9_has_7 : decode cX9_has 7 = .ok (.if_icmp .ge 21, 3) := by decide +kernel
theorem dX9_has_10 : decode cX9_has 10 = .ok (.aload_n 0, 1) := by decide +kernel
theorem dX9_has_11 : decode cX9_has 11 = .ok (.getfield 9, 3) := by decide +kernel
theorem dX9_has_14 : decode cX9_has 14 = .ok (.iload_n 2, 1) := by decide +kernel
theorem dX9_has_15 : decode cX9_has 15 = .ok (.iaload, 1) := by decide +kernel
theorem dX9_has_16 : decode cX9_has 16 = .ok (.iload_n 1, 1) := by decide +kernel
theorem dX9_has_17 : decode cX9_has 17 = .ok (.if_icmp .ne 5, 3) := by decide +kernel
theorem dX9_has_20 : decode cX9_has 20 = .ok (.iconst 1, 1) := by decide +kernel
theorem dX9_has_21 : decode cX9_has 21 = .ok (.ireturn, 1) := by decide +kernel
theorem dX9_has_22 : decode cX9_has 22 = .ok (.iinc 2 1, 3) := by decide +kernel
theorem dX9_has_25 : decode cX9_has 25 = .ok (.goto (-23), 3) := by decide +kernel
theorem dX9_has_28 : decode cX9_has 28 = .ok (.iconst 0, 1) := by decide +kernel
theorem dX9_has_29 : decode cX9_has 29 = .ok (.ireturn, 1) := by decide +kernel
theorem dX9_add_0 : decode cX9_add 0 = .ok (.aload_n 0, 1) := by decide +kernel
theorem dX9_add_1 : decode cX9_add 1 = .ok (.getfield 9, 3) := by decide +kernel
theorem dX9_add_4 : decode cX9_add 4 = .ok (.aload_n 0, 1) := by decide +kernel
theorem dX9_add_5 : decode cX9_add 5 = .ok (.getfield 15, 3) := by decide +kernel
theorem dX9_add_8 : decode cX9_add 8 = .ok (.iload_n 1, 1) := by decide +kernel
theorem dX9_add_9 : decode cX9_add 9 = .ok (.iastore, 1) := by decide +kernel
theorem dX9_add_10 : decode cX9_add 10 = .ok (.aload_n 0, 1) := by decide +kernel
theorem dX9_add_11 : decode cX9_add 11 = .ok (.dup, 1) := by decide +kernel
theorem dX9_add_12 : decode cX9_add 12 = .ok (.getfield 15, 3) := by decide +kernel
theorem dX9_add_15 : decode cX9_add 15 = .ok (.iconst 1, 1) := by decide +kernel
theorem dX9_add_16 : decode cX9_add 16 = .ok (.iadd, 1) := by decide +kernel
theorem dX9_add_17 : decode cX9_add 17 = .ok (.putfield 15, 3) := by decide +kernel
theorem dX9_add_20 : decode cX9_add 20 = .ok (.aload_n 0, 1) := by decide +kernel
theorem dX9_add_21 : decode cX9_add 21 = .ok (.getfield 15, 3) := by decide +kernel
theorem dX9_add_24 : decode cX9_add 24 = .ok (.ireturn, 1) := by decide +kernel
theorem dX9_rulesAt_0 : decode cX9_rulesAt 0 = .ok (.lconst 0, 1) := by decide +kernel
theorem dX9_rulesAt_1 : decode cX9_rulesAt 1 = .ok (.lstore_n 2, 1) := by decide +kernel
theorem dX9_rulesAt_2 : decode cX9_rulesAt 2 = .ok (.iconst 0, 1) := by decide +kernel
theorem dX9_rulesAt_3 : decode cX9_rulesAt 3 = .ok (.istore 4, 2) := by decide +kernel
theorem dX9_rulesAt_5 : decode cX9_rulesAt 5 = .ok (.iload 4, 2) := by decide +kernel
theorem dX9_rulesAt_7 : decode cX9_rulesAt 7 = .ok (.aload_n 0, 1) := by decide +kernel
theorem dX9_rulesAt_8 : decode cX9_rulesAt 8 = .ok (.getfield 15, 3) := by decide +kernel
theorem dX9_rulesAt_11 : decode cX9_rulesAt 11 = .ok (.if_icmp .ge 30, 3) := by decide +kernel
theorem dX9_rulesAt_14 : decode cX9_rulesAt 14 = .ok (.iload_n 1, 1) := by decide +kernel
theorem dX9_rulesAt_15 : decode cX9_rulesAt 15 = .ok (.iload 4, 2) := by decide +kernel
theorem dX9_rulesAt_17 : decode cX9_rulesAt 17 = .ok (.iushr, 1) := by decide +kernel
theorem dX9_rulesAt_18 : decode cX9_rulesAt 18 = .ok (.iconst 1, 1) := by decide +kernel
theorem dX9_rulesAt_19 : decode cX9_rulesAt 19 = .ok (.iand, 1) := by decide +kernel
theorem dX9_rulesAt_20 : decode cX9_rulesAt 20 = .ok (.ifCond .eq 15, 3) := by decide +kernel
theorem dX9_rulesAt_23 : decode cX9_rulesAt 23 = .ok (.lload_n 2, 1) := by decide +kernel
theorem dX9_rulesAt_24 : decode cX9_rulesAt 24 = .ok (.lconst 1, 1) := by decide +kernel
theorem dX9_rulesAt_25 : decode cX9_rulesAt 25 = .ok (.aload_n 0, 1) := by decide +kernel
theorem dX9_rulesAt_26 : decode cX9_rulesAt 26 = .ok (.getfield 9, 3) := by decide +kernel
theorem dX9_rulesAt_29 : decode cX9_rulesAt 29 = .ok (.iload 4, 2) := by decide +kernel
theorem dX9_rulesAt_31 : decode cX9_rulesAt 31 = .ok (.iaload, 1) := by decide +kernel
theorem dX9_rulesAt_32 : decode cX9_rulesAt 32 = .ok (.lshl, 1) := by decide +kernel
theorem dX9_rulesAt_33 : decode cX9_rulesAt 33 = .ok (.lor, 1) := by decide +kernel
theorem dX9_rulesAt_34 : decode cX9_rulesAt 34 = .ok (.lstore_n 2, 1) := by decide +kernel
theorem dX9_rulesAt_35 : decode cX9_rulesAt 35 = .ok (.iinc 4 1, 3) := by decide +kernel
theorem dX9_rulesAt_38 : decode cX9_rulesAt 38 = .ok (.goto (-33), 3) := by decide +kernel
theorem dX9_rulesAt_41 : decode cX9_rulesAt 41 = .ok (.lload_n 2, 1) := by decide +kernel
theorem dX9_rulesAt_42 : decode cX9_rulesAt 42 = .ok (.lreturn, 1) := by decide +kernel
set_option maxRecDepth 20000 in
theorem ggX10_init_X2_init : GoodIn wsX10_init wsX2_init := goodIn_r _ [47, 48, 2, 3, 49, 50, 51, 52, 53, 54, 55, 56, 57, 127, 128, 129, 130, 131, 132] (by decide +kernel) (by decide +kernel)
set_option maxRecDepth 20000 in
theorem gX10_init_X2_init : GoodIn wsX10_init (wsX2_init) := ggX10_init_X2_init
set_option maxRecDepth 20000 in
theorem ggX10_init_X6_init : GoodIn wsX10_init wsX6_init := goodIn_r _ [59, 60, 2, 3, 49, 61, 62, 63, 64, 65, 66, 67, 68, 69, 70, 71, 72, 73, 144, 145, 146, 147, 148, 149, 150, 151, 152, 153, 154, 155, 156] (by decide +kernel) (by decide +kernel)
set_option maxRecDepth 20000 in
theorem gX10_init_X6_init_n18 : GoodIn wsX10_init (wsX6_init) := ggX10_init_X6_init
set_option maxRecDepth 20000 in
theorem ggX10_init_X5_init : GoodIn wsX10_init wsX5_init := goodIn_r _ [76, 77, 2, 3, 49, 78, 79, 157, 158] (by decide +kernel) (by decide +kernel)
set_option maxRecDepth 20000 in
theorem gX10_init_X5_init : GoodIn wsX10_init (wsX5_init) := ggX10_init_X5_init
set_option maxRecDepth 20000 in
theorem ggX10_init_X8_init : GoodIn wsX10_init wsX8_init := goodIn_r _ [81, 82, 2, 3, 49, 83, 84, 85, 159, 160, 161, 162] (by decide +kernel) (by decide +kernel)
set_option maxRecDepth 20000 in
theorem gX10_init_X8_init_n32 : GoodIn wsX10_init (wsX8_init) := ggX10_init_X8_init
set_option maxRecDepth 20000 in
theorem ggX10_init_X9_init : GoodIn wsX10_init wsX9_init := goodIn_r _ [87, 88, 2, 3, 49, 89, 163, 164] (by decide +kernel) (by decide +kernel)
set_option maxRecDepth 20000 in
theorem gX10_init_X9_init_n39 : GoodIn wsX10_init (wsX9_init) := ggX10_init_X9_init
set_option maxRecDepth 20000 in
theorem ggX10_init_X4_init : GoodIn wsX10_init wsX4_init := goodIn_r _ [92, 93, 2, 3, 49, 94, 95, 96, 97, 41, 42, 98, 99, 100, 101, 102, 103, 104, 105, 165, 166, 167, 168, 169, 170, 171, 172, 173, 186, 187, 188, 189] (by decide +kernel) (by decide +kernel)
set_option maxRecDepth 20000 in
theorem gX10_init_X4_init : GoodIn wsX10_init (wsX4_init) := ggX10_init_X4_init
set_option maxRecDepth 20000 in
theorem ggX10_init_X0_init : GoodIn wsX10_init wsX0_init := goodIn_r _ [108, 109, 2, 3, 70, 110, 111, 112, 174, 175, 176] (by decide +kernel) (by decide +kernel)
set_option maxRecDepth 20000 in
theorem gX10_init_X0_init : GoodIn wsX10_init (wsX0_init) := ggX10_init_X0_init
set_option maxRecDepth 20000 in
theorem ggX10_init_X7_init : GoodIn wsX10_init wsX7_init := goodIn_r _ [115, 116, 2, 3, 70, 117, 118, 119, 120, 177, 178, 179, 180] (by decide +kernel) (by decide +kernel)
set_option maxRecDepth 20000 in
theorem gX10_init_X7_init : GoodIn wsX10_init (wsX7_init) := ggX10_init_X7_init
set_option maxRecDepth 20000 in
theorem ggX10_init_X1_init : GoodIn wsX10_init wsX1_init := goodIn_r _ [123, 124, 2, 3, 125, 126, 181, 182, 183, 184, 185] (by decide +kernel) (by decide +kernel)
set_option maxRecDepth 20000 in
theorem gX10_init_X1_init : GoodIn wsX10_init (wsX1_init) := ggX10_init_X1_init
set_option maxRecDepth 20000 in
theorem ggX10_init_X3_init : GoodIn wsX10_init wsX3_init := goodIn_r _ [103, 104, 2, 3, 49, 105, 186, 187, 188, 189] (by decide +kernel) (by decide +kernel)
set_option maxRecDepth 20000 in
theorem gX10_init_X3_init_n82 : GoodIn wsX10_init (wsX3_init) := ggX10_init_X3_init
theorem dX10_init_0 : decode cX10_init 0 = .ok (.aload_n 0, 1) := by decide +kernel
theorem dX10_init_1 : decode cX10_init 1 = .ok (.invokespecial 3, 3) := by decide +kernel
theorem dX10_init_4 : decode cX10_init 4 = .ok (.aload_n 0, 1) := by decide +kernel
theorem dX10_init_5 : decode cX10_init 5 = .ok (.new 9, 3) := by decide +kernel
theorem dX10_init_8 : decode cX10_init 8 = .ok (.dup, 1) := by decide +kernel
theorem dX10_init_9 : decode cX10_init 9 = .ok (.invokespecial 11, 3) := by decide +kernel
theorem dX10_init_12 : decode cX10_init 12 = .ok (.putfield 12, 3) := by decide +kernel
theorem dX10_init_15 : decode cX10_init 15 = .ok (.aload_n 0, 1) := by decide +kernel
theorem dX10_init_16 : decode cX10_init 16 = .ok (.new 16, 3) := by decide +kernel
theorem dX10_init_19 : decode cX10_init 19 = .ok (.dup, 1) := by decide +kernel
theorem dX10_init_20 : decode cX10_init 20 = .ok (.invokespecial 18, 3) := by decide +kernel
theorem dX10_init_23 : decode cX10_init 23 = .ok (.putfield 19, 3) := by decide +kernel
theorem dX10_init_26 : decode cX10_init 26 = .ok (.aload_n 0, 1) := by decide +kernel
theorem dX10_init_27 : decode cX10_init 27 = .ok (.new 23, 3) := by decide +kernel
theorem dX10_init_30 : decode cX10_init 30 = .ok (.dup, 1) := by decide +kernel
theorem dX10_init_31 : decode cX10_init 31 = .ok (.invokespecial 25, 3) := by decide +kernel
theorem dX10_init_34 : decode cX10_init 34 = .ok (.putfield 26, 3) := by decide +kernel
theorem dX10_init_37 : decode cX10_init 37 = .ok (.aload_n 0, 1) := by decide +kernel
theorem dX10_init_38 : decode cX10_init 38 = .ok (.new 30, 3) := by decide +kernel
theorem dX10_init_41 : decode cX10_init 41 = .ok (.dup, 1) := by decide +kernel
theorem dX10_init_42 : decode cX10_init 42 = .ok (.invokespecial 32, 3) := by decide +kernel
theorem dX10_init_45 : decode cX10_init 45 = .ok (.putfield 33, 3) := by decide +kernel
theorem dX10_init_48 : decode cX10_init 48 = .ok (.aload_n 0, 1) := by decide +kernel
theorem dX10_init_49 : decode cX10_init 49 = .ok (.new 37, 3) := by decide +kernel
theorem dX10_init_52 : decode cX10_init 52 = .ok (.dup, 1) := by decide +kernel
theorem dX10_init_53 : decode cX10_init 53 = .ok (.invokespecial 39, 3) := by decide +kernel
theorem dX10_init_56 : decode cX10_init 56 = .ok (.putfield 40, 3) := by decide +kernel
theorem dX10_init_59 : decode cX10_init 59 = .ok (.aload_n 0, 1) := by decide +kernel
theorem dX10_init_60 : decode cX10_init 60 = .ok (.new 44, 3) := by decide +kernel
theorem dX10_init_63 : decode cX10_init 63 = .ok (.dup, 1) := by decide +kernel
theorem dX10_init_64 : decode cX10_init 64 = .ok (.aload_n 0, 1) := by decide +kernel
theorem dX10_init_65 : decode cX10_init 65 = .ok (.getfield 19, 3) := by decide +kernel
theorem dX10_init_68 : decode cX10_init 68 = .ok (.aload_n 0, 1) := by decide +kernel
theorem dX10_init_69 : decode cX10_init 69 = .ok (.getfield 26, 3) := by decide +kernel
theorem dX10_init_72 : decode cX10_init 72 = .ok (.aload_n 0, 1) := by decide +kernel
theorem dX10_init_73 : decode cX10_init 73 = .ok (.getfield 33, 3) := by decide +kernel
theorem dX10_init_76 : decode cX10_init 76 = .ok (.invokespecial 46, 3) := by decide +kernel
theorem dX10_init_79 : decode cX10_init 79 = .ok (.putfield 49, 3) := by decide +kernel
theorem dX10_init_82 : decode cX10_init 82 = .ok (.aload_n 0, 1) := by decide +kernel
theorem dX10_init_83 : decode cX10_init 83 = .ok (.new 53, 3) := by decide +kernel
theorem dX10_init_86 : decode cX10_init 86 = .ok (.dup, 1) := by decide +kernel
theorem dX10_init_87 : decode cX10_init 87 = .ok (.aload_n 0, 1) := by decide +kernel
theorem dX10_init_88 : decode cX10_init 88 = .ok (.getfield 19, 3) := by decide +kernel
theorem dX10_init_91 : decode cX10_init 91 = .ok (.aload_n 0, 1) := by decide +kernel
theorem dX10_init_92 : decode cX10_init 92 = .ok (.getfield 49, 3) := by decide +kernel
theorem dX10_init_95 : decode cX10_init 95 = .ok (.invokespecial 55, 3) := by decide +kernel
theorem dX10_init_98 : decode cX10_init 98 = .ok (.putfield 58, 3) := by decide +kernel
theorem dX10_init_101 : decode cX10_init 101 = .ok (.aload_n 0, 1) := by decide +kernel
theorem dX10_init_102 : decode cX10_init 102 = .ok (.new 62, 3) := by decide +kernel
theorem dX10_init_105 : decode cX10_init 105 = .ok (.dup, 1) := by decide +kernel
theorem dX10_init_106 : decode cX10_init 106 = .ok (.aload_n 0, 1) := by decide +kernel
theorem dX10_init_107 : decode cX10_init 107 = .ok (.getfield 12, 3) := by decide +kernel
theorem dX10_init_110 : decode cX10_init 110 = .ok (.aload_n 0, 1) := by decide +kernel
theorem dX10_init_111 : decode cX10_init 111 = .ok (.getfield 40, 3) := by decide +kernel
theorem dX10_init_114 : decode cX10_init 114 = .ok (.aload_n 0, 1) := by decide +kernel
theorem dX10_init_115 : decode cX10_init 115 = .ok (.getfield 49, 3) := by decide +kernel
theorem dX10_init_118 : decode cX10_init 118 = .ok (.invokespecial 64, 3) := by decide +kernel
theorem dX10_init_121 : decode cX10_init 121 = .ok (.putfield 67, 3) := by decide +kernel
theorem dX10_init_124 : decode cX10_init 124 = .ok (.aload_n 0, 1) := by decide +kernel
theorem dX10_init_125 : decode cX10_init 125 = .ok (.new 71, 3) := by decide +kernel
theorem dX10_init_128 : decode cX10_init 128 = .ok (.dup, 1) := by decide +kernel
theorem dX10_init_129 : decode cX10_init 129 = .ok (.aload_n 0, 1) := by decide +kernel
theorem dX10_init_130 : decode cX10_init 130 = .ok (.getfield 12, 3) := by decide +kernel
theorem dX10_init_133 : decode cX10_init 133 = .ok (.aload_n 0, 1) := by decide +kernel
theorem dX10_init_134 : decode cX10_init 134 = .ok (.getfield 58, 3) := by decide +kernel
theorem dX10_init_137 : decode cX10_init 137 = .ok (.invokespecial 73, 3) := by decide +kernel
theorem dX10_init_140 : decode cX10_init 140 = .ok (.putfield 76, 3) := by decide +kernel
theorem dX10_init_143 : decode cX10_init 143 = .ok (.aload_n 0, 1) := by decide +kernel
theorem dX10_init_144 : decode cX10_init 144 = .ok (.new 80, 3) := by decide +kernel
theorem dX10_init_147 : decode cX10_init 147 = .ok (.dup, 1) := by decide +kernel
theorem dX10_init_148 : decode cX10_init 148 = .ok (.invokespecial 82, 3) := by decide +kernel
theorem dX10_init_151 : decode cX10_init 151 = .ok (.putfield 83, 3) := by decide +kernel
theorem dX10_init_154 : decode cX10_init 154 = .ok (.aload_n 0, 1) := by decide +kernel
theorem dX10_init_155 : decode cX10_init 155 = .ok (.new 80, 3) := by decide +kernel
theorem dX10_init_158 : decode cX10_init 158 = .ok (.dup, 1) := by decide +kernel
theorem dX10_init_159 : decode cX10_init 159 = .ok (.invokespecial 82, 3) := by decide +kernel
theorem dX10_init_162 : decode cX10_init 162 = .ok (.putfield 87, 3) := by decide +kernel
theorem dX10_init_165 : decode cX10_init 165 = .ok (.return_, 1) := by decide +kernel
set_option maxRecDepth 20000 in
theorem ggX10_newCase_X10_isDay : GoodIn wsX10_newCase wsX10_isDay := goodIn_r _ [6, 7, 8, 5, 9] (by decide +kernel) (by decide +kernel)
set_option maxRecDepth 20000 in
theorem gX10_newCase_X10_isDay : GoodIn wsX10_newCase (va_wsS RX10 90 yX10_isDay wsX10_isDay) := goodIn_app (goodIn_of _ (by decide +kernel)) ggX10_newCase_X10_isDay
set_option maxRecDepth 20000 in
theorem ggX10_newCase_X2_add : GoodIn wsX10_newCase wsX2_add := goodIn_r _ [14, 15, 16, 28, 29, 30, 31, 32, 33] (by decide +kernel) (by decide +kernel)
set_option maxRecDepth 20000 in
theorem gX10_newCase_X2_add : GoodIn wsX10_newCase (wsV RX10 98 RX2 yX2_add wsX2_add) := goodIn_app (goodIn_of _ (by decide +kernel)) ggX10_newCase_X2_add
theorem dX10_newCase_0 : decode cX10_newCase 0 = .ok (.iload_n 1, 1) := by decide +kernel
theorem dX10_newCase_1 : decode cX10_newCase 1 = .ok (.invokestatic 90, 3) := by decide +kernel
theorem dX10_newCase_4 : decode cX10_newCase 4 = .ok (.ifCond .ne 6, 3) := by decide +kernel
theorem dX10_newCase_7 : decode cX10_newCase 7 = .ok (.bipush (-2), 2) := by decide +kernel
theorem dX10_newCase_9 : decode cX10_newCase 9 = .ok (.ireturn, 1) := by decide +kernel
theorem dX10_newCase_10 : decode cX10_newCase 10 = .ok (.aload_n 0, 1) := by decide +kernel
theorem dX10_newCase_11 : decode cX10_newCase 11 = .ok (.getfield 12, 3) := by decide +kernel
theorem dX10_newCase_14 : decode cX10_newCase 14 = .ok (.getfield 94, 3) := by decide +kernel
theorem dX10_newCase_17 : decode cX10_newCase 17 = .ok (.bipush 16, 2) := by decide +kernel
theorem dX10_newCase_19 : decode cX10_newCase 19 = .ok (.if_icmp .lt 6, 3) := by decide +kernel
theorem dX10_newCase_22 : decode cX10_newCase 22 = .ok (.bipush (-4), 2) := by decide +kernel
theorem dX10_newCase_24 : decode cX10_newCase 24 = .ok (.ireturn, 1) := by decide +kernel
theorem dX10_newCase_25 : decode cX10_newCase 25 = .ok (.aload_n 0, 1) := by decide +kernel
theorem dX10_newCase_26 : decode cX10_newCase 26 = .ok (.getfield 12, 3) := by decide +kernel
theorem dX10_newCase_29 : decode cX10_newCase 29 = .ok (.iload_n 1, 1) := by decide +kernel
theorem dX10_newCase_30 : decode cX10_newCase 30 = .ok (.invokevirtual 98, 3) := by decide +kernel
theorem dX10_newCase_33 : decode cX10_newCase 33 = .ok (.ireturn, 1) := by decide +kernel
set_option maxRecDepth 20000 in
theorem ggX10_tie_X10_isCase : GoodIn wsX10_tie wsX10_isCase := goodIn_r _ [7, 1, 8, 9, 10, 6, 11, 30, 31, 32, 33, 34, 35, 36, 37, 38, 39, 40, 41, 42, 43, 44, 45, 46] (by decide +kernel) (by decide +kernel)
set_option maxRecDepth 20000 in
theorem gX10_tie_X10_isCase : GoodIn wsX10_tie (wsV RX10 102 RX10 yX10_isCase wsX10_isCase) := goodIn_app (goodIn_of _ (by decide +kernel)) ggX10_tie_X10_isCase
set_option maxRecDepth 20000 in
theorem ggX10_tie_X10_isTie : GoodIn wsX10_tie wsX10_isTie := goodIn_r _ [14, 9, 10, 6, 11] (by decide +kernel) (by decide +kernel)
set_option maxRecDepth 20000 in
theorem gX10_tie_X10_isTie : GoodIn wsX10_tie (va_wsS RX10 105 yX10_isTie wsX10_isTie) := goodIn_app (goodIn_of _ (by decide +kernel)) ggX10_tie_X10_isTie
set_option maxRecDepth 20000 in
theorem ggX10_tie_X10_isDay : GoodIn wsX10_tie wsX10_isDay := goodIn_r _ [17, 9, 10, 6, 11] (by decide +kernel) (by decide +kernel)
set_option maxRecDepth 20000 in
theorem gX10_tie_X10_isDay : GoodIn wsX10_tie (va_wsS RX10 90 yX10_isDay wsX10_isDay) := goodIn_app (goodIn_of _ (by decide +kernel)) ggX10_tie_X10_isDay
set_option maxRecDepth 20000 in
theorem ggX10_tie_X10_isLand : GoodIn wsX10_tie wsX10_isLand := goodIn_r _ [20, 9, 10, 6, 11] (by decide +kernel) (by decide +kernel)
set_option maxRecDepth 20000 in
theorem gX10_tie_X10_isLand : GoodIn wsX10_tie (va_wsS RX10 108 yX10_isLand wsX10_isLand) := goodIn_app (goodIn_of _ (by decide +kernel)) ggX10_tie_X10_isLand
set_option maxRecDepth 20000 in
theorem ggX10_tie_X2_tell : GoodIn wsX10_tie wsX2_tell := goodIn_r _ [25, 26, 27, 28, 29, 41, 42, 43, 44, 45, 46] (by decide +kernel) (by decide +kernel)
set_option maxRecDepth 20000 in
theorem gX10_tie_X2_tell : GoodIn wsX10_tie (wsV RX10 114 RX2 yX2_tell wsX2_tell) := goodIn_app (goodIn_of _ (by decide +kernel)) ggX10_tie_X2_tell
theorem dX10_tie_0 : decode cX10_tie 0 = .ok (.aload_n 0, 1) := by decide +kernel
theorem dX10_tie_1 : decode cX10_tie 1 = .ok (.iload_n 1, 1) := by decide +kernel
theorem dX10_tie_2 : decode cX10_tie 2 = .ok (.invokevirtual 102, 3) := by decide +kernel
theorem dX10_tie_5 : decode cX10_tie 5 = .ok (.ifCond .eq 18, 3) := by decide +kernel
theorem dX10_tie_8 : decode cX10_tie 8 = .ok (.iload_n 2, 1) := by decide +kernel
theorem dX10_tie_9 : decode cX10_tie 9 = .ok (.invokestatic 105, 3) := by decide +kernel
theorem dX10_tie_12 : decode cX10_tie 12 = .ok (.ifCond .eq 11, 3) := by decide +kernel
theorem dX10_tie_15 : decode cX10_tie 15 = .ok (.iload 4, 2) := by decide +kernel
theorem dX10_tie_17 : decode cX10_tie 17 = .ok (.invokestatic 90, 3) := by decide +kernel
theorem dX10_tie_20 : decode cX10_tie 20 = .ok (.ifCond .ne 6, 3) := by decide +kernel
theorem dX10_tie_23 : decode cX10_tie 23 = .ok (.bipush (-2), 2) := by decide +kernel
theorem dX10_tie_25 : decode cX10_tie 25 = .ok (.ireturn, 1) := by decide +kernel
theorem dX10_tie_26 : decode cX10_tie 26 = .ok (.iload_n 3, 1) := by decide +kernel
theorem dX10_tie_27 : decode cX10_tie 27 = .ok (.iconst (-1), 1) := by decide +kernel
theorem dX10_tie_28 : decode cX10_tie 28 = .ok (.if_icmp .eq 13, 3) := by decide +kernel
theorem dX10_tie_31 : decode cX10_tie 31 = .ok (.iload_n 3, 1) := by decide +kernel
theorem dX10_tie_32 : decode cX10_tie 32 = .ok (.invokestatic 108, 3) := by decide +kernel
theorem dX10_tie_35 : decode cX10_tie 35 = .ok (.ifCond .ne 6, 3) := by decide +kernel
theorem dX10_tie_38 : decode cX10_tie 38 = .ok (.bipush (-2), 2) := by decide +kernel
theorem dX10_tie_40 : decode cX10_tie 40 = .ok (.ireturn, 1) := by decide +kernel
theorem dX10_tie_41 : decode cX10_tie 41 = .ok (.aload_n 0, 1) := by decide +kernel
theorem dX10_tie_42 : decode cX10_tie 42 = .ok (.getfield 12, 3) := by decide +kernel
theorem dX10_tie_45 : decode cX10_tie 45 = .ok (.getfield 111, 3) := by decide +kernel
theorem dX10_tie_48 : decode cX10_tie 48 = .ok (.bipush 60, 2) := by decide +kernel
theorem dX10_tie_50 : decode cX10_tie 50 = .ok (.if_icmp .lt 6, 3) := by decide +kernel
theorem dX10_tie_53 : decode cX10_tie 53 = .ok (.bipush (-4), 2) := by decide +kernel
theorem dX10_tie_55 : decode cX10_tie 55 = .ok (.ireturn, 1) := by decide +kernel
theorem dX10_tie_56 : decode cX10_tie 56 = .ok (.aload_n 0, 1) := by decide +kernel
theorem dX10_tie_57 : decode cX10_tie 57 = .ok (.getfield 12, 3) := by decide +kernel
theorem dX10_tie_60 : decode cX10_tie 60 = .ok (.iload_n 1, 1) := by decide +kernel
theorem dX10_tie_61 : decode cX10_tie 61 = .ok (.iload_n 2, 1) := by decide +kernel
theorem dX10_tie_62 : decode cX10_tie 62 = .ok (.iload_n 3, 1) := by decide +kernel
theorem dX10_tie_63 : decode cX10_tie 63 = .ok (.iload 4, 2) := by decide +kernel
theorem dX10_tie_65 : decode cX10_tie 65 = .ok (.invokevirtual 114, 3) := by decide +kernel
theorem dX10_tie_68 : decode cX10_tie 68 = .ok (.ireturn, 1) := by decide +kernel
set_option maxRecDepth 20000 in
theorem ggX10_which_X10_isCase : GoodIn wsX10_which wsX10_isCase := goodIn_r _ [6, 1, 7, 8, 9, 5, 10, 20, 21, 22, 23, 24, 25, 26, 27, 28, 29, 30, 31, 32, 33, 34, 35, 36] (by decide +kernel) (by decide +kernel)
set_option maxRecDepth 20000 in
theorem gX10_which_X10_isCase : GoodIn wsX10_which (wsV RX10 102 RX10 yX10_isCase wsX10_isCase) := goodIn_app (goodIn_of _ (by decide +kernel)) ggX10_which_X10_isCase
set_option maxRecDepth 20000 in
theorem ggX10_which_X10_isTie : GoodIn wsX10_which wsX10_isTie := goodIn_r _ [13, 8, 9, 5, 10] (by decide +kernel) (by decide +kernel)
set_option maxRecDepth 20000 in
theorem gX10_which_X10_isTie : GoodIn wsX10_which (va_wsS RX10 105 yX10_isTie wsX10_isTie) := goodIn_app (goodIn_of _ (by decide +kernel)) ggX10_which_X10_isTie
set_option maxRecDepth 20000 in
theorem ggX10_which_X2_landOf : GoodIn wsX10_which wsX2_landOf := goodIn_r _ [18, 19, 31, 32, 33, 34, 35, 36] (by decide +kernel) (by decide +kernel)
set_option maxRecDepth 20000 in
theorem gX10_which_X2_landOf : GoodIn wsX10_which (wsV RX10 118 RX2 yX2_landOf wsX2_landOf) := goodIn_app (goodIn_of _ (by decide +kernel)) ggX10_which_X2_landOf
theorem dX10_which_0 : decode cX10_which 0 = .ok (.aload_n 0, 1) := by decide +kernel
theorem dX10_which_1 : decode cX10_which 1 = .ok (.iload_n 1, 1) := by decide +kernel
theorem dX10_which_2 : decode cX10_which 2 = .ok (.invokevirtual 102, 3) := by decide +kernel
theorem dX10_which_5 : decode cX10_which 5 = .ok (.ifCond .eq 10, 3) := by decide +kernel
theorem dX10_which_8 : decode cX10_which 8 = .ok (.iload_n 2, 1) := by decide +kernel
theorem dX10_which_9 : decode cX10_which 9 = .ok (.invokestatic 105, 3) := by decide +kernel
theorem dX10_which_12 : decode cX10_which 12 = .ok (.ifCond .ne 6, 3) := by decide +kernel
theorem dX10_which_15 : decode cX10_which 15 = .ok (.bipush (-10), 2) := by decide +kernel
theorem dX10_which_17 : decode cX10_which 17 = .ok (.ireturn, 1) := by decide +kernel
theorem dX10_which_18 : decode cX10_which 18 = .ok (.aload_n 0, 1) := by decide +kernel
theorem dX10_which_19 : decode cX10_which 19 = .ok (.getfield 12, 3) := by decide +kernel
theorem dX10_which_22 : decode cX10_which 22 = .ok (.iload_n 1, 1) := by decide +kernel
theorem dX10_which_23 : decode cX10_which 23 = .ok (.iload_n 2, 1) := by decide +kernel
theorem dX10_which_24 : decode cX10_which 24 = .ok (.invokevirtual 118, 3) := by decide +kernel
theorem dX10_which_27 : decode cX10_which 27 = .ok (.ireturn, 1) := by decide +kernel
set_option maxRecDepth 20000 in
theorem ggX10_rule_X10_isLand : GoodIn wsX10_rule wsX10_isLand := goodIn_r _ [6, 7, 8, 5, 9] (by decide +kernel) (by decide +kernel)
set_option maxRecDepth 20000 in
theorem gX10_rule_X10_isLand : GoodIn wsX10_rule (va_wsS RX10 108 yX10_isLand wsX10_isLand) := goodIn_app (goodIn_of _ (by decide +kernel)) ggX10_rule_X10_isLand
set_option maxRecDepth 20000 in
theorem ggX10_rule_X10_isKind : GoodIn wsX10_rule wsX10_isKind := goodIn_r _ [12, 7, 8, 5, 9] (by decide +kernel) (by decide +kernel)
set_option maxRecDepth 20000 in
theorem gX10_rule_X10_isKind : GoodIn wsX10_rule (va_wsS RX10 122 yX10_isKind wsX10_isKind) := goodIn_app (goodIn_of _ (by decide +kernel)) ggX10_rule_X10_isKind
set_option maxRecDepth 20000 in
theorem ggX10_rule_X10_isDay : GoodIn wsX10_rule wsX10_isDay := goodIn_r _ [15, 7, 8, 5, 9] (by decide +kernel) (by decide +kernel)
set_option maxRecDepth 20000 in
theorem gX10_rule_X10_isDay : GoodIn wsX10_rule (va_wsS RX10 90 yX10_isDay wsX10_isDay) := goodIn_app (goodIn_of _ (by decide +kernel)) ggX10_rule_X10_isDay
set_option maxRecDepth 20000 in
theorem ggX10_rule_X10_isBelow : GoodIn wsX10_rule wsX10_isBelow := goodIn_r _ [9] (by decide +kernel) (by decide +kernel)
set_option maxRecDepth 20000 in
theorem gX10_rule_X10_isBelow : GoodIn wsX10_rule (va_wsS RX10 125 yX10_isBelow wsX10_isBelow) := goodIn_app (goodIn_of _ (by decide +kernel)) ggX10_rule_X10_isBelow
set_option maxRecDepth 20000 in
theorem ggX10_rule_X6_add : GoodIn wsX10_rule wsX6_add := goodIn_r _ [20, 21, 22, 23, 24, 25, 26, 27, 28, 29, 41, 42, 43, 44, 45, 46, 47, 48, 49, 50, 51, 52, 53] (by decide +kernel) (by decide +kernel)
set_option maxRecDepth 20000 in
theorem gX10_rule_X6_add : GoodIn wsX10_rule (wsV RX10 130 RX6 yX6_add wsX6_add) := goodIn_app (goodIn_of _ (by decide +kernel)) ggX10_rule_X6_add
theorem dX10_rule_0 : decode cX10_rule 0 = .ok (.iload_n 1, 1) := by decide +kernel
theorem dX10_rule_1 : decode cX10_rule 1 = .ok (.invokestatic 108, 3) := by decide +kernel
theorem dX10_rule_4 : decode cX10_rule 4 = .ok (.ifCond .eq 18, 3) := by decide +kernel
theorem dX10_rule_7 : decode cX10_rule 7 = .ok (.iload_n 2, 1) := by decide +kernel
theorem dX10_rule_8 : decode cX10_rule 8 = .ok (.invokestatic 122, 3) := by decide +kernel
theorem dX10_rule_11 : decode cX10_rule 11 = .ok (.ifCond .eq 11, 3) := by decide +kernel
theorem dX10_rule_14 : decode cX10_rule 14 = .ok (.iload 5, 2) := by decide +kernel
theorem dX10_rule_16 : decode cX10_rule 16 = .ok (.invokestatic 90, 3) := by decide +kernel
theorem dX10_rule_19 : decode cX10_rule 19 = .ok (.ifCond .ne 6, 3) := by decide +kernel
theorem dX10_rule_22 : decode cX10_rule 22 = .ok (.bipush (-2), 2) := by decide +kernel
theorem dX10_rule_24 : decode cX10_rule 24 = .ok (.ireturn, 1) := by decide +kernel
theorem dX10_rule_25 : decode cX10_rule 25 = .ok (.iload_n 3, 1) := by decide +kernel
theorem dX10_rule_26 : decode cX10_rule 26 = .ok (.iconst 2, 1) := by decide +kernel
theorem dX10_rule_27 : decode cX10_rule 27 = .ok (.invokestatic 125, 3) := by decide +kernel
theorem dX10_rule_30 : decode cX10_rule 30 = .ok (.ifCond .eq 13, 3) := by decide +kernel
theorem dX10_rule_33 : decode cX10_rule 33 = .ok (.iload 4, 2) := by decide +kernel
theorem dX10_rule_35 : decode cX10_rule 35 = .ok (.bipush 11, 2) := by decide +kernel
theorem dX10_rule_37 : decode cX10_rule 37 = .ok (.invokestatic 125, 3) := by decide +kernel
theorem dX10_rule_40 : decode cX10_rule 40 = .ok (.ifCond .ne 6, 3) := by decide +kernel
theorem dX10_rule_43 : decode cX10_rule 43 = .ok (.bipush (-2), 2) := by decide +kernel
theorem dX10_rule_45 : decode cX10_rule 45 = .ok (.ireturn, 1) := by decide +kernel
theorem dX10_rule_46 : decode cX10_rule 46 = .ok (.aload_n 0, 1) := by decide +kernel
theorem dX10_rule_47 : decode cX10_rule 47 = .ok (.getfield 19, 3) := by decide +kernel
theorem dX10_rule_50 : decode cX10_rule 50 = .ok (.getfield 129, 3) := by decide +kernel
theorem dX10_rule_53 : decode cX10_rule 53 = .ok (.bipush 60, 2) := by decide +kernel
theorem dX10_rule_55 : decode cX10_rule 55 = .ok (.if_icmp .lt 6, 3) := by decide +kernel
theorem dX10_rule_58 : decode cX10_rule 58 = .ok (.bipush (-4), 2) := by decide +kernel
theorem dX10_rule_60 : decode cX10_rule 60 = .ok (.ireturn, 1) := by decide +kernel
theorem dX10_rule_61 : decode cX10_rule 61 = .ok (.aload_n 0, 1) := by decide +kernel
theorem dX10_rule_62 : decode cX10_rule 62 = .ok (.getfield 19, 3) := by decide +kernel
theorem dX10_rule_65 : decode cX10_rule 65 = .ok (.iload_n 1, 1) := by decide +kernel
theorem dX10_rule_66 : decode cX10_rule 66 = .ok (.iload_n 2, 1) := by decide +kernel
theorem dX10_rule_67 : decode cX10_rule 67 = .ok (.iload_n 3, 1) := by decide +kernel
theorem dX10_rule_68 : decode cX10_rule 68 = .ok (.iload 4, 2) := by decide +kernel
theorem dX10_rule_70 : decode cX10_rule 70 = .ok (.iload 5, 2) := by decide +kernel
theorem dX10_rule_72 : decode cX10_rule 72 = .ok (.invokevirtual 130, 3) := by decide +kernel
theorem dX10_rule_75 : decode cX10_rule 75 = .ok (.ireturn, 1) := by decide +kernel
set_option maxRecDepth 20000 in
theorem ggX10_test_X10_isRule : GoodIn wsX10_test wsX10_isRule := goodIn_r _ [7, 1, 8, 9, 10, 6, 11, 40, 41, 42, 43, 44, 45, 46, 47, 48, 49, 50, 51, 52, 53, 54, 55, 56, 57, 58, 59, 60, 61, 62, 63] (by decide +kernel) (by decide +kernel)
set_option maxRecDepth 20000 in
theorem gX10_test_X10_isRule : GoodIn wsX10_test (wsV RX10 133 RX10 yX10_isRule wsX10_isRule) := goodIn_app (goodIn_of _ (by decide +kernel)) ggX10_test_X10_isRule
set_option maxRecDepth 20000 in
theorem ggX10_test_X10_isTie : GoodIn wsX10_test wsX10_isTie := goodIn_r _ [14, 9, 10, 6, 11] (by decide +kernel) (by decide +kernel)
set_option maxRecDepth 20000 in
theorem gX10_test_X10_isTie : GoodIn wsX10_test (va_wsS RX10 105 yX10_isTie wsX10_isTie) := goodIn_app (goodIn_of _ (by decide +kernel)) ggX10_test_X10_isTie
set_option maxRecDepth 20000 in
theorem ggX10_test_X10_isBelow : GoodIn wsX10_test wsX10_isBelow := goodIn_r _ [11] (by decide +kernel) (by decide +kernel)
set_option maxRecDepth 20000 in
theorem gX10_test_X10_isBelow : GoodIn wsX10_test (va_wsS RX10 125 yX10_isBelow wsX10_isBelow) := goodIn_app (goodIn_of _ (by decide +kernel)) ggX10_test_X10_isBelow
set_option maxRecDepth 20000 in
theorem ggX10_test_X6_addTest : GoodIn wsX10_test wsX6_addTest := goodIn_r _ [19, 20, 21, 22, 23, 24, 25, 26, 18, 27, 28, 29, 30, 31, 32, 33, 34, 35, 36, 37, 38, 39, 51, 52, 53, 54, 55, 56, 57, 58, 59, 60, 61, 62, 63] (by decide +kernel) (by decide +kernel)
set_option maxRecDepth 20000 in
theorem gX10_test_X6_addTest : GoodIn wsX10_test (wsV RX10 140 RX6 yX6_addTest wsX6_addTest) := goodIn_app (goodIn_of _ (by decide +kernel)) ggX10_test_X6_addTest
theorem dX10_test_0 : decode cX10_test 0 = .ok (.aload_n 0, 1) := by decide +kernel
theorem dX10_test_1 : decode cX10_test 1 = .ok (.iload_n 1, 1) := by decide +kernel
theorem dX10_test_2 : decode cX10_test 2 = .ok (.invokevirtual 133, 3) := by decide +kernel
theorem dX10_test_5 : decode cX10_test 5 = .ok (.ifCond .eq 19, 3) := by decide +kernel
theorem dX10_test_8 : decode cX10_test 8 = .ok (.iload_n 2, 1) := by decide +kernel
theorem dX10_test_9 : decode cX10_test 9 = .ok (.invokestatic 105, 3) := by decide +kernel
theorem dX10_test_12 : decode cX10_test 12 = .ok (.ifCond .eq 12, 3) := by decide +kernel
theorem dX10_test_15 : decode cX10_test 15 = .ok (.iload_n 3, 1) := by decide +kernel
theorem dX10_test_16 : decode cX10_test 16 = .ok (.bipush 14, 2) := by decide +kernel
theorem dX10_test_18 : decode cX10_test 18 = .ok (.invokestatic 125, 3) := by decide +kernel
theorem dX10_test_21 : decode cX10_test 21 = .ok (.ifCond .ne 6, 3) := by decide +kernel
theorem dX10_test_24 : decode cX10_test 24 = .ok (.bipush (-2), 2) := by decide +kernel
theorem dX10_test_26 : decode cX10_test 26 = .ok (.ireturn, 1) := by decide +kernel
theorem dX10_test_27 : decode cX10_test 27 = .ok (.aload_n 0, 1) := by decide +kernel
theorem dX10_test_28 : decode cX10_test 28 = .ok (.getfield 19, 3) := by decide +kernel
theorem dX10_test_31 : decode cX10_test 31 = .ok (.getfield 136, 3) := by decide +kernel
theorem dX10_test_34 : decode cX10_test 34 = .ok (.iload_n 1, 1) := by decide +kernel
theorem dX10_test_35 : decode cX10_test 35 = .ok (.iaload, 1) := by decide +kernel
theorem dX10_test_36 : decode cX10_test 36 = .ok (.iconst 2, 1) := by decide +kernel
theorem dX10_test_37 : decode cX10_test 37 = .ok (.if_icmp .lt 6, 3) := by decide +kernel
theorem dX10_test_40 : decode cX10_test 40 = .ok (.bipush (-4), 2) := by decide +kernel
theorem dX10_test_42 : decode cX10_test 42 = .ok (.ireturn, 1) := by decide +kernel
theorem dX10_test_43 : decode cX10_test 43 = .ok (.aload_n 0, 1) := by decide +kernel
theorem dX10_test_44 : decode cX10_test 44 = .ok (.getfield 19, 3) := by decide +kernel
theorem dX10_test_47 : decode cX10_test 47 = .ok (.iload_n 1, 1) := by decide +kernel
theorem dX10_test_48 : decode cX10_test 48 = .ok (.iload_n 2, 1) := by decide +kernel
theorem dX10_test_49 : decode cX10_test 49 = .ok (.iload_n 3, 1) := by decide +kernel
theorem dX10_test_50 : decode cX10_test 50 = .ok (.invokevirtual 140, 3) := by decide +kernel
theorem dX10_test_53 : decode cX10_test 53 = .ok (.ireturn, 1) := by decide +kernel
set_option maxRecDepth 20000 in
theorem ggX10_strike_X10_isRule : GoodIn wsX10_strike wsX10_isRule := goodIn_r _ [7, 1, 8, 9, 10, 6, 11, 15, 16, 17, 18, 19, 20, 21, 22, 23, 24, 25, 26, 27, 28, 29, 30, 31, 32, 33, 34, 35, 36, 37, 38] (by decide +kernel) (by decide +kernel)
set_option maxRecDepth 20000 in
theorem gX10_strike_X10_isRule : GoodIn wsX10_strike (wsV RX10 133 RX10 yX10_isRule wsX10_isRule) := goodIn_app (goodIn_of _ (by decide +kernel)) ggX10_strike_X10_isRule
set_option maxRecDepth 20000 in
theorem ggX10_strike_X10_isDay : GoodIn wsX10_strike wsX10_isDay := goodIn_r _ [14, 9, 10, 6, 11] (by decide +kernel) (by decide +kernel)
set_option maxRecDepth 20000 in
theorem gX10_strike_X10_isDay : GoodIn wsX10_strike (va_wsS RX10 90 yX10_isDay wsX10_isDay) := goodIn_app (goodIn_of _ (by decide +kernel)) ggX10_strike_X10_isDay
theorem dX10_strike_0 : decode cX10_strike 0 = .ok (.aload_n 0, 1) := by decide +kernel
theorem dX10_strike_1 : decode cX10_strike 1 = .ok (.iload_n 1, 1) := by decide +kernel
theorem dX10_strike_2 : decode cX10_strike 2 = .ok (.invokevirtual 133, 3) := by decide +kernel
theorem dX10_strike_5 : decode cX10_strike 5 = .ok (.ifCond .eq 10, 3) := by decide +kernel
theorem dX10_strike_8 : decode cX10_strike 8 = .ok (.iload_n 2, 1) := by decide +kernel
theorem dX10_strike_9 : decode cX10_strike 9 = .ok (.invokestatic 90, 3) := by decide +kernel
theorem dX10_strike_12 : decode cX10_strike 12 = .ok (.ifCond .ne 6, 3) := by decide +kernel
theorem dX10_strike_15 : decode cX10_strike 15 = .ok (.bipush (-2), 2) := by decide +kernel
theorem dX10_strike_17 : decode cX10_strike 17 = .ok (.ireturn, 1) := by decide +kernel
theorem dX10_strike_18 : decode cX10_strike 18 = .ok (.aload_n 0, 1) := by decide +kernel
theorem dX10_strike_19 : decode cX10_strike 19 = .ok (.getfield 19, 3) := by decide +kernel
theorem dX10_strike_22 : decode cX10_strike 22 = .ok (.getfield 144, 3) := by decide +kernel
theorem dX10_strike_25 : decode cX10_strike 25 = .ok (.iload_n 1, 1) := by decide +kernel
theorem dX10_strike_26 : decode cX10_strike 26 = .ok (.iaload, 1) := by decide +kernel
theorem dX10_strike_27 : decode cX10_strike 27 = .ok (.iconst (-1), 1) := by decide +kernel
theorem dX10_strike_28 : decode cX10_strike 28 = .ok (.if_icmp .eq 6, 3) := by decide +kernel
theorem dX10_strike_31 : decode cX10_strike 31 = .ok (.bipush (-3), 2) := by decide +kernel
theorem dX10_strike_33 : decode cX10_strike 33 = .ok (.ireturn, 1) := by decide +kernel
theorem dX10_strike_34 : decode cX10_strike 34 = .ok (.aload_n 0, 1) := by decide +kernel
theorem dX10_strike_35 : decode cX10_strike 35 = .ok (.getfield 19, 3) := by decide +kernel
theorem dX10_strike_38 : decode cX10_strike 38 = .ok (.getfield 144, 3) := by decide +kernel
theorem dX10_strike_41 : decode cX10_strike 41 = .ok (.iload_n 1, 1) := by decide +kernel
theorem dX10_strike_42 : decode cX10_strike 42 = .ok (.iload_n 2, 1) := by decide +kernel
theorem dX10_strike_43 : decode cX10_strike 43 = .ok (.iastore, 1) := by decide +kernel
theorem dX10_strike_44 : decode cX10_strike 44 = .ok (.iconst 1, 1) := by decide +kernel
theorem dX10_strike_45 : decode cX10_strike 45 = .ok (.ireturn, 1) := by decide +kernel
set_option maxRecDepth 20000 in
theorem ggX10_sort_X10_isLand : GoodIn wsX10_sort wsX10_isLand := goodIn_r _ [6, 7, 8, 5, 9] (by decide +kernel) (by decide +kernel)
set_option maxRecDepth 20000 in
theorem gX10_sort_X10_isLand : GoodIn wsX10_sort (va_wsS RX10 108 yX10_isLand wsX10_isLand) := goodIn_app (goodIn_of _ (by decide +kernel)) ggX10_sort_X10_isLand
set_option maxRecDepth 20000 in
theorem ggX10_sort_X10_isKind : GoodIn wsX10_sort wsX10_isKind := goodIn_r _ [12, 7, 8, 5, 9] (by decide +kernel) (by decide +kernel)
set_option maxRecDepth 20000 in
theorem gX10_sort_X10_isKind : GoodIn wsX10_sort (va_wsS RX10 122 yX10_isKind wsX10_isKind) := goodIn_app (goodIn_of _ (by decide +kernel)) ggX10_sort_X10_isKind
set_option maxRecDepth 20000 in
theorem ggX10_sort_X5_ownKind : GoodIn wsX10_sort wsX5_ownKind := goodIn_r _ [17, 18, 30, 31] (by decide +kernel) (by decide +kernel)
set_option maxRecDepth 20000 in
theorem gX10_sort_X5_ownKind : GoodIn wsX10_sort (wsV RX10 147 RX5 yX5_ownKind wsX5_ownKind) := goodIn_app (goodIn_of _ (by decide +kernel)) ggX10_sort_X5_ownKind
theorem dX10_sort_0 : decode cX10_sort 0 = .ok (.iload_n 1, 1) := by decide +kernel
theorem dX10_sort_1 : decode cX10_sort 1 = .ok (.invokestatic 108, 3) := by decide +kernel
theorem dX10_sort_4 : decode cX10_sort 4 = .ok (.ifCond .eq 17, 3) := by decide +kernel
theorem dX10_sort_7 : decode cX10_sort 7 = .ok (.iload_n 2, 1) := by decide +kernel
theorem dX10_sort_8 : decode cX10_sort 8 = .ok (.invokestatic 122, 3) := by decide +kernel
theorem dX10_sort_11 : decode cX10_sort 11 = .ok (.ifCond .eq 10, 3) := by decide +kernel
theorem dX10_sort_14 : decode cX10_sort 14 = .ok (.iload_n 3, 1) := by decide +kernel
theorem dX10_sort_15 : decode cX10_sort 15 = .ok (.invokestatic 122, 3) := by decide +kernel
theorem dX10_sort_18 : decode cX10_sort 18 = .ok (.ifCond .ne 6, 3) := by decide +kernel
theorem dX10_sort_21 : decode cX10_sort 21 = .ok (.bipush (-2), 2) := by decide +kernel
theorem dX10_sort_23 : decode cX10_sort 23 = .ok (.ireturn, 1) := by decide +kernel
theorem dX10_sort_24 : decode cX10_sort 24 = .ok (.aload_n 0, 1) := by decide +kernel
theorem dX10_sort_25 : decode cX10_sort 25 = .ok (.getfield 26, 3) := by decide +kernel
theorem dX10_sort_28 : decode cX10_sort 28 = .ok (.iload_n 1, 1) := by decide +kernel
theorem dX10_sort_29 : decode cX10_sort 29 = .ok (.iload_n 2, 1) := by decide +kernel
theorem dX10_sort_30 : decode cX10_sort 30 = .ok (.invokevirtual 147, 3) := by decide +kernel
theorem dX10_sort_33 : decode cX10_sort 33 = .ok (.istore 4, 2) := by decide +kernel
theorem dX10_sort_35 : decode cX10_sort 35 = .ok (.aload_n 0, 1) := by decide +kernel
theorem dX10_sort_36 : decode cX10_sort 36 = .ok (.getfield 26, 3) := by decide +kernel
theorem dX10_sort_39 : decode cX10_sort 39 = .ok (.getfield 150, 3) := by decide +kernel
theorem dX10_sort_42 : decode cX10_sort 42 = .ok (.iload_n 1, 1) := by decide +kernel
theorem dX10_sort_43 : decode cX10_sort 43 = .ok (.iconst 3, 1) := by decide +kernel
theorem dX10_sort_44 : decode cX10_sort 44 = .ok (.imul, 1) := by decide +kernel
theorem dX10_sort_45 : decode cX10_sort 45 = .ok (.iload_n 2, 1) := by decide +kernel
theorem dX10_sort_46 : decode cX10_sort 46 = .ok (.iadd, 1) := by decide +kernel
theorem dX10_sort_47 : decode cX10_sort 47 = .ok (.iload_n 3, 1) := by decide +kernel
theorem dX10_sort_48 : decode cX10_sort 48 = .ok (.iastore, 1) := by decide +kernel
theorem dX10_sort_49 : decode cX10_sort 49 = .ok (.iload 4, 2) := by decide +kernel
theorem dX10_sort_51 : decode cX10_sort 51 = .ok (.ireturn, 1) := by decide +kernel
set_option maxRecDepth 20000 in
theorem ggX10_way_X10_isLand : GoodIn wsX10_way wsX10_isLand := goodIn_r _ [6, 7, 8, 5, 9] (by decide +kernel) (by decide +kernel)
set_option maxRecDepth 20000 in
theorem gX10_way_X10_isLand : GoodIn wsX10_way (va_wsS RX10 108 yX10_isLand wsX10_isLand) := goodIn_app (goodIn_of _ (by decide +kernel)) ggX10_way_X10_isLand
set_option maxRecDepth 20000 in
theorem ggX10_way_X10_isBelow : GoodIn wsX10_way wsX10_isBelow := goodIn_r _ [9] (by decide +kernel) (by decide +kernel)
set_option maxRecDepth 20000 in
theorem gX10_way_X10_isBelow : GoodIn wsX10_way (va_wsS RX10 125 yX10_isBelow wsX10_isBelow) := goodIn_app (goodIn_of _ (by decide +kernel)) ggX10_way_X10_isBelow
theorem dX10_way_0 : decode cX10_way 0 = .ok (.iload_n 1, 1) := by decide +kernel
theorem dX10_way_1 : decode cX10_way 1 = .ok (.invokestatic 108, 3) := by decide +kernel
theorem dX10_way_4 : decode cX10_way 4 = .ok (.ifCond .eq 11, 3) := by decide +kernel
theorem dX10_way_7 : decode cX10_way 7 = .ok (.iload_n 2, 1) := by decide +kernel
theorem dX10_way_8 : decode cX10_way 8 = .ok (.iconst 4, 1) := by decide +kernel
theorem dX10_way_9 : decode cX10_way 9 = .ok (.invokestatic 125, 3) := by decide +kernel
theorem dX10_way_12 : decode cX10_way 12 = .ok (.ifCond .ne 6, 3) := by decide +kernel
theorem dX10_way_15 : decode cX10_way 15 = .ok (.bipush (-2), 2) := by decide +kernel
theorem dX10_way_17 : decode cX10_way 17 = .ok (.ireturn, 1) := by decide +kernel
theorem dX10_way_18 : decode cX10_way 18 = .ok (.aload_n 0, 1) := by decide +kernel
theorem dX10_way_19 : decode cX10_way 19 = .ok (.getfield 26, 3) := by decide +kernel
theorem dX10_way_22 : decode cX10_way 22 = .ok (.getfield 153, 3) := by decide +kernel
theorem dX10_way_25 : decode cX10_way 25 = .ok (.iload_n 1, 1) := by decide +kernel
theorem dX10_way_26 : decode cX10_way 26 = .ok (.iaload, 1) := by decide +kernel
theorem dX10_way_27 : decode cX10_way 27 = .ok (.istore_n 3, 1) := by decide +kernel
theorem dX10_way_28 : decode cX10_way 28 = .ok (.aload_n 0, 1) := by decide +kernel
theorem dX10_way_29 : decode cX10_way 29 = .ok (.getfield 26, 3) := by decide +kernel
theorem dX10_way_32 : decode cX10_way 32 = .ok (.getfield 153, 3) := by decide +kernel
theorem dX10_way_35 : decode cX10_way 35 = .ok (.iload_n 1, 1) := by decide +kernel
theorem dX10_way_36 : decode cX10_way 36 = .ok (.iload_n 2, 1) := by decide +kernel
theorem dX10_way_37 : decode cX10_way 37 = .ok (.iastore, 1) := by decide +kernel
theorem dX10_way_38 : decode cX10_way 38 = .ok (.iload_n 3, 1) := by decide +kernel
theorem dX10_way_39 : decode cX10_way 39 = .ok (.ireturn, 1) := by decide +kernel
set_option maxRecDepth 20000 in
theorem ggX10_treaty_X10_isKind : GoodIn wsX10_treaty wsX10_isKind := goodIn_r _ [6, 7, 8, 5, 9] (by decide +kernel) (by decide +kernel)
set_option maxRecDepth 20000 in
theorem gX10_treaty_X10_isKind : GoodIn wsX10_treaty (va_wsS RX10 122 yX10_isKind wsX10_isKind) := goodIn_app (goodIn_of _ (by decide +kernel)) ggX10_treaty_X10_isKind
set_option maxRecDepth 20000 in
theorem ggX10_treaty_X10_isBelow : GoodIn wsX10_treaty wsX10_isBelow := goodIn_r _ [9] (by decide +kernel) (by decide +kernel)
set_option maxRecDepth 20000 in
theorem gX10_treaty_X10_isBelow : GoodIn wsX10_treaty (va_wsS RX10 125 yX10_isBelow wsX10_isBelow) := goodIn_app (goodIn_of _ (by decide +kernel)) ggX10_treaty_X10_isBelow
set_option maxRecDepth 20000 in
theorem ggX10_treaty_X10_isTie : GoodIn wsX10_treaty wsX10_isTie := goodIn_r _ [12, 7, 8, 5, 9] (by decide +kernel) (by decide +kernel)
set_option maxRecDepth 20000 in
theorem gX10_treaty_X10_isTie : GoodIn wsX10_treaty (va_wsS RX10 105 yX10_isTie wsX10_isTie) := goodIn_app (goodIn_of _ (by decide +kernel)) ggX10_treaty_X10_isTie
set_option maxRecDepth 20000 in
theorem ggX10_treaty_X8_add : GoodIn wsX10_treaty wsX8_add := goodIn_r _ [17, 18, 19, 20, 21, 33, 34, 35, 36] (by decide +kernel) (by decide +kernel)
set_option maxRecDepth 20000 in
theorem gX10_treaty_X8_add : GoodIn wsX10_treaty (wsV RX10 157 RX8 yX8_add wsX8_add) := goodIn_app (goodIn_of _ (by decide +kernel)) ggX10_treaty_X8_add
theorem dX10_treaty_0 : decode cX10_treaty 0 = .ok (.iload_n 1, 1) := by decide +kernel
theorem dX10_treaty_1 : decode cX10_treaty 1 = .ok (.invokestatic 122, 3) := by decide +kernel
theorem dX10_treaty_4 : decode cX10_treaty 4 = .ok (.ifCond .eq 19, 3) := by decide +kernel
theorem dX10_treaty_7 : decode cX10_treaty 7 = .ok (.iload_n 2, 1) := by decide +kernel
theorem dX10_treaty_8 : decode cX10_treaty 8 = .ok (.bipush 16, 2) := by decide +kernel
theorem dX10_treaty_10 : decode cX10_treaty 10 = .ok (.invokestatic 125, 3) := by decide +kernel
theorem dX10_treaty_13 : decode cX10_treaty 13 = .ok (.ifCond .eq 10, 3) := by decide +kernel
theorem dX10_treaty_16 : decode cX10_treaty 16 = .ok (.iload_n 3, 1) := by decide +kernel
theorem dX10_treaty_17 : decode cX10_treaty 17 = .ok (.invokestatic 105, 3) := by decide +kernel
theorem dX10_treaty_20 : decode cX10_treaty 20 = .ok (.ifCond .ne 6, 3) := by decide +kernel
theorem dX10_treaty_23 : decode cX10_treaty 23 = .ok (.bipush (-2), 2) := by decide +kernel
theorem dX10_treaty_25 : decode cX10_treaty 25 = .ok (.ireturn, 1) := by decide +kernel
theorem dX10_treaty_26 : decode cX10_treaty 26 = .ok (.aload_n 0, 1) := by decide +kernel
theorem dX10_treaty_27 : decode cX10_treaty 27 = .ok (.getfield 33, 3) := by decide +kernel
theorem dX10_treaty_30 : decode cX10_treaty 30 = .ok (.getfield 156, 3) := by decide +kernel
theorem dX10_treaty_33 : decode cX10_treaty 33 = .ok (.bipush 8, 2) := by decide +kernel
theorem dX10_treaty_35 : decode cX10_treaty 35 = .ok (.if_icmp .lt 6, 3) := by decide +kernel
theorem dX10_treaty_38 : decode cX10_treaty 38 = .ok (.bipush (-4), 2) := by decide +kernel
theorem dX10_treaty_40 : decode cX10_treaty 40 = .ok (.ireturn, 1) := by decide +kernel
theorem dX10_treaty_41 : decode cX10_treaty 41 = .ok (.aload_n 0, 1) := by decide +kernel
theorem dX10_treaty_42 : decode cX10_treaty 42 = .ok (.getfield 33, 3) := by decide +kernel
theorem dX10_treaty_45 : decode cX10_treaty 45 = .ok (.iload_n 1, 1) := by decide +kernel
theorem dX10_treaty_46 : decode cX10_treaty 46 = .ok (.iload_n 2, 1) := by decide +kernel
theorem dX10_treaty_47 : decode cX10_treaty 47 = .ok (.iload_n 3, 1) := by decide +kernel
theorem dX10_treaty_48 : decode cX10_treaty 48 = .ok (.invokevirtual 157, 3) := by decide +kernel
theorem dX10_treaty_51 : decode cX10_treaty 51 = .ok (.ireturn, 1) := by decide +kernel
set_option maxRecDepth 20000 in
theorem ggX10_holds_X10_isRule : GoodIn wsX10_holds wsX10_isRule := goodIn_r _ [8, 9, 10, 11, 12, 7, 13, 57, 58, 59, 60, 61, 62, 63, 64, 65, 66, 67, 77, 78, 79, 80, 81, 82, 83, 84, 85, 86, 87, 88, 89] (by decide +kernel) (by decide +kernel)
set_option maxRecDepth 20000 in
theorem gX10_holds_X10_isRule : GoodIn wsX10_holds (wsV RX10 133 RX10 yX10_isRule wsX10_isRule) := goodIn_app (goodIn_of _ (by decide +kernel)) ggX10_holds_X10_isRule
set_option maxRecDepth 20000 in
theorem ggX10_holds_X10_isCase : GoodIn wsX10_holds wsX10_isCase := goodIn_r _ [17, 2, 18, 11, 12, 7, 13, 57, 58, 59, 60, 61, 62, 63, 64, 65, 66, 67, 90, 91, 92, 93, 94, 95] (by decide +kernel) (by decide +kernel)
set_option maxRecDepth 20000 in
theorem gX10_holds_X10_isCase : GoodIn wsX10_holds (wsV RX10 102 RX10 yX10_isCase wsX10_isCase) := goodIn_app (goodIn_of _ (by decide +kernel)) ggX10_holds_X10_isCase
set_option maxRecDepth 20000 in
theorem ggX10_holds_X4_open : GoodIn wsX10_holds wsX4_open := goodIn_r _ [23, 24, 25, 26, 27, 28, 29, 30, 22, 31, 32, 33, 34, 35, 36, 37, 38, 39, 40, 41, 42, 43, 44, 45, 46, 47, 48, 49, 50, 51, 52, 53, 54, 55, 56, 68, 69, 70, 71, 72, 73, 74, 75, 76, 90, 91, 92, 93, 94, 95, 77, 78, 79, 80, 81, 82, 83, 84, 85, 86, 87, 88, 89] (by decide +kernel) (by decide +kernel)
set_option maxRecDepth 20000 in
theorem gX10_holds_X4_open : GoodIn wsX10_holds (wsV RX10 159 RX4 yX4_open wsX4_open) := goodIn_app (goodIn_of _ (by decide +kernel)) ggX10_holds_X4_open
theorem dX10_holds_0 : decode cX10_holds 0 = .ok (.aload_n 0, 1) := by decide +kernel
theorem dX10_holds_1 : decode cX10_holds 1 = .ok (.iload_n 1, 1) := by decide +kernel
theorem dX10_holds_2 : decode cX10_holds 2 = .ok (.invokevirtual 133, 3) := by decide +kernel
theorem dX10_holds_5 : decode cX10_holds 5 = .ok (.ifCond .eq 11, 3) := by decide +kernel
theorem dX10_holds_8 : decode cX10_holds 8 = .ok (.aload_n 0, 1) := by decide +kernel
theorem dX10_holds_9 : decode cX10_holds 9 = .ok (.iload_n 2, 1) := by decide +kernel
theorem dX10_holds_10 : decode cX10_holds 10 = .ok (.invokevirtual 102, 3) := by decide +kernel
theorem dX10_holds_13 : decode cX10_holds 13 = .ok (.ifCond .ne 6, 3) := by decide +kernel
theorem dX10_holds_16 : decode cX10_holds 16 = .ok (.bipush (-2), 2) := by decide +kernel
theorem dX10_holds_18 : decode cX10_holds 18 = .ok (.ireturn, 1) := by decide +kernel
theorem dX10_holds_19 : decode cX10_holds 19 = .ok (.aload_n 0, 1) := by decide +kernel
theorem dX10_holds_20 : decode cX10_holds 20 = .ok (.getfield 49, 3) := by decide +kernel
theorem dX10_holds_23 : decode cX10_holds 23 = .ok (.aload_n 0, 1) := by decide +kernel
theorem dX10_holds_24 : decode cX10_holds 24 = .ok (.getfield 12, 3) := by decide +kernel
theorem dX10_holds_27 : decode cX10_holds 27 = .ok (.iload_n 2, 1) := by decide +kernel
theorem dX10_holds_28 : decode cX10_holds 28 = .ok (.invokevirtual 159, 3) := by decide +kernel
theorem dX10_holds_31 : decode cX10_holds 31 = .ok (.aload_n 0, 1) := by decide +kernel
theorem dX10_holds_32 : decode cX10_holds 32 = .ok (.getfield 49, 3) := by decide +kernel
theorem dX10_holds_35 : decode cX10_holds 35 = .ok (.getfield 163, 3) := by decide +kernel
theorem dX10_holds_38 : decode cX10_holds 38 = .ok (.iload_n 1, 1) := by decide +kernel
theorem dX10_holds_39 : decode cX10_holds 39 = .ok (.lushr, 1) := by decide +kernel
theorem dX10_holds_40 : decode cX10_holds 40 = .ok (.lconst 1, 1) := by decide +kernel
theorem dX10_holds_41 : decode cX10_holds 41 = .ok (.land, 1) := by decide +kernel
theorem dX10_holds_42 : decode cX10_holds 42 = .ok (.lconst 0, 1) := by decide +kernel
theorem dX10_holds_43 : decode cX10_holds 43 = .ok (.lcmp, 1) := by decide +kernel
theorem dX10_holds_44 : decode cX10_holds 44 = .ok (.ifCond .eq 7, 3) := by decide +kernel
theorem dX10_holds_47 : decode cX10_holds 47 = .ok (.iconst 1, 1) := by decide +kernel
theorem dX10_holds_48 : decode cX10_holds 48 = .ok (.goto 4, 3) := by decide +kernel
theorem dX10_holds_51 : decode cX10_holds 51 = .ok (.iconst 0, 1) := by decide +kernel
theorem dX10_holds_52 : decode cX10_holds 52 = .ok (.ireturn, 1) := by decide +kernel
set_option maxRecDepth 20000 in
theorem ggX10_says_X10_isQuestion : GoodIn wsX10_says wsX10_isQuestion := goodIn_r _ [10, 11, 12, 9, 13, 14, 15, 16, 17, 18, 19, 20, 2, 21, 22, 23, 24, 81, 82, 83, 84, 85, 86, 87, 88, 89, 90, 91, 101, 102, 103, 104, 105, 106] (by decide +kernel) (by decide +kernel)
set_option maxRecDepth 20000 in
theorem gX10_says_X10_isQuestion : GoodIn wsX10_says (wsV RX10 167 RX10 yX10_isQuestion wsX10_isQuestion) := goodIn_app (goodIn_of _ (by decide +kernel)) ggX10_says_X10_isQuestion
set_option maxRecDepth 20000 in
theorem ggX10_says_X4_open : GoodIn wsX10_says wsX4_open := goodIn_r _ [29, 30, 31, 32, 33, 34, 35, 36, 28, 37, 38, 39, 40, 41, 42, 43, 44, 45, 46, 47, 48, 49, 50, 51, 52, 53, 54, 55, 56, 57, 58, 59, 60, 61, 62, 92, 93, 94, 95, 96, 97, 98, 99, 100, 101, 102, 103, 104, 105, 106, 107, 108, 109, 110, 111, 112, 113, 114, 115, 116, 117, 118, 119] (by decide +kernel) (by decide +kernel)
set_option maxRecDepth 20000 in
theorem gX10_says_X4_open : GoodIn wsX10_says (wsV RX10 159 RX4 yX4_open wsX4_open) := goodIn_app (goodIn_of _ (by decide +kernel)) ggX10_says_X4_open
set_option maxRecDepth 20000 in
theorem ggX10_says_X5_ownKind : GoodIn wsX10_says wsX5_ownKind := goodIn_r _ [67, 68, 120, 121] (by decide +kernel) (by decide +kernel)
set_option maxRecDepth 20000 in
theorem gX10_says_X5_ownKind : GoodIn wsX10_says (wsV RX10 147 RX5 yX5_ownKind wsX5_ownKind) := goodIn_app (goodIn_of _ (by decide +kernel)) ggX10_says_X5_ownKind
set_option maxRecDepth 20000 in
theorem ggX10_says_X6_first : GoodIn wsX10_says wsX6_first := goodIn_r _ [72, 73, 74, 75, 76, 77, 78, 79, 80, 107, 108, 109, 110, 111, 112, 113, 114, 115, 116, 117, 118, 119] (by decide +kernel) (by decide +kernel)
set_option maxRecDepth 20000 in
theorem gX10_says_X6_first : GoodIn wsX10_says (wsV RX10 171 RX6 yX6_first wsX6_first) := goodIn_app (goodIn_of _ (by decide +kernel)) ggX10_says_X6_first
theorem dX10_says_0 : decode cX10_says 0 = .ok (.aload_n 0, 1) := by decide +kernel
theorem dX10_says_1 : decode cX10_says 1 = .ok (.iload_n 1, 1) := by decide +kernel
theorem dX10_says_2 : decode cX10_says 2 = .ok (.iload_n 2, 1) := by decide +kernel
theorem dX10_says_3 : decode cX10_says 3 = .ok (.iload_n 3, 1) := by decide +kernel
theorem dX10_says_4 : decode cX10_says 4 = .ok (.invokevirtual 167, 3) := by decide +kernel
theorem dX10_says_7 : decode cX10_says 7 = .ok (.ifCond .ne 6, 3) := by decide +kernel
theorem dX10_says_10 : decode cX10_says 10 = .ok (.bipush (-10), 2) := by decide +kernel
theorem dX10_says_12 : decode cX10_says 12 = .ok (.ireturn, 1) := by decide +kernel
theorem dX10_says_13 : decode cX10_says 13 = .ok (.aload_n 0, 1) := by decide +kernel
theorem dX10_says_14 : decode cX10_says 14 = .ok (.getfield 49, 3) := by decide +kernel
theorem dX10_says_17 : decode cX10_says 17 = .ok (.aload_n 0, 1) := by decide +kernel
theorem dX10_says_18 : decode cX10_says 18 = .ok (.getfield 12, 3) := by decide +kernel
theorem dX10_says_21 : decode cX10_says 21 = .ok (.iload_n 2, 1) := by decide +kernel
theorem dX10_says_22 : decode cX10_says 22 = .ok (.invokevirtual 159, 3) := by decide +kernel
theorem dX10_says_25 : decode cX10_says 25 = .ok (.aload_n 0, 1) := by decide +kernel
theorem dX10_says_26 : decode cX10_says 26 = .ok (.getfield 19, 3) := by decide +kernel
theorem dX10_says_29 : decode cX10_says 29 = .ok (.aload_n 0, 1) := by decide +kernel
theorem dX10_says_30 : decode cX10_says 30 = .ok (.getfield 49, 3) := by decide +kernel
theorem dX10_says_33 : decode cX10_says 33 = .ok (.getfield 163, 3) := by decide +kernel
theorem dX10_says_36 : decode cX10_says 36 = .ok (.iload_n 1, 1) := by decide +kernel
theorem dX10_says_37 : decode cX10_says 37 = .ok (.aload_n 0, 1) := by decide +kernel
theorem dX10_says_38 : decode cX10_says 38 = .ok (.getfield 26, 3) := by decide +kernel
theorem dX10_says_41 : decode cX10_says 41 = .ok (.iload_n 1, 1) := by decide +kernel
theorem dX10_says_42 : decode cX10_says 42 = .ok (.iload_n 3, 1) := by decide +kernel
theorem dX10_says_43 : decode cX10_says 43 = .ok (.invokevirtual 147, 3) := by decide +kernel
theorem dX10_says_46 : decode cX10_says 46 = .ok (.invokevirtual 171, 3) := by decide +kernel
theorem dX10_says_49 : decode cX10_says 49 = .ok (.ireturn, 1) := by decide +kernel
set_option maxRecDepth 20000 in
theorem ggX10_said_X10_isQuestion : GoodIn wsX10_said wsX10_isQuestion := goodIn_r _ [8, 9, 10, 7, 11, 12, 13, 14, 15, 16, 17, 18, 19, 20, 21, 22, 23, 99, 100, 101, 102, 103, 104, 105, 106, 107, 108, 109, 119, 120, 121, 122, 123, 124] (by decide +kernel) (by decide +kernel)
set_option maxRecDepth 20000 in
theorem gX10_said_X10_isQuestion : GoodIn wsX10_said (wsV RX10 167 RX10 yX10_isQuestion wsX10_isQuestion) := goodIn_app (goodIn_of _ (by decide +kernel)) ggX10_said_X10_isQuestion
set_option maxRecDepth 20000 in
theorem ggX10_said_X10_hear : GoodIn wsX10_said wsX10_hear := goodIn_r _ [27, 1, 19, 28, 29, 30, 31, 32, 33, 34, 35, 36, 37, 38, 39, 40, 41, 42, 43, 44, 45, 46, 47, 48, 49, 50, 51, 52, 53, 54, 55, 56, 57, 58, 59, 60, 61, 62, 63, 64, 65, 66, 67, 68, 69, 70, 71, 72, 73, 74, 75, 76, 77, 78, 79, 80, 81, 82, 83, 84, 85, 86, 87, 88, 89, 90, 91, 92, 93, 94, 95, 96, 97, 98, 99, 100, 101, 102, 103, 104, 105, 106, 107, 108, 109, 110, 111, 112, 113, 114, 115, 116, 117, 118, 119, 120, 121, 122, 123, 124, 125, 126, 127, 128, 129, 130, 131, 132, 133, 134, 135, 136, 137, 138, 139] (by decide +kernel) (by decide +kernel)
set_option maxRecDepth 20000 in
theorem gX10_said_X10_hear : GoodIn wsX10_said (wsV RX10 175 RX10 yX10_hear wsX10_hear) := goodIn_app (goodIn_of _ (by decide +kernel)) ggX10_said_X10_hear
theorem dX10_said_0 : decode cX10_said 0 = .ok (.aload_n 0, 1) := by decide +kernel
theorem dX10_said_1 : decode cX10_said 1 = .ok (.iload_n 1, 1) := by decide +kernel
theorem dX10_said_2 : decode cX10_said 2 = .ok (.iload_n 2, 1) := by decide +kernel
theorem dX10_said_3 : decode cX10_said 3 = .ok (.iload_n 3, 1) := by decide +kernel
theorem dX10_said_4 : decode cX10_said 4 = .ok (.invokevirtual 167, 3) := by decide +kernel
theorem dX10_said_7 : decode cX10_said 7 = .ok (.ifCond .ne 6, 3) := by decide +kernel
theorem dX10_said_10 : decode cX10_said 10 = .ok (.bipush (-2), 2) := by decide +kernel
theorem dX10_said_12 : decode cX10_said 12 = .ok (.ireturn, 1) := by decide +kernel
theorem dX10_said_13 : decode cX10_said 13 = .ok (.aload_n 0, 1) := by decide +kernel
theorem dX10_said_14 : decode cX10_said 14 = .ok (.iload_n 2, 1) := by decide +kernel
theorem dX10_said_15 : decode cX10_said 15 = .ok (.iload_n 3, 1) := by decide +kernel
theorem dX10_said_16 : decode cX10_said 16 = .ok (.invokevirtual 175, 3) := by decide +kernel
theorem dX10_said_19 : decode cX10_said 19 = .ok (.bipush 10, 2) := by decide +kernel
theorem dX10_said_21 : decode cX10_said 21 = .ok (.aload_n 0, 1) := by decide +kernel
theorem dX10_said_22 : decode cX10_said 22 = .ok (.getfield 49, 3) := by decide +kernel
theorem dX10_said_25 : decode cX10_said 25 = .ok (.getfield 179, 3) := by decide +kernel
theorem dX10_said_28 : decode cX10_said 28 = .ok (.iload_n 1, 1) := by decide +kernel
theorem dX10_said_29 : decode cX10_said 29 = .ok (.iaload, 1) := by decide +kernel
theorem dX10_said_30 : decode cX10_said 30 = .ok (.imul, 1) := by decide +kernel
theorem dX10_said_31 : decode cX10_said 31 = .ok (.aload_n 0, 1) := by decide +kernel
theorem dX10_said_32 : decode cX10_said 32 = .ok (.getfield 49, 3) := by decide +kernel
theorem dX10_said_35 : decode cX10_said 35 = .ok (.getfield 182, 3) := by decide +kernel
theorem dX10_said_38 : decode cX10_said 38 = .ok (.iload_n 1, 1) := by decide +kernel
theorem dX10_said_39 : decode cX10_said 39 = .ok (.iaload, 1) := by decide +kernel
theorem dX10_said_40 : decode cX10_said 40 = .ok (.iadd, 1) := by decide +kernel
theorem dX10_said_41 : decode cX10_said 41 = .ok (.ireturn, 1) := by decide +kernel
set_option maxRecDepth 20000 in
theorem ggX10_ends_X10_isQuestion : GoodIn wsX10_ends wsX10_isQuestion := goodIn_r _ [6, 7, 8, 5, 9, 10, 11, 12, 13, 14, 15, 16, 17, 18, 19, 20, 21, 133, 134, 135, 136, 137, 138, 139, 140, 141, 142, 143, 144, 145, 146, 147, 148, 149] (by decide +kernel) (by decide +kernel)
set_option maxRecDepth 20000 in
theorem gX10_ends_X10_isQuestion : GoodIn wsX10_ends (wsV RX10 167 RX10 yX10_isQuestion wsX10_isQuestion) := goodIn_app (goodIn_of _ (by decide +kernel)) ggX10_ends_X10_isQuestion
set_option maxRecDepth 20000 in
theorem ggX10_ends_X10_hear : GoodIn wsX10_ends wsX10_hear := goodIn_r _ [25, 1, 17, 26, 27, 28, 29, 30, 31, 32, 33, 34, 35, 36, 37, 38, 39, 40, 41, 42, 43, 44, 45, 46, 47, 48, 49, 50, 51, 52, 53, 54, 55, 56, 57, 58, 59, 60, 61, 62, 63, 64, 65, 66, 67, 68, 69, 70, 71, 72, 73, 74, 75, 76, 77, 78, 79, 80, 81, 82, 83, 84, 85, 86, 87, 88, 89, 90, 91, 92, 93, 94, 95, 96, 133, 134, 135, 136, 137, 138, 139, 140, 141, 142, 143, 150, 151, 152, 153, 154, 155, 156, 157, 158, 144, 145, 146, 147, 148, 149, 159, 160, 161, 162, 163, 164, 165, 166, 167, 168, 169, 170, 171, 172, 173] (by decide +kernel) (by decide +kernel)
set_option maxRecDepth 20000 in
theorem gX10_ends_X10_hear : GoodIn wsX10_ends (wsV RX10 175 RX10 yX10_hear wsX10_hear) := goodIn_app (goodIn_of _ (by decide +kernel)) ggX10_ends_X10_hear
set_option maxRecDepth 20000 in
theorem ggX10_ends_X4_outcome : GoodIn wsX10_ends wsX4_outcome := goodIn_r _ [100, 101, 68, 34, 72, 102, 103, 104, 105, 106, 107, 108, 109, 110, 111, 112, 113, 29, 114, 70, 69, 115, 116, 117, 118, 119, 120, 121, 122, 123, 124, 125, 126, 127, 128, 129, 130, 131, 132, 150, 151, 152, 153, 154, 155, 156, 157, 158, 174, 175, 176, 177, 172, 173, 178, 179, 180, 181] (by decide +kernel) (by decide +kernel)
set_option maxRecDepth 20000 in
theorem gX10_ends_X4_outcome : GoodIn wsX10_ends (wsV RX10 185 RX4 yX4_outcome wsX4_outcome) := goodIn_app (goodIn_of _ (by decide +kernel)) ggX10_ends_X4_outcome
theorem dX10_ends_0 : decode cX10_ends 0 = .ok (.aload_n 0, 1) := by decide +kernel
theorem dX10_ends_1 : decode cX10_ends 1 = .ok (.iload_n 1, 1) := by decide +kernel
theorem dX10_ends_2 : decode cX10_ends 2 = .ok (.iload_n 2, 1) := by decide +kernel
theorem dX10_ends_3 : decode cX10_ends 3 = .ok (.iload_n 3, 1) := by decide +kernel
theorem dX10_ends_4 : decode cX10_ends 4 = .ok (.invokevirtual 167, 3) := by decide +kernel
theorem dX10_ends_7 : decode cX10_ends 7 = .ok (.ifCond .ne 6, 3) := by decide +kernel
theorem dX10_ends_10 : decode cX10_ends 10 = .ok (.bipush (-2), 2) := by decide +kernel
theorem dX10_ends_12 : decode cX10_ends 12 = .ok (.ireturn, 1) := by decide +kernel
theorem dX10_ends_13 : decode cX10_ends 13 = .ok (.aload_n 0, 1) := by decide +kernel
theorem dX10_ends_14 : decode cX10_ends 14 = .ok (.iload_n 2, 1) := by decide +kernel
theorem dX10_ends_15 : decode cX10_ends 15 = .ok (.iload_n 3, 1) := by decide +kernel
theorem dX10_ends_16 : decode cX10_ends 16 = .ok (.invokevirtual 175, 3) := by decide +kernel
theorem dX10_ends_19 : decode cX10_ends 19 = .ok (.aload_n 0, 1) := by decide +kernel
theorem dX10_ends_20 : decode cX10_ends 20 = .ok (.getfield 49, 3) := by decide +kernel
theorem dX10_ends_23 : decode cX10_ends 23 = .ok (.iload_n 1, 1) := by decide +kernel
theorem dX10_ends_24 : decode cX10_ends 24 = .ok (.invokevirtual 185, 3) := by decide +kernel
theorem dX10_ends_27 : decode cX10_ends 27 = .ok (.ireturn, 1) := by decide +kernel
set_option maxRecDepth 20000 in
theorem ggX10_chain_X10_isQuestion : GoodIn wsX10_chain wsX10_isQuestion := goodIn_r _ [11, 12, 13, 10, 14, 15, 16, 17, 18, 19, 20, 21, 22, 23, 24, 25, 26, 113, 114, 115, 116, 117, 118, 119, 120, 121, 122, 123, 128, 129, 130, 131, 132, 133] (by decide +kernel) (by decide +kernel)
set_option maxRecDepth 20000 in
theorem gX10_chain_X10_isQuestion : GoodIn wsX10_chain (wsV RX10 167 RX10 yX10_isQuestion wsX10_isQuestion) := goodIn_app (goodIn_of _ (by decide +kernel)) ggX10_chain_X10_isQuestion
set_option maxRecDepth 20000 in
theorem ggX10_chain_X10_hear : GoodIn wsX10_chain wsX10_hear := goodIn_r _ [30, 2, 22, 31, 32, 33, 34, 35, 36, 37, 38, 39, 40, 41, 42, 43, 44, 45, 46, 47, 48, 49, 50, 51, 52, 53, 54, 55, 56, 57, 58, 59, 60, 61, 62, 63, 64, 65, 66, 67, 68, 69, 70, 71, 72, 73, 74, 75, 76, 77, 78, 79, 80, 81, 82, 83, 84, 85, 86, 87, 88, 89, 90, 91, 92, 93, 94, 95, 96, 97, 98, 99, 100, 101, 113, 114, 115, 116, 117, 118, 119, 120, 121, 122, 123, 134, 135, 136, 137, 138, 139, 140, 141, 142, 128, 129, 130, 131, 132, 133, 143, 144, 145, 146, 147, 148, 149, 150, 151, 152, 153, 154, 155, 156, 157] (by decide +kernel) (by decide +kernel)
set_option maxRecDepth 20000 in
theorem gX10_chain_X10_hear : GoodIn wsX10_chain (wsV RX10 175 RX10 yX10_hear wsX10_hear) := goodIn_app (goodIn_of _ (by decide +kernel)) ggX10_chain_X10_hear
set_option maxRecDepth 20000 in
theorem ggX10_chain_X3_follow : GoodIn wsX10_chain wsX3_follow := goodIn_r _ [106, 107, 108, 109, 110, 111, 112, 124, 125, 126, 127, 134, 135, 136, 137, 138, 139, 140, 141, 142] (by decide +kernel) (by decide +kernel)
set_option maxRecDepth 20000 in
theorem gX10_chain_X3_follow : GoodIn wsX10_chain (wsV RX10 188 RX3 yX3_follow wsX3_follow) := goodIn_app (goodIn_of _ (by decide +kernel)) ggX10_chain_X3_follow
theorem dX10_chain_0 : decode cX10_chain 0 = .ok (.aload_n 0, 1) := by decide +kernel
theorem dX10_chain_1 : decode cX10_chain 1 = .ok (.iload_n 1, 1) := by decide +kernel
theorem dX10_chain_2 : decode cX10_chain 2 = .ok (.iload_n 2, 1) := by decide +kernel
theorem dX10_chain_3 : decode cX10_chain 3 = .ok (.iload_n 3, 1) := by decide +kernel
theorem dX10_chain_4 : decode cX10_chain 4 = .ok (.invokevirtual 167, 3) := by decide +kernel
theorem dX10_chain_7 : decode cX10_chain 7 = .ok (.ifCond .ne 6, 3) := by decide +kernel
theorem dX10_chain_10 : decode cX10_chain 10 = .ok (.bipush (-10), 2) := by decide +kernel
theorem dX10_chain_12 : decode cX10_chain 12 = .ok (.ireturn, 1) := by decide +kernel
theorem dX10_chain_13 : decode cX10_chain 13 = .ok (.iload 4, 2) := by decide +kernel
theorem dX10_chain_15 : decode cX10_chain 15 = .ok (.ifCond .ge 19, 3) := by decide +kernel
theorem dX10_chain_18 : decode cX10_chain 18 = .ok (.iload 4, 2) := by decide +kernel
theorem dX10_chain_20 : decode cX10_chain 20 = .ok (.iconst (-1), 1) := by decide +kernel
theorem dX10_chain_21 : decode cX10_chain 21 = .ok (.if_icmp .eq 13, 3) := by decide +kernel
theorem dX10_chain_24 : decode cX10_chain 24 = .ok (.iload 4, 2) := by decide +kernel
theorem dX10_chain_26 : decode cX10_chain 26 = .ok (.bipush (-3), 2) := by decide +kernel
theorem dX10_chain_28 : decode cX10_chain 28 = .ok (.if_icmp .eq 6, 3) := by decide +kernel
theorem dX10_chain_31 : decode cX10_chain 31 = .ok (.bipush (-10), 2) := by decide +kernel
theorem dX10_chain_33 : decode cX10_chain 33 = .ok (.ireturn, 1) := by decide +kernel
theorem dX10_chain_34 : decode cX10_chain 34 = .ok (.aload_n 0, 1) := by decide +kernel
theorem dX10_chain_35 : decode cX10_chain 35 = .ok (.iload_n 2, 1) := by decide +kernel
theorem dX10_chain_36 : decode cX10_chain 36 = .ok (.iload_n 3, 1) := by decide +kernel
theorem dX10_chain_37 : decode cX10_chain 37 = .ok (.invokevirtual 175, 3) := by decide +kernel
theorem dX10_chain_40 : decode cX10_chain 40 = .ok (.aload_n 0, 1) := by decide +kernel
theorem dX10_chain_41 : decode cX10_chain 41 = .ok (.getfield 83, 3) := by decide +kernel
theorem dX10_chain_44 : decode cX10_chain 44 = .ok (.aload_n 0, 1) := by decide +kernel
theorem dX10_chain_45 : decode cX10_chain 45 = .ok (.getfield 49, 3) := by decide +kernel
theorem dX10_chain_48 : decode cX10_chain 48 = .ok (.iload_n 1, 1) := by decide +kernel
theorem dX10_chain_49 : decode cX10_chain 49 = .ok (.invokevirtual 188, 3) := by decide +kernel
theorem dX10_chain_52 : decode cX10_chain 52 = .ok (.iload 4, 2) := by decide +kernel
theorem dX10_chain_54 : decode cX10_chain 54 = .ok (.iconst (-1), 1) := by decide +kernel
theorem dX10_chain_55 : decode cX10_chain 55 = .ok (.if_icmp .ne 11, 3) := by decide +kernel
theorem dX10_chain_58 : decode cX10_chain 58 = .ok (.aload_n 0, 1) := by decide +kernel
theorem dX10_chain_59 : decode cX10_chain 59 = .ok (.getfield 83, 3) := by decide +kernel
theorem dX10_chain_62 : decode cX10_chain 62 = .ok (.getfield 192, 3) := by decide +kernel
theorem dX10_chain_65 : decode cX10_chain 65 = .ok (.ireturn, 1) := by decide +kernel
theorem dX10_chain_66 : decode cX10_chain 66 = .ok (.iload 4, 2) := by decide +kernel
theorem dX10_chain_68 : decode cX10_chain 68 = .ok (.bipush (-3), 2) := by decide +kernel
theorem dX10_chain_70 : decode cX10_chain 70 = .ok (.if_icmp .ne 22, 3) := by decide +kernel
theorem dX10_chain_73 : decode cX10_chain 73 = .ok (.bipush 10, 2) := by decide +kernel
theorem dX10_chain_75 : decode cX10_chain 75 = .ok (.aload_n 0, 1) := by decide +kernel
theorem dX10_chain_76 : decode cX10_chain 76 = .ok (.getfield 83, 3) := by decide +kernel
theorem dX10_chain_79 : decode cX10_chain 79 = .ok (.getfield 193, 3) := by decide +kernel
theorem dX10_chain_82 : decode cX10_chain 82 = .ok (.imul, 1) := by decide +kernel
theorem dX10_chain_83 : decode cX10_chain 83 = .ok (.aload_n 0, 1) := by decide +kernel
theorem dX10_chain_84 : decode cX10_chain 84 = .ok (.getfield 83, 3) := by decide +kernel
theorem dX10_chain_87 : decode cX10_chain 87 = .ok (.getfield 196, 3) := by decide +kernel
theorem dX10_chain_90 : decode cX10_chain 90 = .ok (.iadd, 1) := by decide +kernel
theorem dX10_chain_91 : decode cX10_chain 91 = .ok (.ireturn, 1) := by decide +kernel
theorem dX10_chain_92 : decode cX10_chain 92 = .ok (.iload 4, 2) := by decide +kernel
theorem dX10_chain_94 : decode cX10_chain 94 = .ok (.aload_n 0, 1) := by decide +kernel
theorem dX10_chain_95 : decode cX10_chain 95 = .ok (.getfield 83, 3) := by decide +kernel
theorem dX10_chain_98 : decode cX10_chain 98 = .ok (.getfield 192, 3) := by decide +kernel
theorem dX10_chain_101 : decode cX10_chain 101 = .ok (.if_icmp .ge 16, 3) := by decide +kernel
theorem dX10_chain_104 : decode cX10_chain 104 = .ok (.aload_n 0, 1) := by decide +kernel
theorem dX10_chain_105 : decode cX10_chain 105 = .ok (.getfield 83, 3) := by decide +kernel
theorem dX10_chain_108 : decode cX10_chain 108 = .ok (.getfield 199, 3) := by decide +kernel
theorem dX10_chain_111 : decode cX10_chain 111 = .ok (.iload 4, 2) := by decide +kernel
theorem dX10_chain_113 : decode cX10_chain 113 = .ok (.iaload, 1) := by decide +kernel
theorem dX10_chain_114 : decode cX10_chain 114 = .ok (.goto 5, 3) := by decide +kernel
theorem dX10_chain_117 : decode cX10_chain 117 = .ok (.bipush (-5), 2) := by decide +kernel
theorem dX10_chain_119 : decode cX10_chain 119 = .ok (.ireturn, 1) := by decide +kernel
set_option maxRecDepth 20000 in
theorem ggX10_parts_X10_isQuestion : GoodIn wsX10_parts wsX10_isQuestion := goodIn_r _ [8, 9, 10, 7, 11, 12, 13, 14, 15, 16, 17, 18, 19, 20, 21, 22, 23, 117, 118, 119, 120, 121, 122, 123, 124, 125, 126, 127, 128, 129, 130, 131, 132, 133] (by decide +kernel) (by decide +kernel)
set_option maxRecDepth 20000 in
theorem gX10_parts_X10_isQuestion : GoodIn wsX10_parts (wsV RX10 167 RX10 yX10_isQuestion wsX10_isQuestion) := goodIn_app (goodIn_of _ (by decide +kernel)) ggX10_parts_X10_isQuestion
set_option maxRecDepth 20000 in
theorem ggX10_parts_X10_isOther : GoodIn wsX10_parts wsX10_isOther := goodIn_r _ [26, 9, 10, 7, 11, 12, 13, 14] (by decide +kernel) (by decide +kernel)
set_option maxRecDepth 20000 in
theorem gX10_parts_X10_isOther : GoodIn wsX10_parts (va_wsS RX10 201 yX10_isOther wsX10_isOther) := goodIn_app (goodIn_of _ (by decide +kernel)) ggX10_parts_X10_isOther
set_option maxRecDepth 20000 in
theorem ggX10_parts_X10_hear : GoodIn wsX10_parts wsX10_hear := goodIn_r _ [30, 2, 19, 31, 32, 33, 34, 35, 36, 37, 38, 39, 40, 41, 42, 43, 44, 45, 46, 47, 48, 49, 50, 51, 52, 53, 54, 55, 56, 57, 58, 59, 60, 61, 62, 63, 64, 65, 66, 67, 68, 69, 70, 71, 72, 73, 74, 75, 76, 77, 78, 79, 80, 81, 82, 83, 84, 85, 86, 87, 88, 89, 90, 91, 92, 93, 94, 95, 96, 97, 98, 99, 100, 101, 117, 118, 119, 120, 121, 122, 123, 124, 125, 126, 127, 134, 135, 136, 137, 138, 139, 140, 141, 142, 128, 129, 130, 131, 132, 133, 143, 144, 145, 146, 147, 148, 149, 150, 151, 152, 153, 154, 155, 156, 157] (by decide +kernel) (by decide +kernel)
set_option maxRecDepth 20000 in
theorem gX10_parts_X10_hear : GoodIn wsX10_parts (wsV RX10 175 RX10 yX10_hear wsX10_hear) := goodIn_app (goodIn_of _ (by decide +kernel)) ggX10_parts_X10_hear
set_option maxRecDepth 20000 in
theorem ggX10_parts_X3_follow : GoodIn wsX10_parts wsX3_follow := goodIn_r _ [106, 107, 108, 109, 110, 111, 112, 158, 159, 160, 161, 134, 135, 136, 137, 138, 139, 140, 141, 142] (by decide +kernel) (by decide +kernel)
set_option maxRecDepth 20000 in
theorem gX10_parts_X3_follow : GoodIn wsX10_parts (wsV RX10 188 RX3 yX3_follow wsX3_follow) := goodIn_app (goodIn_of _ (by decide +kernel)) ggX10_parts_X3_follow
set_option maxRecDepth 20000 in
theorem ggX10_parts_X3_step : GoodIn wsX10_parts wsX3_step := goodIn_r _ [116, 108, 107, 110, 112, 158, 159, 160, 161] (by decide +kernel) (by decide +kernel)
set_option maxRecDepth 20000 in
theorem gX10_parts_X3_step : GoodIn wsX10_parts (wsV RX10 204 RX3 yX3_step wsX3_step) := goodIn_app (goodIn_of _ (by decide +kernel)) ggX10_parts_X3_step
theorem dX10_parts_0 : decode cX10_parts 0 = .ok (.aload_n 0, 1) := by decide +kernel
theorem dX10_parts_1 : decode cX10_parts 1 = .ok (.iload_n 1, 1) := by decide +kernel
theorem dX10_parts_2 : decode cX10_parts 2 = .ok (.iload_n 3, 1) := by decide +kernel
theorem dX10_parts_3 : decode cX10_parts 3 = .ok (.iload 4, 2) := by decide +kernel
theorem dX10_parts_5 : decode cX10_parts 5 = .ok (.invokevirtual 167, 3) := by decide +kernel
theorem dX10_parts_8 : decode cX10_parts 8 = .ok (.ifCond .eq 11, 3) := by decide +kernel
theorem dX10_parts_11 : decode cX10_parts 11 = .ok (.iload_n 1, 1) := by decide +kernel
theorem dX10_parts_12 : decode cX10_parts 12 = .ok (.iload_n 2, 1) := by decide +kernel
theorem dX10_parts_13 : decode cX10_parts 13 = .ok (.invokestatic 201, 3) := by decide +kernel
theorem dX10_parts_16 : decode cX10_parts 16 = .ok (.ifCond .ne 6, 3) := by decide +kernel
theorem dX10_parts_19 : decode cX10_parts 19 = .ok (.bipush (-2), 2) := by decide +kernel
theorem dX10_parts_21 : decode cX10_parts 21 = .ok (.ireturn, 1) := by decide +kernel
theorem dX10_parts_22 : decode cX10_parts 22 = .ok (.aload_n 0, 1) := by decide +kernel
theorem dX10_parts_23 : decode cX10_parts 23 = .ok (.iload_n 3, 1) := by decide +kernel
theorem dX10_parts_24 : decode cX10_parts 24 = .ok (.iload 4, 2) := by decide +kernel
theorem dX10_parts_26 : decode cX10_parts 26 = .ok (.invokevirtual 175, 3) := by decide +kernel
theorem dX10_parts_29 : decode cX10_parts 29 = .ok (.aload_n 0, 1) := by decide +kernel
theorem dX10_parts_30 : decode cX10_parts 30 = .ok (.getfield 83, 3) := by decide +kernel
theorem dX10_parts_33 : decode cX10_parts 33 = .ok (.aload_n 0, 1) := by decide +kernel
theorem dX10_parts_34 : decode cX10_parts 34 = .ok (.getfield 49, 3) := by decide +kernel
theorem dX10_parts_37 : decode cX10_parts 37 = .ok (.iload_n 1, 1) := by decide +kernel
theorem dX10_parts_38 : decode cX10_parts 38 = .ok (.invokevirtual 188, 3) := by decide +kernel
theorem dX10_parts_41 : decode cX10_parts 41 = .ok (.aload_n 0, 1) := by decide +kernel
theorem dX10_parts_42 : decode cX10_parts 42 = .ok (.getfield 87, 3) := by decide +kernel
theorem dX10_parts_45 : decode cX10_parts 45 = .ok (.aload_n 0, 1) := by decide +kernel
theorem dX10_parts_46 : decode cX10_parts 46 = .ok (.getfield 49, 3) := by decide +kernel
theorem dX10_parts_49 : decode cX10_parts 49 = .ok (.iload_n 2, 1) := by decide +kernel
theorem dX10_parts_50 : decode cX10_parts 50 = .ok (.invokevirtual 188, 3) := by decide +kernel
theorem dX10_parts_53 : decode cX10_parts 53 = .ok (.iconst 1, 1) := by decide +kernel
theorem dX10_parts_54 : decode cX10_parts 54 = .ok (.istore 5, 2) := by decide +kernel
theorem dX10_parts_56 : decode cX10_parts 56 = .ok (.iload 5, 2) := by decide +kernel
theorem dX10_parts_58 : decode cX10_parts 58 = .ok (.iconst 4, 1) := by decide +kernel
theorem dX10_parts_59 : decode cX10_parts 59 = .ok (.if_icmp .gt 33, 3) := by decide +kernel
theorem dX10_parts_62 : decode cX10_parts 62 = .ok (.aload_n 0, 1) := by decide +kernel
theorem dX10_parts_63 : decode cX10_parts 63 = .ok (.getfield 83, 3) := by decide +kernel
theorem dX10_parts_66 : decode cX10_parts 66 = .ok (.iload 5, 2) := by decide +kernel
theorem dX10_parts_68 : decode cX10_parts 68 = .ok (.invokevirtual 204, 3) := by decide +kernel
theorem dX10_parts_71 : decode cX10_parts 71 = .ok (.aload_n 0, 1) := by decide +kernel
theorem dX10_parts_72 : decode cX10_parts 72 = .ok (.getfield 87, 3) := by decide +kernel
theorem dX10_parts_75 : decode cX10_parts 75 = .ok (.iload 5, 2) := by decide +kernel
theorem dX10_parts_77 : decode cX10_parts 77 = .ok (.invokevirtual 204, 3) := by decide +kernel
theorem dX10_parts_80 : decode cX10_parts 80 = .ok (.if_icmp .eq 6, 3) := by decide +kernel
theorem dX10_parts_83 : decode cX10_parts 83 = .ok (.iload 5, 2) := by decide +kernel
theorem dX10_parts_85 : decode cX10_parts 85 = .ok (.ireturn, 1) := by decide +kernel
theorem dX10_parts_86 : decode cX10_parts 86 = .ok (.iinc 5 1, 3) := by decide +kernel
theorem dX10_parts_89 : decode cX10_parts 89 = .ok (.goto (-33), 3) := by decide +kernel
theorem dX10_parts_92 : decode cX10_parts 92 = .ok (.iconst 0, 1) := by decide +kernel
theorem dX10_parts_93 : decode cX10_parts 93 = .ok (.ireturn, 1) := by decide +kernel
set_option maxRecDepth 20000 in
theorem ggX10_endsIn_X10_isTable : GoodIn wsX10_endsIn wsX10_isTable := goodIn_r _ [6, 7, 8, 5, 9, 10, 11, 12, 13, 14, 15, 16, 17, 18] (by decide +kernel) (by decide +kernel)
set_option maxRecDepth 20000 in
theorem gX10_endsIn_X10_isTable : GoodIn wsX10_endsIn (va_wsS RX10 207 yX10_isTable wsX10_isTable) := goodIn_app (goodIn_of _ (by decide +kernel)) ggX10_endsIn_X10_isTable
set_option maxRecDepth 20000 in
theorem ggX10_endsIn_X10_isBelow : GoodIn wsX10_endsIn wsX10_isBelow := goodIn_r _ [12] (by decide +kernel) (by decide +kernel)
set_option maxRecDepth 20000 in
theorem gX10_endsIn_X10_isBelow : GoodIn wsX10_endsIn (va_wsS RX10 125 yX10_isBelow wsX10_isBelow) := goodIn_app (goodIn_of _ (by decide +kernel)) ggX10_endsIn_X10_isBelow
set_option maxRecDepth 20000 in
theorem ggX10_endsIn_X0_start : GoodIn wsX10_endsIn wsX0_start := goodIn_r _ [23, 24, 25, 26, 27, 28, 29, 30, 31, 32, 33, 34, 35, 36, 37, 38, 39, 40, 41, 42, 43, 44, 45, 46, 22, 47, 48, 49, 50, 51, 52, 53, 54, 55, 148, 149, 150, 151, 152, 153, 154, 155, 156, 157, 158, 159, 160, 161, 162, 163, 164, 165, 166, 167, 168, 169, 170, 171, 172] (by decide +kernel) (by decide +kernel)
set_option maxRecDepth 20000 in
theorem gX10_endsIn_X0_start : GoodIn wsX10_endsIn (wsV RX10 210 RX0 yX0_start wsX0_start) := goodIn_app (goodIn_of _ (by decide +kernel)) ggX10_endsIn_X0_start
set_option maxRecDepth 20000 in
theorem ggX10_endsIn_X0_turnTo : GoodIn wsX10_endsIn wsX0_turnTo := goodIn_r _ [59, 24, 60, 61, 62, 22, 63, 25, 44, 45, 46, 47, 26, 27, 48, 49, 50, 51, 35, 52, 53, 54, 55, 64, 65, 66, 67, 68, 69, 70, 71, 72, 73, 74, 75, 76, 77, 78, 79, 80, 81, 82, 83, 84, 85, 86, 87, 88, 89, 90, 91, 92, 93, 94, 95, 96, 97, 98, 99, 100, 148, 149, 150, 151, 152, 153, 154, 155, 156, 157, 158, 159, 160, 161, 162, 163, 164, 165, 166, 167, 168, 169, 170, 171, 172, 173, 174] (by decide +kernel) (by decide +kernel)
set_option maxRecDepth 20000 in
theorem gX10_endsIn_X0_turnTo : GoodIn wsX10_endsIn (wsV RX10 214 RX0 yX0_turnTo wsX0_turnTo) := goodIn_app (goodIn_of _ (by decide +kernel)) ggX10_endsIn_X0_turnTo
set_option maxRecDepth 20000 in
theorem ggX10_endsIn_X4_outcome : GoodIn wsX10_endsIn wsX4_outcome := goodIn_r _ [104, 105, 69, 76, 75, 106, 107, 108, 109, 110, 111, 112, 113, 114, 115, 116, 117, 67, 118, 73, 72, 119, 120, 121, 122, 123, 124, 125, 126, 127, 128, 129, 130, 131, 132, 133, 134, 135, 136, 151, 152, 153, 154, 155, 156, 157, 158, 159, 175, 176, 177, 178, 173, 174, 179, 180, 181, 182] (by decide +kernel) (by decide +kernel)
set_option maxRecDepth 20000 in
theorem gX10_endsIn_X4_outcome : GoodIn wsX10_endsIn (wsV RX10 185 RX4 yX4_outcome wsX4_outcome) := goodIn_app (goodIn_of _ (by decide +kernel)) ggX10_endsIn_X4_outcome
theorem dX10_endsIn_0 : decode cX10_endsIn 0 = .ok (.iload_n 1, 1) := by decide +kernel
theorem dX10_endsIn_1 : decode cX10_endsIn 1 = .ok (.iload_n 2, 1) := by decide +kernel
theorem dX10_endsIn_2 : decode cX10_endsIn 2 = .ok (.iload_n 3, 1) := by decide +kernel
theorem dX10_endsIn_3 : decode cX10_endsIn 3 = .ok (.invokestatic 207, 3) := by decide +kernel
theorem dX10_endsIn_6 : decode cX10_endsIn 6 = .ok (.ifCond .eq 14, 3) := by decide +kernel
theorem dX10_endsIn_9 : decode cX10_endsIn 9 = .ok (.iload 4, 2) := by decide +kernel
theorem dX10_endsIn_11 : decode cX10_endsIn 11 = .ok (.sipush 15625, 3) := by decide +kernel
theorem dX10_endsIn_14 : decode cX10_endsIn 14 = .ok (.invokestatic 125, 3) := by decide +kernel
theorem dX10_endsIn_17 : decode cX10_endsIn 17 = .ok (.ifCond .ne 6, 3) := by decide +kernel
theorem dX10_endsIn_20 : decode cX10_endsIn 20 = .ok (.bipush (-2), 2) := by decide +kernel
theorem dX10_endsIn_22 : decode cX10_endsIn 22 = .ok (.ireturn, 1) := by decide +kernel
theorem dX10_endsIn_23 : decode cX10_endsIn 23 = .ok (.aload_n 0, 1) := by decide +kernel
theorem dX10_endsIn_24 : decode cX10_endsIn 24 = .ok (.getfield 58, 3) := by decide +kernel
theorem dX10_endsIn_27 : decode cX10_endsIn 27 = .ok (.iload_n 3, 1) := by decide +kernel
theorem dX10_endsIn_28 : decode cX10_endsIn 28 = .ok (.invokevirtual 210, 3) := by decide +kernel
theorem dX10_endsIn_31 : decode cX10_endsIn 31 = .ok (.aload_n 0, 1) := by decide +kernel
theorem dX10_endsIn_32 : decode cX10_endsIn 32 = .ok (.getfield 58, 3) := by decide +kernel
theorem dX10_endsIn_35 : decode cX10_endsIn 35 = .ok (.iload 4, 2) := by decide +kernel
theorem dX10_endsIn_37 : decode cX10_endsIn 37 = .ok (.iload_n 2, 1) := by decide +kernel
theorem dX10_endsIn_38 : decode cX10_endsIn 38 = .ok (.invokevirtual 214, 3) := by decide +kernel
theorem dX10_endsIn_41 : decode cX10_endsIn 41 = .ok (.aload_n 0, 1) := by decide +kernel
theorem dX10_endsIn_42 : decode cX10_endsIn 42 = .ok (.getfield 49, 3) := by decide +kernel
theorem dX10_endsIn_45 : decode cX10_endsIn 45 = .ok (.iload_n 1, 1) := by decide +kernel
theorem dX10_endsIn_46 : decode cX10_endsIn 46 = .ok (.invokevirtual 185, 3) := by decide +kernel
theorem dX10_endsIn_49 : decode cX10_endsIn 49 = .ok (.ireturn, 1) := by decide +kernel
set_option maxRecDepth 20000 in
theorem ggX10_unlike_X10_isTable : GoodIn wsX10_unlike wsX10_isTable := goodIn_r _ [5, 6, 7, 4, 8, 9, 10, 11, 12, 13, 14, 15, 16, 17] (by decide +kernel) (by decide +kernel)
set_option maxRecDepth 20000 in
theorem gX10_unlike_X10_isTable : GoodIn wsX10_unlike (va_wsS RX10 207 yX10_isTable wsX10_isTable) := goodIn_app (goodIn_of _ (by decide +kernel)) ggX10_unlike_X10_isTable
set_option maxRecDepth 20000 in
theorem ggX10_unlike_X10_isOther : GoodIn wsX10_unlike wsX10_isOther := goodIn_r _ [20, 6, 7, 4, 8, 9, 10, 11] (by decide +kernel) (by decide +kernel)
set_option maxRecDepth 20000 in
theorem gX10_unlike_X10_isOther : GoodIn wsX10_unlike (va_wsS RX10 201 yX10_isOther wsX10_isOther) := goodIn_app (goodIn_of _ (by decide +kernel)) ggX10_unlike_X10_isOther
set_option maxRecDepth 20000 in
theorem ggX10_unlike_X0_countUnlike : GoodIn wsX10_unlike wsX0_countUnlike := goodIn_r _ [25, 26, 27, 28, 24, 29, 30, 31, 32, 33, 34, 35, 36, 37, 38, 39, 40, 41, 42, 43, 44, 45, 46, 47, 48, 49, 50, 51, 52, 53, 54, 55, 56, 57, 58, 59, 60, 61, 62, 63, 64, 65, 66, 67, 68, 69, 70, 71, 72, 73, 74, 75, 76, 77, 78, 79, 80, 81, 82, 83, 84, 85, 86, 87, 88, 89, 90, 91, 92, 93, 94, 95, 96, 97, 98, 99, 100, 101, 102, 103, 104, 105, 106, 107, 108, 109, 110, 111, 112, 113, 114, 115, 116, 117, 118, 119, 120, 121, 122, 123, 124, 125, 126, 127, 128, 129, 130, 131, 132, 133, 134, 135, 136, 137, 138, 139, 140, 141, 142, 143, 144, 145, 146, 158, 159, 160, 161, 162, 163, 164, 165, 166, 167, 168, 169, 170, 171, 172, 173, 174, 175, 176, 177, 178, 179, 180, 181, 182, 183, 184, 185, 186, 187, 188, 189, 190, 191, 192] (by decide +kernel) (by decide +kernel)
set_option maxRecDepth 20000 in
theorem gX10_unlike_X0_countUnlike : GoodIn wsX10_unlike (wsV RX10 217 RX0 yX0_countUnlike wsX0_countUnlike) := goodIn_app (goodIn_of _ (by decide +kernel)) ggX10_unlike_X0_countUnlike
theorem dX10_unlike_0 : decode cX10_unlike 0 = .ok (.iload_n 1, 1) := by decide +kernel
theorem dX10_unlike_1 : decode cX10_unlike 1 = .ok (.iload_n 3, 1) := by decide +kernel
theorem dX10_unlike_2 : decode cX10_unlike 2 = .ok (.iload 4, 2) := by decide +kernel
theorem dX10_unlike_4 : decode cX10_unlike 4 = .ok (.invokestatic 207, 3) := by decide +kernel
theorem dX10_unlike_7 : decode cX10_unlike 7 = .ok (.ifCond .eq 11, 3) := by decide +kernel
theorem dX10_unlike_10 : decode cX10_unlike 10 = .ok (.iload_n 1, 1) := by decide +kernel
theorem dX10_unlike_11 : decode cX10_unlike 11 = .ok (.iload_n 2, 1) := by decide +kernel
theorem dX10_unlike_12 : decode cX10_unlike 12 = .ok (.invokestatic 201, 3) := by decide +kernel
theorem dX10_unlike_15 : decode cX10_unlike 15 = .ok (.ifCond .ne 6, 3) := by decide +kernel
theorem dX10_unlike_18 : decode cX10_unlike 18 = .ok (.bipush (-2), 2) := by decide +kernel
theorem dX10_unlike_20 : decode cX10_unlike 20 = .ok (.ireturn, 1) := by decide +kernel
theorem dX10_unlike_21 : decode cX10_unlike 21 = .ok (.aload_n 0, 1) := by decide +kernel
theorem dX10_unlike_22 : decode cX10_unlike 22 = .ok (.getfield 58, 3) := by decide +kernel
theorem dX10_unlike_25 : decode cX10_unlike 25 = .ok (.iload_n 1, 1) := by decide +kernel
theorem dX10_unlike_26 : decode cX10_unlike 26 = .ok (.iload_n 2, 1) := by decide +kernel
theorem dX10_unlike_27 : decode cX10_unlike 27 = .ok (.iload_n 3, 1) := by decide +kernel
theorem dX10_unlike_28 : decode cX10_unlike 28 = .ok (.iload 4, 2) := by decide +kernel
theorem dX10_unlike_30 : decode cX10_unlike 30 = .ok (.invokevirtual 217, 3) := by decide +kernel
theorem dX10_unlike_33 : decode cX10_unlike 33 = .ok (.ireturn, 1) := by decide +kernel
set_option maxRecDepth 20000 in
theorem ggX10_least_X10_isTable : GoodIn wsX10_least wsX10_isTable := goodIn_r _ [5, 6, 7, 4, 8, 9, 10, 11, 12, 13, 14, 15, 16, 17] (by decide +kernel) (by decide +kernel)
set_option maxRecDepth 20000 in
theorem gX10_least_X10_isTable : GoodIn wsX10_least (va_wsS RX10 207 yX10_isTable wsX10_isTable) := goodIn_app (goodIn_of _ (by decide +kernel)) ggX10_least_X10_isTable
set_option maxRecDepth 20000 in
theorem ggX10_least_X10_isOther : GoodIn wsX10_least wsX10_isOther := goodIn_r _ [20, 6, 7, 4, 8, 9, 10, 11] (by decide +kernel) (by decide +kernel)
set_option maxRecDepth 20000 in
theorem gX10_least_X10_isOther : GoodIn wsX10_least (va_wsS RX10 201 yX10_isOther wsX10_isOther) := goodIn_app (goodIn_of _ (by decide +kernel)) ggX10_least_X10_isOther
set_option maxRecDepth 20000 in
theorem ggX10_least_X0_leastUnlike : GoodIn wsX10_least wsX0_leastUnlike := goodIn_r _ [25, 26, 27, 28, 24, 29, 30, 31, 32, 33, 34, 35, 36, 37, 38, 39, 40, 41, 42, 43, 44, 45, 46, 47, 48, 49, 50, 51, 52, 53, 54, 55, 56, 57, 58, 59, 60, 61, 62, 63, 64, 65, 66, 67, 68, 69, 70, 71, 72, 73, 74, 75, 76, 77, 78, 79, 80, 81, 82, 83, 84, 85, 86, 87, 88, 89, 90, 91, 92, 93, 94, 95, 96, 97, 98, 99, 100, 101, 102, 103, 104, 105, 106, 107, 108, 109, 110, 111, 112, 113, 114, 115, 116, 117, 118, 119, 120, 121, 122, 123, 124, 125, 126, 127, 128, 129, 130, 131, 132, 133, 134, 135, 136, 137, 138, 139, 140, 141, 142, 143, 144, 145, 146, 147, 148, 149, 150, 162, 163, 164, 165, 166, 167, 168, 169, 170, 171, 172, 173, 174, 175, 176, 177, 178, 179, 180, 181, 182, 183, 184, 185, 186, 187, 188, 189, 190, 191, 192, 193, 194, 195, 196] (by decide +kernel) (by decide +kernel)
set_option maxRecDepth 20000 in
theorem gX10_least_X0_leastUnlike : GoodIn wsX10_least (wsV RX10 220 RX0 yX0_leastUnlike wsX0_leastUnlike) := goodIn_app (goodIn_of _ (by decide +kernel)) ggX10_least_X0_leastUnlike
theorem dX10_least_0 : decode cX10_least 0 = .ok (.iload_n 1, 1) := by decide +kernel
theorem dX10_least_1 : decode cX10_least 1 = .ok (.iload_n 3, 1) := by decide +kernel
theorem dX10_least_2 : decode cX10_least 2 = .ok (.iload 4, 2) := by decide +kernel
theorem dX10_least_4 : decode cX10_least 4 = .ok (.invokestatic 207, 3) := by decide +kernel
theorem dX10_least_7 : decode cX10_least 7 = .ok (.ifCond .eq 11, 3) := by decide +kernel
theorem dX10_least_10 : decode cX10_least 10 = .ok (.iload_n 1, 1) := by decide +kernel
theorem dX10_least_11 : decode cX10_least 11 = .ok (.iload_n 2, 1) := by decide +kernel
theorem dX10_least_12 : decode cX10_least 12 = .ok (.invokestatic 201, 3) := by decide +kernel
theorem dX10_least_15 : decode cX10_least 15 = .ok (.ifCond .ne 6, 3) := by decide +kernel
theorem dX10_least_18 : decode cX10_least 18 = .ok (.bipush (-2), 2) := by decide +kernel
theorem dX10_least_20 : decode cX10_least 20 = .ok (.ireturn, 1) := by decide +kernel
theorem dX10_least_21 : decode cX10_least 21 = .ok (.aload_n 0, 1) := by decide +kernel
theorem dX10_least_22 : decode cX10_least 22 = .ok (.getfield 58, 3) := by decide +kernel
theorem dX10_least_25 : decode cX10_least 25 = .ok (.iload_n 1, 1) := by decide +kernel
theorem dX10_least_26 : decode cX10_least 26 = .ok (.iload_n 2, 1) := by decide +kernel
theorem dX10_least_27 : decode cX10_least 27 = .ok (.iload_n 3, 1) := by decide +kernel
theorem dX10_least_28 : decode cX10_least 28 = .ok (.iload 4, 2) := by decide +kernel
theorem dX10_least_30 : decode cX10_least 30 = .ok (.invokevirtual 220, 3) := by decide +kernel
theorem dX10_least_33 : decode cX10_least 33 = .ok (.ireturn, 1) := by decide +kernel
set_option maxRecDepth 20000 in
theorem ggX10_reached_X10_isTable : GoodIn wsX10_reached wsX10_isTable := goodIn_r _ [5, 6, 7, 4, 8, 9, 10, 11, 12, 13, 14, 15, 16, 17] (by decide +kernel) (by decide +kernel)
set_option maxRecDepth 20000 in
theorem gX10_reached_X10_isTable : GoodIn wsX10_reached (va_wsS RX10 207 yX10_isTable wsX10_isTable) := goodIn_app (goodIn_of _ (by decide +kernel)) ggX10_reached_X10_isTable
set_option maxRecDepth 20000 in
theorem ggX10_reached_X0_landsReached : GoodIn wsX10_reached wsX0_landsReached := goodIn_r _ [22, 23, 24, 25, 26, 21, 27, 28, 29, 30, 31, 32, 33, 34, 35, 36, 37, 38, 39, 40, 41, 42, 43, 44, 45, 46, 47, 48, 49, 50, 51, 52, 53, 54, 55, 56, 57, 58, 59, 60, 61, 62, 63, 64, 65, 66, 67, 68, 69, 70, 71, 72, 73, 74, 75, 76, 77, 78, 79, 80, 81, 82, 83, 84, 85, 86, 87, 88, 89, 90, 91, 92, 93, 94, 95, 96, 97, 98, 99, 100, 101, 102, 103, 104, 105, 106, 107, 108, 109, 110, 111, 112, 113, 114, 115, 116, 117, 118, 119, 120, 121, 122, 123, 124, 125, 126, 127, 128, 129, 130, 131, 132, 133, 134, 135, 136, 137, 138, 139, 151, 152, 153, 154, 155, 156, 157, 158, 159, 160, 161, 162, 163, 164, 165, 166, 167, 168, 169, 170, 171, 172, 173, 174, 175, 176, 177, 178, 179, 180, 181, 182, 183, 184, 185] (by decide +kernel) (by decide +kernel)
set_option maxRecDepth 20000 in
theorem gX10_reached_X0_landsReached : GoodIn wsX10_reached (wsV RX10 223 RX0 yX0_landsReached wsX0_landsReached) := goodIn_app (goodIn_of _ (by decide +kernel)) ggX10_reached_X0_landsReached
theorem dX10_reached_0 : decode cX10_reached 0 = .ok (.iload_n 1, 1) := by decide +kernel
theorem dX10_reached_1 : decode cX10_reached 1 = .ok (.iload_n 2, 1) := by decide +kernel
theorem dX10_reached_2 : decode cX10_reached 2 = .ok (.iload_n 3, 1) := by decide +kernel
theorem dX10_reached_3 : decode cX10_reached 3 = .ok (.invokestatic 207, 3) := by decide +kernel
theorem dX10_reached_6 : decode cX10_reached 6 = .ok (.ifCond .ne 6, 3) := by decide +kernel
theorem dX10_reached_9 : decode cX10_reached 9 = .ok (.bipush (-2), 2) := by decide +kernel
theorem dX10_reached_11 : decode cX10_reached 11 = .ok (.ireturn, 1) := by decide +kernel
theorem dX10_reached_12 : decode cX10_reached 12 = .ok (.aload_n 0, 1) := by decide +kernel
theorem dX10_reached_13 : decode cX10_reached 13 = .ok (.getfield 58, 3) := by decide +kernel
theorem dX10_reached_16 : decode cX10_reached 16 = .ok (.iload_n 1, 1) := by decide +kernel
theorem dX10_reached_17 : decode cX10_reached 17 = .ok (.iload_n 2, 1) := by decide +kernel
theorem dX10_reached_18 : decode cX10_reached 18 = .ok (.iload_n 3, 1) := by decide +kernel
theorem dX10_reached_19 : decode cX10_reached 19 = .ok (.invokevirtual 223, 3) := by decide +kernel
theorem dX10_reached_22 : decode cX10_reached 22 = .ok (.ireturn, 1) := by decide +kernel
set_option maxRecDepth 20000 in
theorem ggX10_same_X10_isKind : GoodIn wsX10_same wsX10_isKind := goodIn_r _ [5, 6, 7, 4, 8] (by decide +kernel) (by decide +kernel)
set_option maxRecDepth 20000 in
theorem gX10_same_X10_isKind : GoodIn wsX10_same (va_wsS RX10 122 yX10_isKind wsX10_isKind) := goodIn_app (goodIn_of _ (by decide +kernel)) ggX10_same_X10_isKind
set_option maxRecDepth 20000 in
theorem ggX10_same_X10_isDay : GoodIn wsX10_same wsX10_isDay := goodIn_r _ [11, 6, 7, 4, 8] (by decide +kernel) (by decide +kernel)
set_option maxRecDepth 20000 in
theorem gX10_same_X10_isDay : GoodIn wsX10_same (va_wsS RX10 90 yX10_isDay wsX10_isDay) := goodIn_app (goodIn_of _ (by decide +kernel)) ggX10_same_X10_isDay
set_option maxRecDepth 20000 in
theorem ggX10_same_X0_countAlike : GoodIn wsX10_same wsX0_countAlike := goodIn_r _ [16, 17, 18, 19, 20, 15, 21, 22, 23, 24, 25, 26, 27, 28, 29, 30, 31, 32, 33, 34, 35, 36, 37, 38, 39, 40, 41, 42, 43, 44, 45, 46, 47, 48, 49, 50, 51, 52, 53, 54, 55, 56, 57, 58, 59, 60, 61, 62, 63, 64, 65, 66, 67, 68, 69, 70, 71, 72, 73, 74, 75, 76, 77, 78, 79, 80, 81, 82, 83, 84, 85, 86, 87, 88, 89, 90, 91, 92, 93, 94, 95, 96, 97, 98, 99, 100, 101, 102, 103, 104, 105, 106, 107, 108, 109, 110, 111, 112, 113, 114, 115, 116, 117, 118, 119, 120, 121, 122, 123, 124, 125, 126, 127, 128, 129, 130, 131, 132, 133, 134, 135, 136, 137, 149, 150, 151, 152, 153, 154, 155, 156, 157, 158, 159, 160, 161, 162, 163, 164, 165, 166, 167, 168, 169, 170, 171, 172, 173, 174, 175, 176, 177, 178, 179, 180, 181, 182, 183] (by decide +kernel) (by decide +kernel)
set_option maxRecDepth 20000 in
theorem gX10_same_X0_countAlike : GoodIn wsX10_same (wsV RX10 226 RX0 yX0_countAlike wsX0_countAlike) := goodIn_app (goodIn_of _ (by decide +kernel)) ggX10_same_X0_countAlike
theorem dX10_same_0 : decode cX10_same 0 = .ok (.iload_n 1, 1) := by decide +kernel
theorem dX10_same_1 : decode cX10_same 1 = .ok (.invokestatic 122, 3) := by decide +kernel
theorem dX10_same_4 : decode cX10_same 4 = .ok (.ifCond .eq 10, 3) := by decide +kernel
theorem dX10_same_7 : decode cX10_same 7 = .ok (.iload_n 2, 1) := by decide +kernel
theorem dX10_same_8 : decode cX10_same 8 = .ok (.invokestatic 90, 3) := by decide +kernel
theorem dX10_same_11 : decode cX10_same 11 = .ok (.ifCond .ne 6, 3) := by decide +kernel
theorem dX10_same_14 : decode cX10_same 14 = .ok (.bipush (-2), 2) := by decide +kernel
theorem dX10_same_16 : decode cX10_same 16 = .ok (.ireturn, 1) := by decide +kernel
theorem dX10_same_17 : decode cX10_same 17 = .ok (.aload_n 0, 1) := by decide +kernel
theorem dX10_same_18 : decode cX10_same 18 = .ok (.getfield 58, 3) := by decide +kernel
theorem dX10_same_21 : decode cX10_same 21 = .ok (.iload_n 1, 1) := by decide +kernel
theorem dX10_same_22 : decode cX10_same 22 = .ok (.iload_n 2, 1) := by decide +kernel
theorem dX10_same_23 : decode cX10_same 23 = .ok (.invokevirtual 226, 3) := by decide +kernel
theorem dX10_same_26 : decode cX10_same 26 = .ok (.ireturn, 1) := by decide +kernel
set_option maxRecDepth 20000 in
theorem ggX10_dead_X10_isLand : GoodIn wsX10_dead wsX10_isLand := goodIn_r _ [7, 8, 9, 6, 10] (by decide +kernel) (by decide +kernel)
set_option maxRecDepth 20000 in
theorem gX10_dead_X10_isLand : GoodIn wsX10_dead (va_wsS RX10 108 yX10_isLand wsX10_isLand) := goodIn_app (goodIn_of _ (by decide +kernel)) ggX10_dead_X10_isLand
set_option maxRecDepth 20000 in
theorem ggX10_dead_X10_isDay : GoodIn wsX10_dead wsX10_isDay := goodIn_r _ [13, 8, 9, 6, 10] (by decide +kernel) (by decide +kernel)
set_option maxRecDepth 20000 in
theorem gX10_dead_X10_isDay : GoodIn wsX10_dead (va_wsS RX10 90 yX10_isDay wsX10_isDay) := goodIn_app (goodIn_of _ (by decide +kernel)) ggX10_dead_X10_isDay
set_option maxRecDepth 20000 in
theorem ggX10_dead_X5_kindsSorted : GoodIn wsX10_dead wsX5_kindsSorted := goodIn_r _ [18, 19, 20, 21, 17, 22, 23, 97, 98] (by decide +kernel) (by decide +kernel)
set_option maxRecDepth 20000 in
theorem gX10_dead_X5_kindsSorted : GoodIn wsX10_dead (wsV RX10 229 RX5 yX5_kindsSorted wsX5_kindsSorted) := goodIn_app (goodIn_of _ (by decide +kernel)) ggX10_dead_X5_kindsSorted
set_option maxRecDepth 20000 in
theorem ggX10_dead_X0_everFirst : GoodIn wsX10_dead wsX0_everFirst := goodIn_r _ [28, 29, 30, 31, 32, 33, 34, 27, 35, 36, 37, 38, 39, 40, 41, 42, 43, 44, 45, 46, 47, 48, 49, 50, 51, 52, 53, 54, 55, 56, 57, 58, 59, 60, 61, 62, 63, 64, 65, 66, 67, 68, 69, 70, 71, 72, 73, 74, 75, 76, 77, 78, 79, 80, 99, 100, 101, 102, 103, 104, 105, 106, 107, 108, 109, 110, 111, 112, 113, 114, 115, 116, 117, 118, 119, 120, 121, 122, 123] (by decide +kernel) (by decide +kernel)
set_option maxRecDepth 20000 in
theorem gX10_dead_X0_everFirst : GoodIn wsX10_dead (wsV RX10 232 RX0 yX0_everFirst wsX0_everFirst) := goodIn_app (goodIn_of _ (by decide +kernel)) ggX10_dead_X0_everFirst
set_option maxRecDepth 20000 in
theorem ggX10_dead_X6_placesWithout : GoodIn wsX10_dead wsX6_placesWithout := goodIn_r _ [84, 47, 85, 48, 49, 50, 45, 51, 52, 53, 111, 112, 113, 114, 115, 116, 117, 118, 119, 120, 121, 122, 123] (by decide +kernel) (by decide +kernel)
set_option maxRecDepth 20000 in
theorem gX10_dead_X6_placesWithout : GoodIn wsX10_dead (wsV RX10 236 RX6 yX6_placesWithout wsX6_placesWithout) := goodIn_app (goodIn_of _ (by decide +kernel)) ggX10_dead_X6_placesWithout
theorem dX10_dead_0 : decode cX10_dead 0 = .ok (.iload_n 1, 1) := by decide +kernel
theorem dX10_dead_1 : decode cX10_dead 1 = .ok (.invokestatic 108, 3) := by decide +kernel
theorem dX10_dead_4 : decode cX10_dead 4 = .ok (.ifCond .eq 10, 3) := by decide +kernel
theorem dX10_dead_7 : decode cX10_dead 7 = .ok (.iload_n 2, 1) := by decide +kernel
theorem dX10_dead_8 : decode cX10_dead 8 = .ok (.invokestatic 90, 3) := by decide +kernel
theorem dX10_dead_11 : decode cX10_dead 11 = .ok (.ifCond .ne 6, 3) := by decide +kernel
theorem dX10_dead_14 : decode cX10_dead 14 = .ok (.bipush (-2), 2) := by decide +kernel
theorem dX10_dead_16 : decode cX10_dead 16 = .ok (.ireturn, 1) := by decide +kernel
theorem dX10_dead_17 : decode cX10_dead 17 = .ok (.aload_n 0, 1) := by decide +kernel
theorem dX10_dead_18 : decode cX10_dead 18 = .ok (.getfield 58, 3) := by decide +kernel
theorem dX10_dead_21 : decode cX10_dead 21 = .ok (.iload_n 1, 1) := by decide +kernel
theorem dX10_dead_22 : decode cX10_dead 22 = .ok (.iload_n 2, 1) := by decide +kernel
theorem dX10_dead_23 : decode cX10_dead 23 = .ok (.aload_n 0, 1) := by decide +kernel
theorem dX10_dead_24 : decode cX10_dead 24 = .ok (.getfield 26, 3) := by decide +kernel
theorem dX10_dead_27 : decode cX10_dead 27 = .ok (.iload_n 1, 1) := by decide +kernel
theorem dX10_dead_28 : decode cX10_dead 28 = .ok (.invokevirtual 229, 3) := by decide +kernel
theorem dX10_dead_31 : decode cX10_dead 31 = .ok (.invokevirtual 232, 3) := by decide +kernel
theorem dX10_dead_34 : decode cX10_dead 34 = .ok (.lstore_n 3, 1) := by decide +kernel
theorem dX10_dead_35 : decode cX10_dead 35 = .ok (.aload_n 0, 1) := by decide +kernel
theorem dX10_dead_36 : decode cX10_dead 36 = .ok (.getfield 19, 3) := by decide +kernel
theorem dX10_dead_39 : decode cX10_dead 39 = .ok (.lload_n 3, 1) := by decide +kernel
theorem dX10_dead_40 : decode cX10_dead 40 = .ok (.iload_n 1, 1) := by decide +kernel
theorem dX10_dead_41 : decode cX10_dead 41 = .ok (.iload_n 2, 1) := by decide +kernel
theorem dX10_dead_42 : decode cX10_dead 42 = .ok (.invokevirtual 236, 3) := by decide +kernel
theorem dX10_dead_45 : decode cX10_dead 45 = .ok (.ireturn, 1) := by decide +kernel
set_option maxRecDepth 20000 in
theorem ggX10_trial_X10_isRule : GoodIn wsX10_trial wsX10_isRule := goodIn_r _ [7, 8, 9, 10, 11, 6, 12, 24, 25, 26, 27, 28, 29, 30, 31, 32, 33, 34, 37, 38, 39, 40, 41, 42, 43, 44, 45, 46, 47, 48, 49] (by decide +kernel) (by decide +kernel)
set_option maxRecDepth 20000 in
theorem gX10_trial_X10_isRule : GoodIn wsX10_trial (wsV RX10 133 RX10 yX10_isRule wsX10_isRule) := goodIn_app (goodIn_of _ (by decide +kernel)) ggX10_trial_X10_isRule
set_option maxRecDepth 20000 in
theorem ggX10_trial_X9_has : GoodIn wsX10_trial wsX9_has := goodIn_r _ [17, 18, 19, 35, 36] (by decide +kernel) (by decide +kernel)
set_option maxRecDepth 20000 in
theorem gX10_trial_X9_has : GoodIn wsX10_trial (wsV RX10 239 RX9 yX9_has wsX9_has) := goodIn_app (goodIn_of _ (by decide +kernel)) ggX10_trial_X9_has
set_option maxRecDepth 20000 in
theorem ggX10_trial_X9_add : GoodIn wsX10_trial wsX9_add := goodIn_r _ [23, 19, 18, 35, 36] (by decide +kernel) (by decide +kernel)
set_option maxRecDepth 20000 in
theorem gX10_trial_X9_add : GoodIn wsX10_trial (wsV RX10 243 RX9 yX9_add wsX9_add) := goodIn_app (goodIn_of _ (by decide +kernel)) ggX10_trial_X9_add
theorem dX10_trial_0 : decode cX10_trial 0 = .ok (.aload_n 0, 1) := by decide +kernel
theorem dX10_trial_1 : decode cX10_trial 1 = .ok (.iload_n 1, 1) := by decide +kernel
theorem dX10_trial_2 : decode cX10_trial 2 = .ok (.invokevirtual 133, 3) := by decide +kernel
theorem dX10_trial_5 : decode cX10_trial 5 = .ok (.ifCond .eq 14, 3) := by decide +kernel
theorem dX10_trial_8 : decode cX10_trial 8 = .ok (.aload_n 0, 1) := by decide +kernel
theorem dX10_trial_9 : decode cX10_trial 9 = .ok (.getfield 40, 3) := by decide +kernel
theorem dX10_trial_12 : decode cX10_trial 12 = .ok (.iload_n 1, 1) := by decide +kernel
theorem dX10_trial_13 : decode cX10_trial 13 = .ok (.invokevirtual 239, 3) := by decide +kernel
theorem dX10_trial_16 : decode cX10_trial 16 = .ok (.ifCond .eq 6, 3) := by decide +kernel
theorem dX10_trial_19 : decode cX10_trial 19 = .ok (.bipush (-2), 2) := by decide +kernel
theorem dX10_trial_21 : decode cX10_trial 21 = .ok (.ireturn, 1) := by decide +kernel
theorem dX10_trial_22 : decode cX10_trial 22 = .ok (.aload_n 0, 1) := by decide +kernel
theorem dX10_trial_23 : decode cX10_trial 23 = .ok (.getfield 40, 3) := by decide +kernel
theorem dX10_trial_26 : decode cX10_trial 26 = .ok (.getfield 242, 3) := by decide +kernel
theorem dX10_trial_29 : decode cX10_trial 29 = .ok (.bipush 12, 2) := by decide +kernel
theorem dX10_trial_31 : decode cX10_trial 31 = .ok (.if_icmp .lt 6, 3) := by decide +kernel
theorem dX10_trial_34 : decode cX10_trial 34 = .ok (.bipush (-4), 2) := by decide +kernel
theorem dX10_trial_36 : decode cX10_trial 36 = .ok (.ireturn, 1) := by decide +kernel
theorem dX10_trial_37 : decode cX10_trial 37 = .ok (.aload_n 0, 1) := by decide +kernel
theorem dX10_trial_38 : decode cX10_trial 38 = .ok (.getfield 40, 3) := by decide +kernel
theorem dX10_trial_41 : decode cX10_trial 41 = .ok (.iload_n 1, 1) := by decide +kernel
theorem dX10_trial_42 : decode cX10_trial 42 = .ok (.invokevirtual 243, 3) := by decide +kernel
theorem dX10_trial_45 : decode cX10_trial 45 = .ok (.ireturn, 1) := by decide +kernel
theorem dX10_untry_0 : decode cX10_untry 0 = .ok (.aload_n 0, 1) := by decide +kernel
theorem dX10_untry_1 : decode cX10_untry 1 = .ok (.getfield 40, 3) := by decide +kernel
theorem dX10_untry_4 : decode cX10_untry 4 = .ok (.getfield 242, 3) := by decide +kernel
theorem dX10_untry_7 : decode cX10_untry 7 = .ok (.istore_n 1, 1) := by decide +kernel
theorem dX10_untry_8 : decode cX10_untry 8 = .ok (.aload_n 0, 1) := by decide +kernel
theorem dX10_untry_9 : decode cX10_untry 9 = .ok (.getfield 40, 3) := by decide +kernel
theorem dX10_untry_12 : decode cX10_untry 12 = .ok (.iconst 0, 1) := by decide +kernel
theorem dX10_untry_13 : decode cX10_untry 13 = .ok (.putfield 242, 3) := by decide +kernel
theorem dX10_untry_16 : decode cX10_untry 16 = .ok (.iload_n 1, 1) := by decide +kernel
theorem dX10_untry_17 : decode cX10_untry 17 = .ok (.ireturn, 1) := by decide +kernel
set_option maxRecDepth 20000 in
theorem ggX10_kindOf_X10_isCase : GoodIn wsX10_kindOf wsX10_isCase := goodIn_r _ [7, 1, 8, 9, 10, 6, 11, 15, 16, 17, 18, 19, 20, 21, 22, 23, 24, 25, 26, 27, 28, 29, 30, 31] (by decide +kernel) (by decide +kernel)
set_option maxRecDepth 20000 in
theorem gX10_kindOf_X10_isCase : GoodIn wsX10_kindOf (wsV RX10 102 RX10 yX10_isCase wsX10_isCase) := goodIn_app (goodIn_of _ (by decide +kernel)) ggX10_kindOf_X10_isCase
set_option maxRecDepth 20000 in
theorem ggX10_kindOf_X10_isKind : GoodIn wsX10_kindOf wsX10_isKind := goodIn_r _ [14, 9, 10, 6, 11] (by decide +kernel) (by decide +kernel)
set_option maxRecDepth 20000 in
theorem gX10_kindOf_X10_isKind : GoodIn wsX10_kindOf (va_wsS RX10 122 yX10_isKind wsX10_isKind) := goodIn_app (goodIn_of _ (by decide +kernel)) ggX10_kindOf_X10_isKind
theorem dX10_kindOf_0 : decode cX10_kindOf 0 = .ok (.aload_n 0, 1) := by decide +kernel
theorem dX10_kindOf_1 : decode cX10_kindOf 1 = .ok (.iload_n 1, 1) := by decide +kernel
theorem dX10_kindOf_2 : decode cX10_kindOf 2 = .ok (.invokevirtual 102, 3) := by decide +kernel
theorem dX10_kindOf_5 : decode cX10_kindOf 5 = .ok (.ifCond .eq 10, 3) := by decide +kernel
theorem dX10_kindOf_8 : decode cX10_kindOf 8 = .ok (.iload_n 2, 1) := by decide +kernel
theorem dX10_kindOf_9 : decode cX10_kindOf 9 = .ok (.invokestatic 122, 3) := by decide +kernel
theorem dX10_kindOf_12 : decode cX10_kindOf 12 = .ok (.ifCond .ne 6, 3) := by decide +kernel
theorem dX10_kindOf_15 : decode cX10_kindOf 15 = .ok (.bipush (-2), 2) := by decide +kernel
theorem dX10_kindOf_17 : decode cX10_kindOf 17 = .ok (.ireturn, 1) := by decide +kernel
theorem dX10_kindOf_18 : decode cX10_kindOf 18 = .ok (.aload_n 0, 1) := by decide +kernel
theorem dX10_kindOf_19 : decode cX10_kindOf 19 = .ok (.getfield 12, 3) := by decide +kernel
theorem dX10_kindOf_22 : decode cX10_kindOf 22 = .ok (.getfield 244, 3) := by decide +kernel
theorem dX10_kindOf_25 : decode cX10_kindOf 25 = .ok (.iload_n 1, 1) := by decide +kernel
theorem dX10_kindOf_26 : decode cX10_kindOf 26 = .ok (.iaload, 1) := by decide +kernel
theorem dX10_kindOf_27 : decode cX10_kindOf 27 = .ok (.istore_n 3, 1) := by decide +kernel
theorem dX10_kindOf_28 : decode cX10_kindOf 28 = .ok (.aload_n 0, 1) := by decide +kernel
theorem dX10_kindOf_29 : decode cX10_kindOf 29 = .ok (.getfield 12, 3) := by decide +kernel
theorem dX10_kindOf_32 : decode cX10_kindOf 32 = .ok (.getfield 244, 3) := by decide +kernel
theorem dX10_kindOf_35 : decode cX10_kindOf 35 = .ok (.iload_n 1, 1) := by decide +kernel
theorem dX10_kindOf_36 : decode cX10_kindOf 36 = .ok (.iload_n 2, 1) := by decide +kernel
theorem dX10_kindOf_37 : decode cX10_kindOf 37 = .ok (.iastore, 1) := by decide +kernel
theorem dX10_kindOf_38 : decode cX10_kindOf 38 = .ok (.iload_n 3, 1) := by decide +kernel
theorem dX10_kindOf_39 : decode cX10_kindOf 39 = .ok (.ireturn, 1) := by decide +kernel
set_option maxRecDepth 20000 in
theorem ggX10_fewest_X7_fewestOf : GoodIn wsX10_fewest wsX7_fewestOf := goodIn_r _ [8, 9, 10, 11, 12, 13, 14, 15, 16, 17, 18, 19, 20, 21, 22, 23, 24, 25, 26, 27, 28, 29, 30, 31, 32, 33, 34, 35, 36, 37, 38, 39, 40, 41, 42, 43, 44, 45, 46, 47, 48, 49, 50, 51, 52, 53, 54, 55, 56, 57, 58, 59, 60, 61, 62, 63, 64, 65, 66, 67, 68, 69, 70, 7, 71, 72, 73, 74, 75, 76, 77, 78, 79, 80, 81, 82, 83, 84, 85, 86, 87, 88, 89, 90, 91, 92, 93, 94, 95, 96, 97, 98, 99, 100, 101, 102, 103, 104, 105, 106, 107, 108, 109, 110, 111, 112, 113, 114, 115, 116, 117, 118, 119, 120, 121, 122, 123, 124, 125, 126, 127, 128, 129, 130, 131, 132, 133, 134, 135, 136, 137, 138, 139, 140, 141, 142, 143, 144, 145, 146, 147, 165, 166, 167, 168, 159, 160, 161, 162, 163, 164, 169, 170, 171, 172, 173, 174, 175, 176, 177, 178, 179, 180, 181, 182, 183, 184, 185, 186, 187, 188, 189, 190, 191, 192, 193, 194, 195, 196, 197, 198, 199, 200, 201, 202] (by decide +kernel) (by decide +kernel)
set_option maxRecDepth 20000 in
theorem gX10_fewest_X7_fewestOf : GoodIn wsX10_fewest (wsV RX10 247 RX7 yX7_fewestOf wsX7_fewestOf) := goodIn_app (goodIn_of _ (by decide +kernel)) ggX10_fewest_X7_fewestOf
theorem dX10_fewest_0 : decode cX10_fewest 0 = .ok (.aload_n 0, 1) := by decide +kernel
theorem dX10_fewest_1 : decode cX10_fewest 1 = .ok (.getfield 12, 3) := by decide +kernel
theorem dX10_fewest_4 : decode cX10_fewest 4 = .ok (.getfield 94, 3) := by decide +kernel
theorem dX10_fewest_7 : decode cX10_fewest 7 = .ok (.ifCond .ne 6, 3) := by decide +kernel
theorem dX10_fewest_10 : decode cX10_fewest 10 = .ok (.bipush (-3), 2) := by decide +kernel
theorem dX10_fewest_12 : decode cX10_fewest 12 = .ok (.ireturn, 1) := by decide +kernel
theorem dX10_fewest_13 : decode cX10_fewest 13 = .ok (.aload_n 0, 1) := by decide +kernel
theorem dX10_fewest_14 : decode cX10_fewest 14 = .ok (.getfield 67, 3) := by decide +kernel
theorem dX10_fewest_17 : decode cX10_fewest 17 = .ok (.invokevirtual 247, 3) := by decide +kernel
theorem dX10_fewest_20 : decode cX10_fewest 20 = .ok (.ireturn, 1) := by decide +kernel
set_option maxRecDepth 20000 in
theorem ggX10_ask_X10_isQuestion : GoodIn wsX10_ask wsX10_isQuestion := goodIn_r _ [9, 10, 11, 8, 12, 13, 14, 15, 16, 17, 18, 19, 20, 21, 22, 23, 24, 170, 171, 172, 173, 174, 175, 176, 177, 178, 179, 180, 186, 187, 188, 189, 190, 191] (by decide +kernel) (by decide +kernel)
set_option maxRecDepth 20000 in
theorem gX10_ask_X10_isQuestion : GoodIn wsX10_ask (wsV RX10 167 RX10 yX10_isQuestion wsX10_isQuestion) := goodIn_app (goodIn_of _ (by decide +kernel)) ggX10_ask_X10_isQuestion
set_option maxRecDepth 20000 in
theorem ggX10_ask_X10_isBelow : GoodIn wsX10_ask wsX10_isBelow := goodIn_r _ [15] (by decide +kernel) (by decide +kernel)
set_option maxRecDepth 20000 in
theorem gX10_ask_X10_isBelow : GoodIn wsX10_ask (va_wsS RX10 125 yX10_isBelow wsX10_isBelow) := goodIn_app (goodIn_of _ (by decide +kernel)) ggX10_ask_X10_isBelow
set_option maxRecDepth 20000 in
theorem ggX10_ask_X1_search : GoodIn wsX10_ask wsX1_search := goodIn_r _ [29, 30, 31, 32, 33, 34, 35, 36, 37, 38, 39, 40, 41, 42, 43, 44, 45, 46, 47, 48, 49, 50, 51, 52, 53, 54, 55, 56, 57, 58, 59, 60, 61, 62, 63, 64, 65, 66, 67, 68, 69, 70, 71, 72, 73, 74, 75, 76, 77, 78, 79, 80, 28, 81, 82, 83, 84, 85, 86, 87, 88, 89, 90, 91, 92, 93, 94, 95, 96, 97, 98, 99, 100, 101, 102, 103, 104, 105, 106, 107, 108, 109, 110, 111, 112, 113, 114, 115, 116, 117, 118, 119, 120, 121, 122, 123, 124, 125, 126, 127, 128, 129, 130, 131, 132, 133, 134, 135, 136, 137, 138, 139, 140, 141, 142, 143, 144, 145, 146, 147, 148, 149, 150, 151, 152, 153, 154, 155, 156, 157, 158, 159, 160, 161, 162, 163, 164, 165, 166, 167, 168, 169, 181, 182, 183, 184, 185, 186, 187, 188, 189, 190, 191, 192, 193, 194, 195, 196, 197, 198, 199, 200, 201, 202, 203, 204, 205, 206, 207, 208, 209, 210, 211, 212, 213, 214, 215, 216, 217, 218, 219, 220, 221, 222, 223, 224, 225, 226] (by decide +kernel) (by decide +kernel)
set_option maxRecDepth 20000 in
theorem gX10_ask_X1_search : GoodIn wsX10_ask (wsV RX10 251 RX1 yX1_search wsX1_search) := goodIn_app (goodIn_of _ (by decide +kernel)) ggX10_ask_X1_search
theorem dX10_ask_0 : decode cX10_ask 0 = .ok (.aload_n 0, 1) := by decide +kernel
theorem dX10_ask_1 : decode cX10_ask 1 = .ok (.iload_n 3, 1) := by decide +kernel
theorem dX10_ask_2 : decode cX10_ask 2 = .ok (.iload_n 1, 1) := by decide +kernel
theorem dX10_ask_3 : decode cX10_ask 3 = .ok (.iload_n 2, 1) := by decide +kernel
theorem dX10_ask_4 : decode cX10_ask 4 = .ok (.invokevirtual 167, 3) := by decide +kernel
theorem dX10_ask_7 : decode cX10_ask 7 = .ok (.ifCond .ne 6, 3) := by decide +kernel
theorem dX10_ask_10 : decode cX10_ask 10 = .ok (.bipush (-2), 2) := by decide +kernel
theorem dX10_ask_12 : decode cX10_ask 12 = .ok (.ireturn, 1) := by decide +kernel
theorem dX10_ask_13 : decode cX10_ask 13 = .ok (.iload 4, 2) := by decide +kernel
theorem dX10_ask_15 : decode cX10_ask 15 = .ok (.bipush 64, 2) := by decide +kernel
theorem dX10_ask_17 : decode cX10_ask 17 = .ok (.invokestatic 125, 3) := by decide +kernel
theorem dX10_ask_20 : decode cX10_ask 20 = .ok (.ifCond .eq 12, 3) := by decide +kernel
theorem dX10_ask_23 : decode cX10_ask 23 = .ok (.iload 5, 2) := by decide +kernel
theorem dX10_ask_25 : decode cX10_ask 25 = .ok (.iconst 3, 1) := by decide +kernel
theorem dX10_ask_26 : decode cX10_ask 26 = .ok (.invokestatic 125, 3) := by decide +kernel
theorem dX10_ask_29 : decode cX10_ask 29 = .ok (.ifCond .ne 6, 3) := by decide +kernel
theorem dX10_ask_32 : decode cX10_ask 32 = .ok (.bipush (-2), 2) := by decide +kernel
theorem dX10_ask_34 : decode cX10_ask 34 = .ok (.ireturn, 1) := by decide +kernel
theorem dX10_ask_35 : decode cX10_ask 35 = .ok (.aload_n 0, 1) := by decide +kernel
theorem dX10_ask_36 : decode cX10_ask 36 = .ok (.getfield 76, 3) := by decide +kernel
theorem dX10_ask_39 : decode cX10_ask 39 = .ok (.iload_n 1, 1) := by decide +kernel
theorem dX10_ask_40 : decode cX10_ask 40 = .ok (.iload_n 2, 1) := by decide +kernel
