theorem dX10_ask_41 : decode cX10_ask 41 = .ok (.iload_n 3, 1) := by decide +kernel
theorem dX10_ask_42 : decode cX10_ask 42 = .ok (.iload 4, 2) := by decide +kernel
theorem dX10_ask_44 : decode cX10_ask 44 = .ok (.invokevirtual 251, 3) := by decide +kernel
theorem dX10_ask_47 : decode cX10_ask 47 = .ok (.iload 5, 2) := by decide +kernel
theorem dX10_ask_49 : decode cX10_ask 49 = .ok (.ifCond .ne 13, 3) := by decide +kernel
theorem dX10_ask_52 : decode cX10_ask 52 = .ok (.aload_n 0, 1) := by decide +kernel
theorem dX10_ask_53 : decode cX10_ask 53 = .ok (.getfield 76, 3) := by decide +kernel
theorem dX10_ask_56 : decode cX10_ask 56 = .ok (.getfield 255, 3) := by decide +kernel
theorem dX10_ask_59 : decode cX10_ask 59 = .ok (.goto 26, 3) := by decide +kernel
theorem dX10_ask_62 : decode cX10_ask 62 = .ok (.iload 5, 2) := by decide +kernel
theorem dX10_ask_64 : decode cX10_ask 64 = .ok (.iconst 1, 1) := by decide +kernel
theorem dX10_ask_65 : decode cX10_ask 65 = .ok (.if_icmp .ne 13, 3) := by decide +kernel
theorem dX10_ask_68 : decode cX10_ask 68 = .ok (.aload_n 0, 1) := by decide +kernel
theorem dX10_ask_69 : decode cX10_ask 69 = .ok (.getfield 76, 3) := by decide +kernel
theorem dX10_ask_72 : decode cX10_ask 72 = .ok (.getfield 258, 3) := by decide +kernel
theorem dX10_ask_75 : decode cX10_ask 75 = .ok (.goto 10, 3) := by decide +kernel
theorem dX10_ask_78 : decode cX10_ask 78 = .ok (.aload_n 0, 1) := by decide +kernel
theorem dX10_ask_79 : decode cX10_ask 79 = .ok (.getfield 76, 3) := by decide +kernel
theorem dX10_ask_82 : decode cX10_ask 82 = .ok (.getfield 261, 3) := by decide +kernel
theorem dX10_ask_85 : decode cX10_ask 85 = .ok (.ireturn, 1) := by decide +kernel
set_option maxRecDepth 20000 in
theorem ggX10_count_X10_isBelow : GoodIn wsX10_count wsX10_isBelow := goodIn_r _ [13] (by decide +kernel) (by decide +kernel)
set_option maxRecDepth 20000 in
theorem gX10_count_X10_isBelow : GoodIn wsX10_count (va_wsS RX10 125 yX10_isBelow wsX10_isBelow) := goodIn_app (goodIn_of _ (by decide +kernel)) ggX10_count_X10_isBelow
theorem dX10_count_0 : decode cX10_count 0 = .ok (.iload_n 1, 1) := by decide +kernel
theorem dX10_count_1 : decode cX10_count 1 = .ok (.iconst 5, 1) := by decide +kernel
theorem dX10_count_2 : decode cX10_count 2 = .ok (.invokestatic 125, 3) := by decide +kernel
theorem dX10_count_5 : decode cX10_count 5 = .ok (.ifCond .ne 6, 3) := by decide +kernel
theorem dX10_count_8 : decode cX10_count 8 = .ok (.bipush (-2), 2) := by decide +kernel
theorem dX10_count_10 : decode cX10_count 10 = .ok (.ireturn, 1) := by decide +kernel
theorem dX10_count_11 : decode cX10_count 11 = .ok (.iload_n 1, 1) := by decide +kernel
theorem dX10_count_12 : decode cX10_count 12 = .ok (.tableswitch 64 0 3 #[32, 40, 48, 56], 32) := by decide +kernel
theorem dX10_count_44 : decode cX10_count 44 = .ok (.aload_n 0, 1) := by decide +kernel
theorem dX10_count_45 : decode cX10_count 45 = .ok (.getfield 12, 3) := by decide +kernel
theorem dX10_count_48 : decode cX10_count 48 = .ok (.getfield 94, 3) := by decide +kernel
theorem dX10_count_51 : decode cX10_count 51 = .ok (.ireturn, 1) := by decide +kernel
theorem dX10_count_52 : decode cX10_count 52 = .ok (.aload_n 0, 1) := by decide +kernel
theorem dX10_count_53 : decode cX10_count 53 = .ok (.getfield 12, 3) := by decide +kernel
theorem dX10_count_56 : decode cX10_count 56 = .ok (.getfield 111, 3) := by decide +kernel
theorem dX10_count_59 : decode cX10_count 59 = .ok (.ireturn, 1) := by decide +kernel
theorem dX10_count_60 : decode cX10_count 60 = .ok (.aload_n 0, 1) := by decide +kernel
theorem dX10_count_61 : decode cX10_count 61 = .ok (.getfield 19, 3) := by decide +kernel
theorem dX10_count_64 : decode cX10_count 64 = .ok (.getfield 129, 3) := by decide +kernel
theorem dX10_count_67 : decode cX10_count 67 = .ok (.ireturn, 1) := by decide +kernel
theorem dX10_count_68 : decode cX10_count 68 = .ok (.aload_n 0, 1) := by decide +kernel
theorem dX10_count_69 : decode cX10_count 69 = .ok (.getfield 33, 3) := by decide +kernel
theorem dX10_count_72 : decode cX10_count 72 = .ok (.getfield 156, 3) := by decide +kernel
theorem dX10_count_75 : decode cX10_count 75 = .ok (.ireturn, 1) := by decide +kernel
theorem dX10_count_76 : decode cX10_count 76 = .ok (.aload_n 0, 1) := by decide +kernel
theorem dX10_count_77 : decode cX10_count 77 = .ok (.getfield 40, 3) := by decide +kernel
theorem dX10_count_80 : decode cX10_count 80 = .ok (.getfield 242, 3) := by decide +kernel
theorem dX10_count_83 : decode cX10_count 83 = .ok (.ireturn, 1) := by decide +kernel
set_option maxRecDepth 20000 in
theorem ggX10_digest_X10_count : GoodIn wsX10_digest wsX10_count := goodIn_r _ [18, 2, 3, 19, 4, 5, 9, 10, 11, 13, 20, 21, 17, 22, 165, 166, 167, 168, 169, 170, 171, 172, 173, 174, 175, 176, 177, 178, 179, 180, 181, 182, 183, 184, 185, 186, 187, 188, 189, 190, 191, 192, 193, 194, 197, 198, 199, 200, 201, 202] (by decide +kernel) (by decide +kernel)
set_option maxRecDepth 20000 in
theorem gX10_digest_X10_count : GoodIn wsX10_digest (wsV RX10 266 RX10 yX10_count wsX10_count) := goodIn_app (goodIn_of _ (by decide +kernel)) ggX10_digest_X10_count
set_option maxRecDepth 20000 in
theorem ggX10_digest_X10_mix : GoodIn wsX10_digest wsX10_mix := goodIn_r _ [25, 26] (by decide +kernel) (by decide +kernel)
set_option maxRecDepth 20000 in
theorem gX10_digest_X10_mix : GoodIn wsX10_digest (va_wsS RX10 269 yX10_mix wsX10_mix) := goodIn_app (goodIn_of _ (by decide +kernel)) ggX10_digest_X10_mix
set_option maxRecDepth 20000 in
theorem ggX10_digest_X10_mixCase : GoodIn wsX10_digest wsX10_mixCase := goodIn_r _ [30, 2, 31, 32, 33, 34, 23, 24, 17, 25, 26, 35, 36, 37, 38, 39, 40, 41, 42, 43, 44, 45, 46, 47, 48, 49, 50, 51, 52, 53, 54, 55, 56, 57, 58, 59, 60, 61, 62, 63, 64, 65, 66, 67, 68, 69, 70, 71, 72, 73, 74, 75, 76, 77, 78, 79, 80, 81, 82, 83, 84, 85, 86, 87, 88, 89, 90, 91, 92, 93, 94, 95, 96, 97, 98, 99, 100, 101, 102, 103, 104, 105, 106, 107, 108, 109, 110, 111, 112, 113, 114, 115, 116, 117, 118, 119, 120, 121, 122, 123, 124, 125, 126, 127, 128, 129, 130, 131, 132, 133, 134, 135, 136, 137, 138, 139, 140, 141, 142, 143, 144, 165, 166, 167, 168, 169, 170, 171, 172, 173, 174, 175, 176, 177, 178, 179, 180, 181, 203, 204, 205, 206, 207, 208, 209, 210, 211, 182, 183, 184, 185, 186, 187, 188, 189, 190, 191, 192, 193, 194, 195, 196, 197, 198, 199, 200, 212, 213, 214, 215] (by decide +kernel) (by decide +kernel)
set_option maxRecDepth 20000 in
theorem gX10_digest_X10_mixCase : GoodIn wsX10_digest (wsV RX10 273 RX10 yX10_mixCase wsX10_mixCase) := goodIn_app (goodIn_of _ (by decide +kernel)) ggX10_digest_X10_mixCase
set_option maxRecDepth 20000 in
theorem ggX10_digest_X10_mixRule : GoodIn wsX10_digest wsX10_mixRule := goodIn_r _ [148, 4, 149, 150, 151, 152, 153, 154, 155, 156, 157, 23, 24, 17, 25, 26, 165, 166, 167, 168, 169, 170, 171, 172, 173, 174, 175, 182, 183, 184, 185, 186, 187, 188, 189, 190, 191, 192, 193, 194] (by decide +kernel) (by decide +kernel)
set_option maxRecDepth 20000 in
theorem gX10_digest_X10_mixRule : GoodIn wsX10_digest (wsV RX10 276 RX10 yX10_mixRule wsX10_mixRule) := goodIn_app (goodIn_of _ (by decide +kernel)) ggX10_digest_X10_mixRule
set_option maxRecDepth 20000 in
theorem ggX10_digest_X10_mixAll : GoodIn wsX10_digest wsX10_mixAll := goodIn_r _ [75, 23, 24, 17, 25, 26] (by decide +kernel) (by decide +kernel)
set_option maxRecDepth 20000 in
theorem gX10_digest_X10_mixAll : GoodIn wsX10_digest (va_wsS RX10 279 yX10_mixAll wsX10_mixAll) := goodIn_app (goodIn_of _ (by decide +kernel)) ggX10_digest_X10_mixAll
set_option maxRecDepth 20000 in
theorem ggX10_digest_X10_mixTreaty : GoodIn wsX10_digest wsX10_mixTreaty := goodIn_r _ [161, 9, 162, 163, 164, 23, 24, 17, 25, 26, 165, 166, 167, 168, 169, 170, 171, 172, 173, 174, 175, 197, 198, 199, 200] (by decide +kernel) (by decide +kernel)
set_option maxRecDepth 20000 in
theorem gX10_digest_X10_mixTreaty : GoodIn wsX10_digest (wsV RX10 283 RX10 yX10_mixTreaty wsX10_mixTreaty) := goodIn_app (goodIn_of _ (by decide +kernel)) ggX10_digest_X10_mixTreaty
theorem dX10_digest_0 : decode cX10_digest 0 = .ok (.ldc2_w 264, 3) := by decide +kernel
theorem dX10_digest_3 : decode cX10_digest 3 = .ok (.lstore_n 1, 1) := by decide +kernel
theorem dX10_digest_4 : decode cX10_digest 4 = .ok (.iconst 0, 1) := by decide +kernel
theorem dX10_digest_5 : decode cX10_digest 5 = .ok (.istore_n 3, 1) := by decide +kernel
theorem dX10_digest_6 : decode cX10_digest 6 = .ok (.iload_n 3, 1) := by decide +kernel
theorem dX10_digest_7 : decode cX10_digest 7 = .ok (.iconst 5, 1) := by decide +kernel
theorem dX10_digest_8 : decode cX10_digest 8 = .ok (.if_icmp .ge 19, 3) := by decide +kernel
theorem dX10_digest_11 : decode cX10_digest 11 = .ok (.lload_n 1, 1) := by decide +kernel
theorem dX10_digest_12 : decode cX10_digest 12 = .ok (.aload_n 0, 1) := by decide +kernel
theorem dX10_digest_13 : decode cX10_digest 13 = .ok (.iload_n 3, 1) := by decide +kernel
theorem dX10_digest_14 : decode cX10_digest 14 = .ok (.invokevirtual 266, 3) := by decide +kernel
theorem dX10_digest_17 : decode cX10_digest 17 = .ok (.invokestatic 269, 3) := by decide +kernel
theorem dX10_digest_20 : decode cX10_digest 20 = .ok (.lstore_n 1, 1) := by decide +kernel
theorem dX10_digest_21 : decode cX10_digest 21 = .ok (.iinc 3 1, 3) := by decide +kernel
theorem dX10_digest_24 : decode cX10_digest 24 = .ok (.goto (-18), 3) := by decide +kernel
theorem dX10_digest_27 : decode cX10_digest 27 = .ok (.iconst 0, 1) := by decide +kernel
theorem dX10_digest_28 : decode cX10_digest 28 = .ok (.istore_n 3, 1) := by decide +kernel
theorem dX10_digest_29 : decode cX10_digest 29 = .ok (.iload_n 3, 1) := by decide +kernel
theorem dX10_digest_30 : decode cX10_digest 30 = .ok (.aload_n 0, 1) := by decide +kernel
theorem dX10_digest_31 : decode cX10_digest 31 = .ok (.getfield 12, 3) := by decide +kernel
theorem dX10_digest_34 : decode cX10_digest 34 = .ok (.getfield 94, 3) := by decide +kernel
theorem dX10_digest_37 : decode cX10_digest 37 = .ok (.if_icmp .ge 16, 3) := by decide +kernel
theorem dX10_digest_40 : decode cX10_digest 40 = .ok (.aload_n 0, 1) := by decide +kernel
theorem dX10_digest_41 : decode cX10_digest 41 = .ok (.lload_n 1, 1) := by decide +kernel
theorem dX10_digest_42 : decode cX10_digest 42 = .ok (.iload_n 3, 1) := by decide +kernel
theorem dX10_digest_43 : decode cX10_digest 43 = .ok (.invokevirtual 273, 3) := by decide +kernel
theorem dX10_digest_46 : decode cX10_digest 46 = .ok (.lstore_n 1, 1) := by decide +kernel
theorem dX10_digest_47 : decode cX10_digest 47 = .ok (.iinc 3 1, 3) := by decide +kernel
theorem dX10_digest_50 : decode cX10_digest 50 = .ok (.goto (-21), 3) := by decide +kernel
theorem dX10_digest_53 : decode cX10_digest 53 = .ok (.iconst 0, 1) := by decide +kernel
theorem dX10_digest_54 : decode cX10_digest 54 = .ok (.istore_n 3, 1) := by decide +kernel
theorem dX10_digest_55 : decode cX10_digest 55 = .ok (.iload_n 3, 1) := by decide +kernel
theorem dX10_digest_56 : decode cX10_digest 56 = .ok (.aload_n 0, 1) := by decide +kernel
theorem dX10_digest_57 : decode cX10_digest 57 = .ok (.getfield 19, 3) := by decide +kernel
theorem dX10_digest_60 : decode cX10_digest 60 = .ok (.getfield 129, 3) := by decide +kernel
theorem dX10_digest_63 : decode cX10_digest 63 = .ok (.if_icmp .ge 16, 3) := by decide +kernel
theorem dX10_digest_66 : decode cX10_digest 66 = .ok (.aload_n 0, 1) := by decide +kernel
theorem dX10_digest_67 : decode cX10_digest 67 = .ok (.lload_n 1, 1) := by decide +kernel
theorem dX10_digest_68 : decode cX10_digest 68 = .ok (.iload_n 3, 1) := by decide +kernel
theorem dX10_digest_69 : decode cX10_digest 69 = .ok (.invokevirtual 276, 3) := by decide +kernel
theorem dX10_digest_72 : decode cX10_digest 72 = .ok (.lstore_n 1, 1) := by decide +kernel
theorem dX10_digest_73 : decode cX10_digest 73 = .ok (.iinc 3 1, 3) := by decide +kernel
theorem dX10_digest_76 : decode cX10_digest 76 = .ok (.goto (-21), 3) := by decide +kernel
theorem dX10_digest_79 : decode cX10_digest 79 = .ok (.lload_n 1, 1) := by decide +kernel
theorem dX10_digest_80 : decode cX10_digest 80 = .ok (.aload_n 0, 1) := by decide +kernel
theorem dX10_digest_81 : decode cX10_digest 81 = .ok (.getfield 26, 3) := by decide +kernel
theorem dX10_digest_84 : decode cX10_digest 84 = .ok (.getfield 150, 3) := by decide +kernel
theorem dX10_digest_87 : decode cX10_digest 87 = .ok (.aload_n 0, 1) := by decide +kernel
theorem dX10_digest_88 : decode cX10_digest 88 = .ok (.getfield 26, 3) := by decide +kernel
theorem dX10_digest_91 : decode cX10_digest 91 = .ok (.getfield 150, 3) := by decide +kernel
theorem dX10_digest_94 : decode cX10_digest 94 = .ok (.arraylength, 1) := by decide +kernel
theorem dX10_digest_95 : decode cX10_digest 95 = .ok (.invokestatic 279, 3) := by decide +kernel
theorem dX10_digest_98 : decode cX10_digest 98 = .ok (.lstore_n 1, 1) := by decide +kernel
theorem dX10_digest_99 : decode cX10_digest 99 = .ok (.lload_n 1, 1) := by decide +kernel
theorem dX10_digest_100 : decode cX10_digest 100 = .ok (.aload_n 0, 1) := by decide +kernel
theorem dX10_digest_101 : decode cX10_digest 101 = .ok (.getfield 26, 3) := by decide +kernel
theorem dX10_digest_104 : decode cX10_digest 104 = .ok (.getfield 153, 3) := by decide +kernel
theorem dX10_digest_107 : decode cX10_digest 107 = .ok (.aload_n 0, 1) := by decide +kernel
theorem dX10_digest_108 : decode cX10_digest 108 = .ok (.getfield 26, 3) := by decide +kernel
theorem dX10_digest_111 : decode cX10_digest 111 = .ok (.getfield 153, 3) := by decide +kernel
theorem dX10_digest_114 : decode cX10_digest 114 = .ok (.arraylength, 1) := by decide +kernel
theorem dX10_digest_115 : decode cX10_digest 115 = .ok (.invokestatic 279, 3) := by decide +kernel
theorem dX10_digest_118 : decode cX10_digest 118 = .ok (.lstore_n 1, 1) := by decide +kernel
theorem dX10_digest_119 : decode cX10_digest 119 = .ok (.iconst 0, 1) := by decide +kernel
theorem dX10_digest_120 : decode cX10_digest 120 = .ok (.istore_n 3, 1) := by decide +kernel
theorem dX10_digest_121 : decode cX10_digest 121 = .ok (.iload_n 3, 1) := by decide +kernel
theorem dX10_digest_122 : decode cX10_digest 122 = .ok (.aload_n 0, 1) := by decide +kernel
theorem dX10_digest_123 : decode cX10_digest 123 = .ok (.getfield 33, 3) := by decide +kernel
theorem dX10_digest_126 : decode cX10_digest 126 = .ok (.getfield 156, 3) := by decide +kernel
theorem dX10_digest_129 : decode cX10_digest 129 = .ok (.if_icmp .ge 16, 3) := by decide +kernel
theorem dX10_digest_132 : decode cX10_digest 132 = .ok (.aload_n 0, 1) := by decide +kernel
theorem dX10_digest_133 : decode cX10_digest 133 = .ok (.lload_n 1, 1) := by decide +kernel
theorem dX10_digest_134 : decode cX10_digest 134 = .ok (.iload_n 3, 1) := by decide +kernel
theorem dX10_digest_135 : decode cX10_digest 135 = .ok (.invokevirtual 283, 3) := by decide +kernel
theorem dX10_digest_138 : decode cX10_digest 138 = .ok (.lstore_n 1, 1) := by decide +kernel
theorem dX10_digest_139 : decode cX10_digest 139 = .ok (.iinc 3 1, 3) := by decide +kernel
theorem dX10_digest_142 : decode cX10_digest 142 = .ok (.goto (-21), 3) := by decide +kernel
theorem dX10_digest_145 : decode cX10_digest 145 = .ok (.lload_n 1, 1) := by decide +kernel
theorem dX10_digest_146 : decode cX10_digest 146 = .ok (.aload_n 0, 1) := by decide +kernel
theorem dX10_digest_147 : decode cX10_digest 147 = .ok (.getfield 40, 3) := by decide +kernel
theorem dX10_digest_150 : decode cX10_digest 150 = .ok (.getfield 286, 3) := by decide +kernel
theorem dX10_digest_153 : decode cX10_digest 153 = .ok (.aload_n 0, 1) := by decide +kernel
theorem dX10_digest_154 : decode cX10_digest 154 = .ok (.getfield 40, 3) := by decide +kernel
theorem dX10_digest_157 : decode cX10_digest 157 = .ok (.getfield 242, 3) := by decide +kernel
theorem dX10_digest_160 : decode cX10_digest 160 = .ok (.invokestatic 279, 3) := by decide +kernel
theorem dX10_digest_163 : decode cX10_digest 163 = .ok (.lreturn, 1) := by decide +kernel
set_option maxRecDepth 20000 in
theorem ggX10_mixCase_X10_mix : GoodIn wsX10_mixCase wsX10_mix := goodIn_r _ [9, 10] (by decide +kernel) (by decide +kernel)
set_option maxRecDepth 20000 in
theorem gX10_mixCase_X10_mix : GoodIn wsX10_mixCase (va_wsS RX10 269 yX10_mix wsX10_mix) := goodIn_app (goodIn_of _ (by decide +kernel)) ggX10_mixCase_X10_mix
set_option maxRecDepth 20000 in
theorem ggX10_mixCase_X4_open : GoodIn wsX10_mixCase wsX4_open := goodIn_r _ [15, 16, 17, 18, 19, 20, 21, 22, 14, 23, 24, 25, 26, 27, 28, 29, 30, 31, 32, 33, 34, 35, 36, 37, 38, 39, 40, 41, 42, 43, 44, 45, 46, 47, 48, 138, 139, 140, 141, 142, 143, 144, 145, 146, 132, 133, 134, 135, 136, 137, 147, 148, 149, 150, 151, 152, 153, 154, 155, 156, 157, 158, 159] (by decide +kernel) (by decide +kernel)
set_option maxRecDepth 20000 in
theorem gX10_mixCase_X4_open : GoodIn wsX10_mixCase (wsV RX10 159 RX4 yX4_open wsX4_open) := goodIn_app (goodIn_of _ (by decide +kernel)) ggX10_mixCase_X4_open
set_option maxRecDepth 20000 in
theorem ggX10_mixCase_X10_mixAll : GoodIn wsX10_mixCase wsX10_mixAll := goodIn_r _ [51, 6, 7, 8, 9, 10] (by decide +kernel) (by decide +kernel)
set_option maxRecDepth 20000 in
theorem gX10_mixCase_X10_mixAll : GoodIn wsX10_mixCase (va_wsS RX10 279 yX10_mixAll wsX10_mixAll) := goodIn_app (goodIn_of _ (by decide +kernel)) ggX10_mixCase_X10_mixAll
set_option maxRecDepth 20000 in
theorem ggX10_mixCase_X4_readBooks : GoodIn wsX10_mixCase wsX4_readBooks := goodIn_r _ [55, 56, 16, 18, 57, 58, 59, 60, 19, 61, 62, 63, 64, 65, 66, 67, 68, 69, 33, 70, 71, 72, 73, 74, 75, 76, 77, 78, 79, 80, 81, 82, 83, 84, 138, 139, 140, 141, 142, 143, 144, 145, 146, 147, 148, 149, 150, 151, 152, 153, 154, 155, 156, 157, 158, 159, 160, 161] (by decide +kernel) (by decide +kernel)
set_option maxRecDepth 20000 in
theorem gX10_mixCase_X4_readBooks : GoodIn wsX10_mixCase (wsV RX10 295 RX4 yX4_readBooks wsX4_readBooks) := goodIn_app (goodIn_of _ (by decide +kernel)) ggX10_mixCase_X4_readBooks
set_option maxRecDepth 20000 in
theorem ggX10_mixCase_X4_outcome : GoodIn wsX10_mixCase wsX4_outcome := goodIn_r _ [88, 89, 56, 19, 60, 90, 91, 92, 93, 94, 95, 96, 97, 98, 99, 100, 101, 14, 102, 58, 57, 103, 104, 105, 106, 107, 108, 109, 110, 111, 112, 113, 114, 115, 116, 117, 118, 119, 120, 138, 139, 140, 141, 142, 143, 144, 145, 146, 162, 163, 164, 165, 160, 161, 166, 167, 168, 169] (by decide +kernel) (by decide +kernel)
set_option maxRecDepth 20000 in
theorem gX10_mixCase_X4_outcome : GoodIn wsX10_mixCase (wsV RX10 185 RX4 yX4_outcome wsX4_outcome) := goodIn_app (goodIn_of _ (by decide +kernel)) ggX10_mixCase_X4_outcome
theorem dX10_mixCase_0 : decode cX10_mixCase 0 = .ok (.lload_n 1, 1) := by decide +kernel
theorem dX10_mixCase_1 : decode cX10_mixCase 1 = .ok (.aload_n 0, 1) := by decide +kernel
theorem dX10_mixCase_2 : decode cX10_mixCase 2 = .ok (.getfield 12, 3) := by decide +kernel
theorem dX10_mixCase_5 : decode cX10_mixCase 5 = .ok (.getfield 289, 3) := by decide +kernel
theorem dX10_mixCase_8 : decode cX10_mixCase 8 = .ok (.iload_n 3, 1) := by decide +kernel
theorem dX10_mixCase_9 : decode cX10_mixCase 9 = .ok (.iaload, 1) := by decide +kernel
theorem dX10_mixCase_10 : decode cX10_mixCase 10 = .ok (.invokestatic 269, 3) := by decide +kernel
theorem dX10_mixCase_13 : decode cX10_mixCase 13 = .ok (.aload_n 0, 1) := by decide +kernel
theorem dX10_mixCase_14 : decode cX10_mixCase 14 = .ok (.getfield 12, 3) := by decide +kernel
theorem dX10_mixCase_17 : decode cX10_mixCase 17 = .ok (.getfield 244, 3) := by decide +kernel
theorem dX10_mixCase_20 : decode cX10_mixCase 20 = .ok (.iload_n 3, 1) := by decide +kernel
theorem dX10_mixCase_21 : decode cX10_mixCase 21 = .ok (.iaload, 1) := by decide +kernel
theorem dX10_mixCase_22 : decode cX10_mixCase 22 = .ok (.invokestatic 269, 3) := by decide +kernel
theorem dX10_mixCase_25 : decode cX10_mixCase 25 = .ok (.lstore 4, 2) := by decide +kernel
theorem dX10_mixCase_27 : decode cX10_mixCase 27 = .ok (.aload_n 0, 1) := by decide +kernel
theorem dX10_mixCase_28 : decode cX10_mixCase 28 = .ok (.getfield 49, 3) := by decide +kernel
theorem dX10_mixCase_31 : decode cX10_mixCase 31 = .ok (.aload_n 0, 1) := by decide +kernel
theorem dX10_mixCase_32 : decode cX10_mixCase 32 = .ok (.getfield 12, 3) := by decide +kernel
theorem dX10_mixCase_35 : decode cX10_mixCase 35 = .ok (.iload_n 3, 1) := by decide +kernel
theorem dX10_mixCase_36 : decode cX10_mixCase 36 = .ok (.invokevirtual 159, 3) := by decide +kernel
theorem dX10_mixCase_39 : decode cX10_mixCase 39 = .ok (.lload 4, 2) := by decide +kernel
theorem dX10_mixCase_41 : decode cX10_mixCase 41 = .ok (.aload_n 0, 1) := by decide +kernel
theorem dX10_mixCase_42 : decode cX10_mixCase 42 = .ok (.getfield 49, 3) := by decide +kernel
theorem dX10_mixCase_45 : decode cX10_mixCase 45 = .ok (.getfield 292, 3) := by decide +kernel
theorem dX10_mixCase_48 : decode cX10_mixCase 48 = .ok (.bipush 6, 2) := by decide +kernel
theorem dX10_mixCase_50 : decode cX10_mixCase 50 = .ok (.invokestatic 279, 3) := by decide +kernel
theorem dX10_mixCase_53 : decode cX10_mixCase 53 = .ok (.lstore 4, 2) := by decide +kernel
theorem dX10_mixCase_55 : decode cX10_mixCase 55 = .ok (.iconst 0, 1) := by decide +kernel
theorem dX10_mixCase_56 : decode cX10_mixCase 56 = .ok (.istore 6, 2) := by decide +kernel
theorem dX10_mixCase_58 : decode cX10_mixCase 58 = .ok (.iload 6, 2) := by decide +kernel
theorem dX10_mixCase_60 : decode cX10_mixCase 60 = .ok (.iconst 3, 1) := by decide +kernel
theorem dX10_mixCase_61 : decode cX10_mixCase 61 = .ok (.if_icmp .ge 49, 3) := by decide +kernel
theorem dX10_mixCase_64 : decode cX10_mixCase 64 = .ok (.aload_n 0, 1) := by decide +kernel
theorem dX10_mixCase_65 : decode cX10_mixCase 65 = .ok (.getfield 49, 3) := by decide +kernel
theorem dX10_mixCase_68 : decode cX10_mixCase 68 = .ok (.iload 6, 2) := by decide +kernel
theorem dX10_mixCase_70 : decode cX10_mixCase 70 = .ok (.invokevirtual 295, 3) := by decide +kernel
theorem dX10_mixCase_73 : decode cX10_mixCase 73 = .ok (.iconst 0, 1) := by decide +kernel
theorem dX10_mixCase_74 : decode cX10_mixCase 74 = .ok (.istore 7, 2) := by decide +kernel
theorem dX10_mixCase_76 : decode cX10_mixCase 76 = .ok (.iload 7, 2) := by decide +kernel
theorem dX10_mixCase_78 : decode cX10_mixCase 78 = .ok (.iconst 4, 1) := by decide +kernel
theorem dX10_mixCase_79 : decode cX10_mixCase 79 = .ok (.if_icmp .ge 25, 3) := by decide +kernel
theorem dX10_mixCase_82 : decode cX10_mixCase 82 = .ok (.lload 4, 2) := by decide +kernel
theorem dX10_mixCase_84 : decode cX10_mixCase 84 = .ok (.aload_n 0, 1) := by decide +kernel
theorem dX10_mixCase_85 : decode cX10_mixCase 85 = .ok (.getfield 49, 3) := by decide +kernel
theorem dX10_mixCase_88 : decode cX10_mixCase 88 = .ok (.iload 7, 2) := by decide +kernel
theorem dX10_mixCase_90 : decode cX10_mixCase 90 = .ok (.invokevirtual 185, 3) := by decide +kernel
theorem dX10_mixCase_93 : decode cX10_mixCase 93 = .ok (.invokestatic 269, 3) := by decide +kernel
theorem dX10_mixCase_96 : decode cX10_mixCase 96 = .ok (.lstore 4, 2) := by decide +kernel
theorem dX10_mixCase_98 : decode cX10_mixCase 98 = .ok (.iinc 7 1, 3) := by decide +kernel
theorem dX10_mixCase_101 : decode cX10_mixCase 101 = .ok (.goto (-25), 3) := by decide +kernel
theorem dX10_mixCase_104 : decode cX10_mixCase 104 = .ok (.iinc 6 1, 3) := by decide +kernel
theorem dX10_mixCase_107 : decode cX10_mixCase 107 = .ok (.goto (-49), 3) := by decide +kernel
theorem dX10_mixCase_110 : decode cX10_mixCase 110 = .ok (.lload 4, 2) := by decide +kernel
theorem dX10_mixCase_112 : decode cX10_mixCase 112 = .ok (.lreturn, 1) := by decide +kernel
set_option maxRecDepth 20000 in
theorem ggX10_mixRule_X10_mix : GoodIn wsX10_mixRule wsX10_mix := goodIn_r _ [14, 15] (by decide +kernel) (by decide +kernel)
set_option maxRecDepth 20000 in
theorem gX10_mixRule_X10_mix : GoodIn wsX10_mixRule (va_wsS RX10 269 yX10_mix wsX10_mix) := goodIn_app (goodIn_of _ (by decide +kernel)) ggX10_mixRule_X10_mix
theorem dX10_mixRule_0 : decode cX10_mixRule 0 = .ok (.lload_n 1, 1) := by decide +kernel
theorem dX10_mixRule_1 : decode cX10_mixRule 1 = .ok (.aload_n 0, 1) := by decide +kernel
theorem dX10_mixRule_2 : decode cX10_mixRule 2 = .ok (.getfield 19, 3) := by decide +kernel
theorem dX10_mixRule_5 : decode cX10_mixRule 5 = .ok (.getfield 298, 3) := by decide +kernel
theorem dX10_mixRule_8 : decode cX10_mixRule 8 = .ok (.iload_n 3, 1) := by decide +kernel
theorem dX10_mixRule_9 : decode cX10_mixRule 9 = .ok (.iaload, 1) := by decide +kernel
theorem dX10_mixRule_10 : decode cX10_mixRule 10 = .ok (.invokestatic 269, 3) := by decide +kernel
theorem dX10_mixRule_13 : decode cX10_mixRule 13 = .ok (.aload_n 0, 1) := by decide +kernel
theorem dX10_mixRule_14 : decode cX10_mixRule 14 = .ok (.getfield 19, 3) := by decide +kernel
theorem dX10_mixRule_17 : decode cX10_mixRule 17 = .ok (.getfield 301, 3) := by decide +kernel
theorem dX10_mixRule_20 : decode cX10_mixRule 20 = .ok (.iload_n 3, 1) := by decide +kernel
theorem dX10_mixRule_21 : decode cX10_mixRule 21 = .ok (.iaload, 1) := by decide +kernel
theorem dX10_mixRule_22 : decode cX10_mixRule 22 = .ok (.invokestatic 269, 3) := by decide +kernel
theorem dX10_mixRule_25 : decode cX10_mixRule 25 = .ok (.lstore 4, 2) := by decide +kernel
theorem dX10_mixRule_27 : decode cX10_mixRule 27 = .ok (.lload 4, 2) := by decide +kernel
theorem dX10_mixRule_29 : decode cX10_mixRule 29 = .ok (.aload_n 0, 1) := by decide +kernel
theorem dX10_mixRule_30 : decode cX10_mixRule 30 = .ok (.getfield 19, 3) := by decide +kernel
theorem dX10_mixRule_33 : decode cX10_mixRule 33 = .ok (.getfield 302, 3) := by decide +kernel
theorem dX10_mixRule_36 : decode cX10_mixRule 36 = .ok (.iload_n 3, 1) := by decide +kernel
theorem dX10_mixRule_37 : decode cX10_mixRule 37 = .ok (.iaload, 1) := by decide +kernel
theorem dX10_mixRule_38 : decode cX10_mixRule 38 = .ok (.invokestatic 269, 3) := by decide +kernel
theorem dX10_mixRule_41 : decode cX10_mixRule 41 = .ok (.aload_n 0, 1) := by decide +kernel
theorem dX10_mixRule_42 : decode cX10_mixRule 42 = .ok (.getfield 19, 3) := by decide +kernel
theorem dX10_mixRule_45 : decode cX10_mixRule 45 = .ok (.getfield 303, 3) := by decide +kernel
theorem dX10_mixRule_48 : decode cX10_mixRule 48 = .ok (.iload_n 3, 1) := by decide +kernel
theorem dX10_mixRule_49 : decode cX10_mixRule 49 = .ok (.iaload, 1) := by decide +kernel
theorem dX10_mixRule_50 : decode cX10_mixRule 50 = .ok (.invokestatic 269, 3) := by decide +kernel
theorem dX10_mixRule_53 : decode cX10_mixRule 53 = .ok (.lstore 4, 2) := by decide +kernel
theorem dX10_mixRule_55 : decode cX10_mixRule 55 = .ok (.lload 4, 2) := by decide +kernel
theorem dX10_mixRule_57 : decode cX10_mixRule 57 = .ok (.aload_n 0, 1) := by decide +kernel
theorem dX10_mixRule_58 : decode cX10_mixRule 58 = .ok (.getfield 19, 3) := by decide +kernel
theorem dX10_mixRule_61 : decode cX10_mixRule 61 = .ok (.getfield 306, 3) := by decide +kernel
theorem dX10_mixRule_64 : decode cX10_mixRule 64 = .ok (.iload_n 3, 1) := by decide +kernel
theorem dX10_mixRule_65 : decode cX10_mixRule 65 = .ok (.iaload, 1) := by decide +kernel
theorem dX10_mixRule_66 : decode cX10_mixRule 66 = .ok (.invokestatic 269, 3) := by decide +kernel
theorem dX10_mixRule_69 : decode cX10_mixRule 69 = .ok (.aload_n 0, 1) := by decide +kernel
theorem dX10_mixRule_70 : decode cX10_mixRule 70 = .ok (.getfield 19, 3) := by decide +kernel
theorem dX10_mixRule_73 : decode cX10_mixRule 73 = .ok (.getfield 144, 3) := by decide +kernel
theorem dX10_mixRule_76 : decode cX10_mixRule 76 = .ok (.iload_n 3, 1) := by decide +kernel
theorem dX10_mixRule_77 : decode cX10_mixRule 77 = .ok (.iaload, 1) := by decide +kernel
theorem dX10_mixRule_78 : decode cX10_mixRule 78 = .ok (.invokestatic 269, 3) := by decide +kernel
theorem dX10_mixRule_81 : decode cX10_mixRule 81 = .ok (.lstore 4, 2) := by decide +kernel
theorem dX10_mixRule_83 : decode cX10_mixRule 83 = .ok (.lload 4, 2) := by decide +kernel
theorem dX10_mixRule_85 : decode cX10_mixRule 85 = .ok (.aload_n 0, 1) := by decide +kernel
theorem dX10_mixRule_86 : decode cX10_mixRule 86 = .ok (.getfield 19, 3) := by decide +kernel
theorem dX10_mixRule_89 : decode cX10_mixRule 89 = .ok (.getfield 136, 3) := by decide +kernel
theorem dX10_mixRule_92 : decode cX10_mixRule 92 = .ok (.iload_n 3, 1) := by decide +kernel
theorem dX10_mixRule_93 : decode cX10_mixRule 93 = .ok (.iaload, 1) := by decide +kernel
theorem dX10_mixRule_94 : decode cX10_mixRule 94 = .ok (.invokestatic 269, 3) := by decide +kernel
theorem dX10_mixRule_97 : decode cX10_mixRule 97 = .ok (.lstore 4, 2) := by decide +kernel
theorem dX10_mixRule_99 : decode cX10_mixRule 99 = .ok (.iconst 0, 1) := by decide +kernel
theorem dX10_mixRule_100 : decode cX10_mixRule 100 = .ok (.istore 6, 2) := by decide +kernel
theorem dX10_mixRule_102 : decode cX10_mixRule 102 = .ok (.iload 6, 2) := by decide +kernel
theorem dX10_mixRule_104 : decode cX10_mixRule 104 = .ok (.aload_n 0, 1) := by decide +kernel
theorem dX10_mixRule_105 : decode cX10_mixRule 105 = .ok (.getfield 19, 3) := by decide +kernel
theorem dX10_mixRule_108 : decode cX10_mixRule 108 = .ok (.getfield 136, 3) := by decide +kernel
theorem dX10_mixRule_111 : decode cX10_mixRule 111 = .ok (.iload_n 3, 1) := by decide +kernel
theorem dX10_mixRule_112 : decode cX10_mixRule 112 = .ok (.iaload, 1) := by decide +kernel
theorem dX10_mixRule_113 : decode cX10_mixRule 113 = .ok (.if_icmp .ge 47, 3) := by decide +kernel
theorem dX10_mixRule_116 : decode cX10_mixRule 116 = .ok (.iload_n 3, 1) := by decide +kernel
theorem dX10_mixRule_117 : decode cX10_mixRule 117 = .ok (.iconst 2, 1) := by decide +kernel
theorem dX10_mixRule_118 : decode cX10_mixRule 118 = .ok (.imul, 1) := by decide +kernel
theorem dX10_mixRule_119 : decode cX10_mixRule 119 = .ok (.iload 6, 2) := by decide +kernel
theorem dX10_mixRule_121 : decode cX10_mixRule 121 = .ok (.iadd, 1) := by decide +kernel
theorem dX10_mixRule_122 : decode cX10_mixRule 122 = .ok (.istore 7, 2) := by decide +kernel
theorem dX10_mixRule_124 : decode cX10_mixRule 124 = .ok (.lload 4, 2) := by decide +kernel
theorem dX10_mixRule_126 : decode cX10_mixRule 126 = .ok (.aload_n 0, 1) := by decide +kernel
theorem dX10_mixRule_127 : decode cX10_mixRule 127 = .ok (.getfield 19, 3) := by decide +kernel
theorem dX10_mixRule_130 : decode cX10_mixRule 130 = .ok (.getfield 309, 3) := by decide +kernel
theorem dX10_mixRule_133 : decode cX10_mixRule 133 = .ok (.iload 7, 2) := by decide +kernel
theorem dX10_mixRule_135 : decode cX10_mixRule 135 = .ok (.iaload, 1) := by decide +kernel
theorem dX10_mixRule_136 : decode cX10_mixRule 136 = .ok (.invokestatic 269, 3) := by decide +kernel
theorem dX10_mixRule_139 : decode cX10_mixRule 139 = .ok (.aload_n 0, 1) := by decide +kernel
theorem dX10_mixRule_140 : decode cX10_mixRule 140 = .ok (.getfield 19, 3) := by decide +kernel
theorem dX10_mixRule_143 : decode cX10_mixRule 143 = .ok (.getfield 312, 3) := by decide +kernel
theorem dX10_mixRule_146 : decode cX10_mixRule 146 = .ok (.iload 7, 2) := by decide +kernel
theorem dX10_mixRule_148 : decode cX10_mixRule 148 = .ok (.iaload, 1) := by decide +kernel
theorem dX10_mixRule_149 : decode cX10_mixRule 149 = .ok (.invokestatic 269, 3) := by decide +kernel
theorem dX10_mixRule_152 : decode cX10_mixRule 152 = .ok (.lstore 4, 2) := by decide +kernel
theorem dX10_mixRule_154 : decode cX10_mixRule 154 = .ok (.iinc 6 1, 3) := by decide +kernel
theorem dX10_mixRule_157 : decode cX10_mixRule 157 = .ok (.goto (-55), 3) := by decide +kernel
theorem dX10_mixRule_160 : decode cX10_mixRule 160 = .ok (.lload 4, 2) := by decide +kernel
theorem dX10_mixRule_162 : decode cX10_mixRule 162 = .ok (.lreturn, 1) := by decide +kernel
set_option maxRecDepth 20000 in
theorem ggX10_mixTreaty_X10_mix : GoodIn wsX10_mixTreaty wsX10_mix := goodIn_r _ [8, 9] (by decide +kernel) (by decide +kernel)
set_option maxRecDepth 20000 in
theorem gX10_mixTreaty_X10_mix : GoodIn wsX10_mixTreaty (va_wsS RX10 269 yX10_mix wsX10_mix) := goodIn_app (goodIn_of _ (by decide +kernel)) ggX10_mixTreaty_X10_mix
theorem dX10_mixTreaty_0 : decode cX10_mixTreaty 0 = .ok (.lload_n 1, 1) := by decide +kernel
theorem dX10_mixTreaty_1 : decode cX10_mixTreaty 1 = .ok (.aload_n 0, 1) := by decide +kernel
theorem dX10_mixTreaty_2 : decode cX10_mixTreaty 2 = .ok (.getfield 33, 3) := by decide +kernel
theorem dX10_mixTreaty_5 : decode cX10_mixTreaty 5 = .ok (.getfield 315, 3) := by decide +kernel
theorem dX10_mixTreaty_8 : decode cX10_mixTreaty 8 = .ok (.iload_n 3, 1) := by decide +kernel
theorem dX10_mixTreaty_9 : decode cX10_mixTreaty 9 = .ok (.iaload, 1) := by decide +kernel
theorem dX10_mixTreaty_10 : decode cX10_mixTreaty 10 = .ok (.invokestatic 269, 3) := by decide +kernel
theorem dX10_mixTreaty_13 : decode cX10_mixTreaty 13 = .ok (.aload_n 0, 1) := by decide +kernel
theorem dX10_mixTreaty_14 : decode cX10_mixTreaty 14 = .ok (.getfield 33, 3) := by decide +kernel
theorem dX10_mixTreaty_17 : decode cX10_mixTreaty 17 = .ok (.getfield 316, 3) := by decide +kernel
theorem dX10_mixTreaty_20 : decode cX10_mixTreaty 20 = .ok (.iload_n 3, 1) := by decide +kernel
theorem dX10_mixTreaty_21 : decode cX10_mixTreaty 21 = .ok (.iaload, 1) := by decide +kernel
theorem dX10_mixTreaty_22 : decode cX10_mixTreaty 22 = .ok (.invokestatic 269, 3) := by decide +kernel
theorem dX10_mixTreaty_25 : decode cX10_mixTreaty 25 = .ok (.aload_n 0, 1) := by decide +kernel
theorem dX10_mixTreaty_26 : decode cX10_mixTreaty 26 = .ok (.getfield 33, 3) := by decide +kernel
theorem dX10_mixTreaty_29 : decode cX10_mixTreaty 29 = .ok (.getfield 317, 3) := by decide +kernel
theorem dX10_mixTreaty_32 : decode cX10_mixTreaty 32 = .ok (.iload_n 3, 1) := by decide +kernel
theorem dX10_mixTreaty_33 : decode cX10_mixTreaty 33 = .ok (.iaload, 1) := by decide +kernel
theorem dX10_mixTreaty_34 : decode cX10_mixTreaty 34 = .ok (.invokestatic 269, 3) := by decide +kernel
theorem dX10_mixTreaty_37 : decode cX10_mixTreaty 37 = .ok (.lreturn, 1) := by decide +kernel
set_option maxRecDepth 20000 in
theorem ggX10_mixAll_X10_mix : GoodIn wsX10_mixAll wsX10_mix := goodIn_r _ [4, 5] (by decide +kernel) (by decide +kernel)
set_option maxRecDepth 20000 in
theorem gX10_mixAll_X10_mix : GoodIn wsX10_mixAll (va_wsS RX10 269 yX10_mix wsX10_mix) := goodIn_app (goodIn_of _ (by decide +kernel)) ggX10_mixAll_X10_mix
theorem dX10_mixAll_0 : decode cX10_mixAll 0 = .ok (.lload_n 0, 1) := by decide +kernel
theorem dX10_mixAll_1 : decode cX10_mixAll 1 = .ok (.lstore 4, 2) := by decide +kernel
theorem dX10_mixAll_3 : decode cX10_mixAll 3 = .ok (.iconst 0, 1) := by decide +kernel
theorem dX10_mixAll_4 : decode cX10_mixAll 4 = .ok (.istore 6, 2) := by decide +kernel
theorem dX10_mixAll_6 : decode cX10_mixAll 6 = .ok (.iload 6, 2) := by decide +kernel
theorem dX10_mixAll_8 : decode cX10_mixAll 8 = .ok (.iload_n 3, 1) := by decide +kernel
theorem dX10_mixAll_9 : decode cX10_mixAll 9 = .ok (.if_icmp .ge 20, 3) := by decide +kernel
theorem dX10_mixAll_12 : decode cX10_mixAll 12 = .ok (.lload 4, 2) := by decide +kernel
theorem dX10_mixAll_14 : decode cX10_mixAll 14 = .ok (.aload_n 2, 1) := by decide +kernel
theorem dX10_mixAll_15 : decode cX10_mixAll 15 = .ok (.iload 6, 2) := by decide +kernel
theorem dX10_mixAll_17 : decode cX10_mixAll 17 = .ok (.iaload, 1) := by decide +kernel
theorem dX10_mixAll_18 : decode cX10_mixAll 18 = .ok (.invokestatic 269, 3) := by decide +kernel
theorem dX10_mixAll_21 : decode cX10_mixAll 21 = .ok (.lstore 4, 2) := by decide +kernel
theorem dX10_mixAll_23 : decode cX10_mixAll 23 = .ok (.iinc 6 1, 3) := by decide +kernel
theorem dX10_mixAll_26 : decode cX10_mixAll 26 = .ok (.goto (-20), 3) := by decide +kernel
theorem dX10_mixAll_29 : decode cX10_mixAll 29 = .ok (.lload 4, 2) := by decide +kernel
theorem dX10_mixAll_31 : decode cX10_mixAll 31 = .ok (.lreturn, 1) := by decide +kernel
theorem dX10_mix_0 : decode cX10_mix 0 = .ok (.ldc2_w 318, 3) := by decide +kernel
theorem dX10_mix_3 : decode cX10_mix 3 = .ok (.lload_n 0, 1) := by decide +kernel
theorem dX10_mix_4 : decode cX10_mix 4 = .ok (.lmul, 1) := by decide +kernel
theorem dX10_mix_5 : decode cX10_mix 5 = .ok (.iload_n 2, 1) := by decide +kernel
theorem dX10_mix_6 : decode cX10_mix 6 = .ok (.i2l, 1) := by decide +kernel
theorem dX10_mix_7 : decode cX10_mix 7 = .ok (.ladd, 1) := by decide +kernel
theorem dX10_mix_8 : decode cX10_mix 8 = .ok (.lreturn, 1) := by decide +kernel
set_option maxRecDepth 20000 in
theorem ggX10_hear_X4_open : GoodIn wsX10_hear wsX4_open := goodIn_r _ [7, 8, 9, 10, 11, 12, 13, 14, 6, 15, 16, 17, 18, 19, 20, 21, 22, 23, 24, 25, 26, 27, 28, 29, 30, 31, 32, 33, 34, 35, 36, 37, 38, 39, 40, 85, 86, 87, 88, 89, 90, 91, 92, 93, 94, 95, 96, 97, 98, 99, 100, 101, 102, 103, 104, 105, 106, 107, 108, 109, 110, 111, 112] (by decide +kernel) (by decide +kernel)
set_option maxRecDepth 20000 in
theorem gX10_hear_X4_open : GoodIn wsX10_hear (wsV RX10 159 RX4 yX4_open wsX4_open) := goodIn_app (goodIn_of _ (by decide +kernel)) ggX10_hear_X4_open
set_option maxRecDepth 20000 in
theorem ggX10_hear_X4_readBooks : GoodIn wsX10_hear wsX4_readBooks := goodIn_r _ [44, 45, 8, 10, 46, 47, 48, 49, 11, 50, 51, 52, 53, 54, 55, 56, 57, 58, 25, 59, 60, 61, 62, 63, 64, 65, 66, 67, 68, 69, 70, 71, 72, 73, 85, 86, 87, 88, 89, 90, 91, 92, 93, 100, 101, 102, 103, 104, 105, 106, 107, 108, 109, 110, 111, 112, 113, 114] (by decide +kernel) (by decide +kernel)
set_option maxRecDepth 20000 in
theorem gX10_hear_X4_readBooks : GoodIn wsX10_hear (wsV RX10 295 RX4 yX4_readBooks wsX4_readBooks) := goodIn_app (goodIn_of _ (by decide +kernel)) ggX10_hear_X4_readBooks
theorem dX10_hear_0 : decode cX10_hear 0 = .ok (.aload_n 0, 1) := by decide +kernel
theorem dX10_hear_1 : decode cX10_hear 1 = .ok (.getfield 49, 3) := by decide +kernel
theorem dX10_hear_4 : decode cX10_hear 4 = .ok (.aload_n 0, 1) := by decide +kernel
theorem dX10_hear_5 : decode cX10_hear 5 = .ok (.getfield 12, 3) := by decide +kernel
theorem dX10_hear_8 : decode cX10_hear 8 = .ok (.iload_n 1, 1) := by decide +kernel
theorem dX10_hear_9 : decode cX10_hear 9 = .ok (.invokevirtual 159, 3) := by decide +kernel
theorem dX10_hear_12 : decode cX10_hear 12 = .ok (.aload_n 0, 1) := by decide +kernel
theorem dX10_hear_13 : decode cX10_hear 13 = .ok (.getfield 49, 3) := by decide +kernel
theorem dX10_hear_16 : decode cX10_hear 16 = .ok (.iload_n 2, 1) := by decide +kernel
theorem dX10_hear_17 : decode cX10_hear 17 = .ok (.invokevirtual 295, 3) := by decide +kernel
theorem dX10_hear_20 : decode cX10_hear 20 = .ok (.return_, 1) := by decide +kernel
set_option maxRecDepth 20000 in
theorem ggX10_isCase_X10_isBelow : GoodIn wsX10_isCase wsX10_isBelow := goodIn_r _ [6] (by decide +kernel) (by decide +kernel)
set_option maxRecDepth 20000 in
theorem gX10_isCase_X10_isBelow : GoodIn wsX10_isCase (va_wsS RX10 125 yX10_isBelow wsX10_isBelow) := goodIn_app (goodIn_of _ (by decide +kernel)) ggX10_isCase_X10_isBelow
theorem dX10_isCase_0 : decode cX10_isCase 0 = .ok (.iload_n 1, 1) := by decide +kernel
theorem dX10_isCase_1 : decode cX10_isCase 1 = .ok (.aload_n 0, 1) := by decide +kernel
theorem dX10_isCase_2 : decode cX10_isCase 2 = .ok (.getfield 12, 3) := by decide +kernel
theorem dX10_isCase_5 : decode cX10_isCase 5 = .ok (.getfield 94, 3) := by decide +kernel
theorem dX10_isCase_8 : decode cX10_isCase 8 = .ok (.invokestatic 125, 3) := by decide +kernel
theorem dX10_isCase_11 : decode cX10_isCase 11 = .ok (.ireturn, 1) := by decide +kernel
set_option maxRecDepth 20000 in
theorem ggX10_isRule_X10_isBelow : GoodIn wsX10_isRule wsX10_isBelow := goodIn_r _ [6] (by decide +kernel) (by decide +kernel)
set_option maxRecDepth 20000 in
theorem gX10_isRule_X10_isBelow : GoodIn wsX10_isRule (va_wsS RX10 125 yX10_isBelow wsX10_isBelow) := goodIn_app (goodIn_of _ (by decide +kernel)) ggX10_isRule_X10_isBelow
theorem dX10_isRule_0 : decode cX10_isRule 0 = .ok (.iload_n 1, 1) := by decide +kernel
theorem dX10_isRule_1 : decode cX10_isRule 1 = .ok (.aload_n 0, 1) := by decide +kernel
theorem dX10_isRule_2 : decode cX10_isRule 2 = .ok (.getfield 19, 3) := by decide +kernel
theorem dX10_isRule_5 : decode cX10_isRule 5 = .ok (.getfield 129, 3) := by decide +kernel
theorem dX10_isRule_8 : decode cX10_isRule 8 = .ok (.invokestatic 125, 3) := by decide +kernel
theorem dX10_isRule_11 : decode cX10_isRule 11 = .ok (.ireturn, 1) := by decide +kernel
set_option maxRecDepth 20000 in
theorem ggX10_isQuestion_X10_isLand : GoodIn wsX10_isQuestion wsX10_isLand := goodIn_r _ [4, 5, 6, 3, 7] (by decide +kernel) (by decide +kernel)
set_option maxRecDepth 20000 in
theorem gX10_isQuestion_X10_isLand : GoodIn wsX10_isQuestion (va_wsS RX10 108 yX10_isLand wsX10_isLand) := goodIn_app (goodIn_of _ (by decide +kernel)) ggX10_isQuestion_X10_isLand
set_option maxRecDepth 20000 in
theorem ggX10_isQuestion_X10_isCase : GoodIn wsX10_isQuestion wsX10_isCase := goodIn_r _ [11, 12, 13, 5, 6, 3, 7, 17, 18, 19, 20, 21, 22, 23, 24, 25, 26, 27, 28, 29, 30, 31, 32, 33] (by decide +kernel) (by decide +kernel)
set_option maxRecDepth 20000 in
theorem gX10_isQuestion_X10_isCase : GoodIn wsX10_isQuestion (wsV RX10 102 RX10 yX10_isCase wsX10_isCase) := goodIn_app (goodIn_of _ (by decide +kernel)) ggX10_isQuestion_X10_isCase
set_option maxRecDepth 20000 in
theorem ggX10_isQuestion_X10_isKind : GoodIn wsX10_isQuestion wsX10_isKind := goodIn_r _ [16, 5, 6, 3, 7] (by decide +kernel) (by decide +kernel)
set_option maxRecDepth 20000 in
theorem gX10_isQuestion_X10_isKind : GoodIn wsX10_isQuestion (va_wsS RX10 122 yX10_isKind wsX10_isKind) := goodIn_app (goodIn_of _ (by decide +kernel)) ggX10_isQuestion_X10_isKind
theorem dX10_isQuestion_0 : decode cX10_isQuestion 0 = .ok (.iload_n 1, 1) := by decide +kernel
theorem dX10_isQuestion_1 : decode cX10_isQuestion 1 = .ok (.invokestatic 108, 3) := by decide +kernel
theorem dX10_isQuestion_4 : decode cX10_isQuestion 4 = .ok (.ifCond .eq 22, 3) := by decide +kernel
theorem dX10_isQuestion_7 : decode cX10_isQuestion 7 = .ok (.aload_n 0, 1) := by decide +kernel
theorem dX10_isQuestion_8 : decode cX10_isQuestion 8 = .ok (.iload_n 2, 1) := by decide +kernel
theorem dX10_isQuestion_9 : decode cX10_isQuestion 9 = .ok (.invokevirtual 102, 3) := by decide +kernel
theorem dX10_isQuestion_12 : decode cX10_isQuestion 12 = .ok (.ifCond .eq 14, 3) := by decide +kernel
theorem dX10_isQuestion_15 : decode cX10_isQuestion 15 = .ok (.iload_n 3, 1) := by decide +kernel
theorem dX10_isQuestion_16 : decode cX10_isQuestion 16 = .ok (.invokestatic 122, 3) := by decide +kernel
theorem dX10_isQuestion_19 : decode cX10_isQuestion 19 = .ok (.ifCond .eq 7, 3) := by decide +kernel
theorem dX10_isQuestion_22 : decode cX10_isQuestion 22 = .ok (.iconst 1, 1) := by decide +kernel
theorem dX10_isQuestion_23 : decode cX10_isQuestion 23 = .ok (.goto 4, 3) := by decide +kernel
theorem dX10_isQuestion_26 : decode cX10_isQuestion 26 = .ok (.iconst 0, 1) := by decide +kernel
theorem dX10_isQuestion_27 : decode cX10_isQuestion 27 = .ok (.ireturn, 1) := by decide +kernel
set_option maxRecDepth 20000 in
theorem ggX10_isTable_X10_isLand : GoodIn wsX10_isTable wsX10_isLand := goodIn_r _ [4, 5, 6, 3, 7] (by decide +kernel) (by decide +kernel)
set_option maxRecDepth 20000 in
theorem gX10_isTable_X10_isLand : GoodIn wsX10_isTable (va_wsS RX10 108 yX10_isLand wsX10_isLand) := goodIn_app (goodIn_of _ (by decide +kernel)) ggX10_isTable_X10_isLand
set_option maxRecDepth 20000 in
theorem ggX10_isTable_X10_isKind : GoodIn wsX10_isTable wsX10_isKind := goodIn_r _ [10, 5, 6, 3, 7] (by decide +kernel) (by decide +kernel)
set_option maxRecDepth 20000 in
theorem gX10_isTable_X10_isKind : GoodIn wsX10_isTable (va_wsS RX10 122 yX10_isKind wsX10_isKind) := goodIn_app (goodIn_of _ (by decide +kernel)) ggX10_isTable_X10_isKind
set_option maxRecDepth 20000 in
theorem ggX10_isTable_X10_isDay : GoodIn wsX10_isTable wsX10_isDay := goodIn_r _ [13, 5, 6, 3, 7] (by decide +kernel) (by decide +kernel)
set_option maxRecDepth 20000 in
theorem gX10_isTable_X10_isDay : GoodIn wsX10_isTable (va_wsS RX10 90 yX10_isDay wsX10_isDay) := goodIn_app (goodIn_of _ (by decide +kernel)) ggX10_isTable_X10_isDay
theorem dX10_isTable_0 : decode cX10_isTable 0 = .ok (.iload_n 0, 1) := by decide +kernel
theorem dX10_isTable_1 : decode cX10_isTable 1 = .ok (.invokestatic 108, 3) := by decide +kernel
theorem dX10_isTable_4 : decode cX10_isTable 4 = .ok (.ifCond .eq 21, 3) := by decide +kernel
theorem dX10_isTable_7 : decode cX10_isTable 7 = .ok (.iload_n 1, 1) := by decide +kernel
theorem dX10_isTable_8 : decode cX10_isTable 8 = .ok (.invokestatic 122, 3) := by decide +kernel
theorem dX10_isTable_11 : decode cX10_isTable 11 = .ok (.ifCond .eq 14, 3) := by decide +kernel
theorem dX10_isTable_14 : decode cX10_isTable 14 = .ok (.iload_n 2, 1) := by decide +kernel
theorem dX10_isTable_15 : decode cX10_isTable 15 = .ok (.invokestatic 90, 3) := by decide +kernel
theorem dX10_isTable_18 : decode cX10_isTable 18 = .ok (.ifCond .eq 7, 3) := by decide +kernel
theorem dX10_isTable_21 : decode cX10_isTable 21 = .ok (.iconst 1, 1) := by decide +kernel
theorem dX10_isTable_22 : decode cX10_isTable 22 = .ok (.goto 4, 3) := by decide +kernel
theorem dX10_isTable_25 : decode cX10_isTable 25 = .ok (.iconst 0, 1) := by decide +kernel
theorem dX10_isTable_26 : decode cX10_isTable 26 = .ok (.ireturn, 1) := by decide +kernel
set_option maxRecDepth 20000 in
theorem ggX10_isOther_X10_isLand : GoodIn wsX10_isOther wsX10_isLand := goodIn_r _ [4, 5, 6, 3, 7] (by decide +kernel) (by decide +kernel)
set_option maxRecDepth 20000 in
theorem gX10_isOther_X10_isLand : GoodIn wsX10_isOther (va_wsS RX10 108 yX10_isLand wsX10_isLand) := goodIn_app (goodIn_of _ (by decide +kernel)) ggX10_isOther_X10_isLand
theorem dX10_isOther_0 : decode cX10_isOther 0 = .ok (.iload_n 1, 1) := by decide +kernel
theorem dX10_isOther_1 : decode cX10_isOther 1 = .ok (.invokestatic 108, 3) := by decide +kernel
theorem dX10_isOther_4 : decode cX10_isOther 4 = .ok (.ifCond .eq 12, 3) := by decide +kernel
theorem dX10_isOther_7 : decode cX10_isOther 7 = .ok (.iload_n 0, 1) := by decide +kernel
theorem dX10_isOther_8 : decode cX10_isOther 8 = .ok (.iload_n 1, 1) := by decide +kernel
theorem dX10_isOther_9 : decode cX10_isOther 9 = .ok (.if_icmp .eq 7, 3) := by decide +kernel
theorem dX10_isOther_12 : decode cX10_isOther 12 = .ok (.iconst 1, 1) := by decide +kernel
theorem dX10_isOther_13 : decode cX10_isOther 13 = .ok (.goto 4, 3) := by decide +kernel
theorem dX10_isOther_16 : decode cX10_isOther 16 = .ok (.iconst 0, 1) := by decide +kernel
theorem dX10_isOther_17 : decode cX10_isOther 17 = .ok (.ireturn, 1) := by decide +kernel
set_option maxRecDepth 20000 in
theorem ggX10_isLand_X10_isBelow : GoodIn wsX10_isLand wsX10_isBelow := goodIn_r _ [4] (by decide +kernel) (by decide +kernel)
set_option maxRecDepth 20000 in
theorem gX10_isLand_X10_isBelow : GoodIn wsX10_isLand (va_wsS RX10 125 yX10_isBelow wsX10_isBelow) := goodIn_app (goodIn_of _ (by decide +kernel)) ggX10_isLand_X10_isBelow
theorem dX10_isLand_0 : decode cX10_isLand 0 = .ok (.iload_n 0, 1) := by decide +kernel
theorem dX10_isLand_1 : decode cX10_isLand 1 = .ok (.iconst 4, 1) := by decide +kernel
theorem dX10_isLand_2 : decode cX10_isLand 2 = .ok (.invokestatic 125, 3) := by decide +kernel
theorem dX10_isLand_5 : decode cX10_isLand 5 = .ok (.ireturn, 1) := by decide +kernel
set_option maxRecDepth 20000 in
theorem ggX10_isTie_X10_isBelow : GoodIn wsX10_isTie wsX10_isBelow := goodIn_r _ [4] (by decide +kernel) (by decide +kernel)
set_option maxRecDepth 20000 in
theorem gX10_isTie_X10_isBelow : GoodIn wsX10_isTie (va_wsS RX10 125 yX10_isBelow wsX10_isBelow) := goodIn_app (goodIn_of _ (by decide +kernel)) ggX10_isTie_X10_isBelow
theorem dX10_isTie_0 : decode cX10_isTie 0 = .ok (.iload_n 0, 1) := by decide +kernel
theorem dX10_isTie_1 : decode cX10_isTie 1 = .ok (.bipush 6, 2) := by decide +kernel
theorem dX10_isTie_3 : decode cX10_isTie 3 = .ok (.invokestatic 125, 3) := by decide +kernel
theorem dX10_isTie_6 : decode cX10_isTie 6 = .ok (.ireturn, 1) := by decide +kernel
set_option maxRecDepth 20000 in
theorem ggX10_isKind_X10_isBelow : GoodIn wsX10_isKind wsX10_isBelow := goodIn_r _ [4] (by decide +kernel) (by decide +kernel)
set_option maxRecDepth 20000 in
theorem gX10_isKind_X10_isBelow : GoodIn wsX10_isKind (va_wsS RX10 125 yX10_isBelow wsX10_isBelow) := goodIn_app (goodIn_of _ (by decide +kernel)) ggX10_isKind_X10_isBelow
theorem dX10_isKind_0 : decode cX10_isKind 0 = .ok (.iload_n 0, 1) := by decide +kernel
theorem dX10_isKind_1 : decode cX10_isKind 1 = .ok (.iconst 3, 1) := by decide +kernel
theorem dX10_isKind_2 : decode cX10_isKind 2 = .ok (.invokestatic 125, 3) := by decide +kernel
theorem dX10_isKind_5 : decode cX10_isKind 5 = .ok (.ireturn, 1) := by decide +kernel
set_option maxRecDepth 20000 in
theorem ggX10_isDay_X10_isBelow : GoodIn wsX10_isDay wsX10_isBelow := goodIn_r _ [4] (by decide +kernel) (by decide +kernel)
set_option maxRecDepth 20000 in
theorem gX10_isDay_X10_isBelow : GoodIn wsX10_isDay (va_wsS RX10 125 yX10_isBelow wsX10_isBelow) := goodIn_app (goodIn_of _ (by decide +kernel)) ggX10_isDay_X10_isBelow
theorem dX10_isDay_0 : decode cX10_isDay 0 = .ok (.iload_n 0, 1) := by decide +kernel
theorem dX10_isDay_1 : decode cX10_isDay 1 = .ok (.sipush 1000, 3) := by decide +kernel
theorem dX10_isDay_4 : decode cX10_isDay 4 = .ok (.invokestatic 125, 3) := by decide +kernel
theorem dX10_isDay_7 : decode cX10_isDay 7 = .ok (.ireturn, 1) := by decide +kernel
theorem dX10_isBelow_0 : decode cX10_isBelow 0 = .ok (.iload_n 0, 1) := by decide +kernel
theorem dX10_isBelow_1 : decode cX10_isBelow 1 = .ok (.ifCond .lt 12, 3) := by decide +kernel
theorem dX10_isBelow_4 : decode cX10_isBelow 4 = .ok (.iload_n 0, 1) := by decide +kernel
theorem dX10_isBelow_5 : decode cX10_isBelow 5 = .ok (.iload_n 1, 1) := by decide +kernel
theorem dX10_isBelow_6 : decode cX10_isBelow 6 = .ok (.if_icmp .ge 7, 3) := by decide +kernel
theorem dX10_isBelow_9 : decode cX10_isBelow 9 = .ok (.iconst 1, 1) := by decide +kernel
theorem dX10_isBelow_10 : decode cX10_isBelow 10 = .ok (.goto 4, 3) := by decide +kernel
theorem dX10_isBelow_13 : decode cX10_isBelow 13 = .ok (.iconst 0, 1) := by decide +kernel
theorem dX10_isBelow_14 : decode cX10_isBelow 14 = .ok (.ireturn, 1) := by decide +kernel
theorem dX11_in_0 : decode cX11_in 0 = .ok (.iload_n 0, 1) := by decide +kernel
theorem dX11_in_1 : decode cX11_in 1 = .ok (.iload_n 1, 1) := by decide +kernel
theorem dX11_in_2 : decode cX11_in 2 = .ok (.if_icmp .lt 12, 3) := by decide +kernel
theorem dX11_in_5 : decode cX11_in 5 = .ok (.iload_n 0, 1) := by decide +kernel
theorem dX11_in_6 : decode cX11_in 6 = .ok (.iload_n 2, 1) := by decide +kernel
theorem dX11_in_7 : decode cX11_in 7 = .ok (.if_icmp .gt 7, 3) := by decide +kernel
theorem dX11_in_10 : decode cX11_in 10 = .ok (.iconst 1, 1) := by decide +kernel
theorem dX11_in_11 : decode cX11_in 11 = .ok (.goto 4, 3) := by decide +kernel
theorem dX11_in_14 : decode cX11_in 14 = .ok (.iconst 0, 1) := by decide +kernel
theorem dX11_in_15 : decode cX11_in 15 = .ok (.ireturn, 1) := by decide +kernel
theorem dX11_init_0 : decode cX11_init 0 = .ok (.aload_n 0, 1) := by decide +kernel
theorem dX11_init_1 : decode cX11_init 1 = .ok (.invokespecial 1, 3) := by decide +kernel
theorem dX11_init_4 : decode cX11_init 4 = .ok (.aload_n 0, 1) := by decide +kernel
theorem dX11_init_5 : decode cX11_init 5 = .ok (.sipush 994, 3) := by decide +kernel
theorem dX11_init_8 : decode cX11_init 8 = .ok (.newarray .int, 2) := by decide +kernel
theorem dX11_init_10 : decode cX11_init 10 = .ok (.putfield 7, 3) := by decide +kernel
theorem dX11_init_13 : decode cX11_init 13 = .ok (.aload_n 0, 1) := by decide +kernel
theorem dX11_init_14 : decode cX11_init 14 = .ok (.bipush 6, 2) := by decide +kernel
theorem dX11_init_16 : decode cX11_init 16 = .ok (.newarray .int, 2) := by decide +kernel
theorem dX11_init_18 : decode cX11_init 18 = .ok (.putfield 13, 3) := by decide +kernel
theorem dX11_init_21 : decode cX11_init 21 = .ok (.aload_n 0, 1) := by decide +kernel
theorem dX11_init_22 : decode cX11_init 22 = .ok (.bipush 60, 2) := by decide +kernel
theorem dX11_init_24 : decode cX11_init 24 = .ok (.newarray .boolean, 2) := by decide +kernel
theorem dX11_init_26 : decode cX11_init 26 = .ok (.putfield 16, 3) := by decide +kernel
theorem dX11_init_29 : decode cX11_init 29 = .ok (.aload_n 0, 1) := by decide +kernel
theorem dX11_init_30 : decode cX11_init 30 = .ok (.bipush 10, 2) := by decide +kernel
theorem dX11_init_32 : decode cX11_init 32 = .ok (.newarray .int, 2) := by decide +kernel
theorem dX11_init_34 : decode cX11_init 34 = .ok (.putfield 20, 3) := by decide +kernel
theorem dX11_init_37 : decode cX11_init 37 = .ok (.aload_n 0, 1) := by decide +kernel
theorem dX11_init_38 : decode cX11_init 38 = .ok (.bipush 60, 2) := by decide +kernel
theorem dX11_init_40 : decode cX11_init 40 = .ok (.newarray .boolean, 2) := by decide +kernel
theorem dX11_init_42 : decode cX11_init 42 = .ok (.putfield 23, 3) := by decide +kernel
theorem dX11_init_45 : decode cX11_init 45 = .ok (.aload_n 0, 1) := by decide +kernel
theorem dX11_init_46 : decode cX11_init 46 = .ok (.bipush 6, 2) := by decide +kernel
theorem dX11_init_48 : decode cX11_init 48 = .ok (.newarray .int, 2) := by decide +kernel
theorem dX11_init_50 : decode cX11_init 50 = .ok (.putfield 26, 3) := by decide +kernel
theorem dX11_init_53 : decode cX11_init 53 = .ok (.iconst 0, 1) := by decide +kernel
theorem dX11_init_54 : decode cX11_init 54 = .ok (.istore_n 1, 1) := by decide +kernel
theorem dX11_init_55 : decode cX11_init 55 = .ok (.iload_n 1, 1) := by decide +kernel
theorem dX11_init_56 : decode cX11_init 56 = .ok (.bipush 12, 2) := by decide +kernel
theorem dX11_init_58 : decode cX11_init 58 = .ok (.if_icmp .ge 22, 3) := by decide +kernel
theorem dX11_init_61 : decode cX11_init 61 = .ok (.aload_n 0, 1) := by decide +kernel
theorem dX11_init_62 : decode cX11_init 62 = .ok (.getfield 7, 3) := by decide +kernel
theorem dX11_init_65 : decode cX11_init 65 = .ok (.sipush 942, 3) := by decide +kernel
theorem dX11_init_68 : decode cX11_init 68 = .ok (.iload_n 1, 1) := by decide +kernel
theorem dX11_init_69 : decode cX11_init 69 = .ok (.iadd, 1) := by decide +kernel
theorem dX11_init_70 : decode cX11_init 70 = .ok (.iload_n 1, 1) := by decide +kernel
theorem dX11_init_71 : decode cX11_init 71 = .ok (.iconst 3, 1) := by decide +kernel
theorem dX11_init_72 : decode cX11_init 72 = .ok (.irem, 1) := by decide +kernel
theorem dX11_init_73 : decode cX11_init 73 = .ok (.iastore, 1) := by decide +kernel
theorem dX11_init_74 : decode cX11_init 74 = .ok (.iinc 1 1, 3) := by decide +kernel
theorem dX11_init_77 : decode cX11_init 77 = .ok (.goto (-22), 3) := by decide +kernel
theorem dX11_init_80 : decode cX11_init 80 = .ok (.return_, 1) := by decide +kernel
set_option maxRecDepth 20000 in
theorem ggX11_is_X11_in : GoodIn wsX11_is wsX11_in := goodIn_r _ [5] (by decide +kernel) (by decide +kernel)
set_option maxRecDepth 20000 in
theorem gX11_is_X11_in : GoodIn wsX11_is (va_wsS RX11 29 yX11_in wsX11_in) := goodIn_app (goodIn_of _ (by decide +kernel)) ggX11_is_X11_in
theorem dX11_is_0 : decode cX11_is 0 = .ok (.iload_n 2, 1) := by decide +kernel
theorem dX11_is_1 : decode cX11_is 1 = .ok (.iconst 0, 1) := by decide +kernel
theorem dX11_is_2 : decode cX11_is 2 = .ok (.aload_n 0, 1) := by decide +kernel
theorem dX11_is_3 : decode cX11_is 3 = .ok (.getfield 7, 3) := by decide +kernel
theorem dX11_is_6 : decode cX11_is 6 = .ok (.iload_n 1, 1) := by decide +kernel
theorem dX11_is_7 : decode cX11_is 7 = .ok (.iaload, 1) := by decide +kernel
theorem dX11_is_8 : decode cX11_is 8 = .ok (.iconst 1, 1) := by decide +kernel
theorem dX11_is_9 : decode cX11_is 9 = .ok (.isub, 1) := by decide +kernel
theorem dX11_is_10 : decode cX11_is 10 = .ok (.invokestatic 29, 3) := by decide +kernel
theorem dX11_is_13 : decode cX11_is 13 = .ok (.ireturn, 1) := by decide +kernel
theorem dX11_one_0 : decode cX11_one 0 = .ok (.aload_n 0, 1) := by decide +kernel
theorem dX11_one_1 : decode cX11_one 1 = .ok (.getfield 7, 3) := by decide +kernel
theorem dX11_one_4 : decode cX11_one 4 = .ok (.iload_n 1, 1) := by decide +kernel
theorem dX11_one_5 : decode cX11_one 5 = .ok (.dup2, 1) := by decide +kernel
theorem dX11_one_6 : decode cX11_one 6 = .ok (.iaload, 1) := by decide +kernel
theorem dX11_one_7 : decode cX11_one 7 = .ok (.iconst 1, 1) := by decide +kernel
theorem dX11_one_8 : decode cX11_one 8 = .ok (.iadd, 1) := by decide +kernel
theorem dX11_one_9 : decode cX11_one 9 = .ok (.iastore, 1) := by decide +kernel
theorem dX11_one_10 : decode cX11_one 10 = .ok (.aload_n 0, 1) := by decide +kernel
theorem dX11_one_11 : decode cX11_one 11 = .ok (.getfield 7, 3) := by decide +kernel
theorem dX11_one_14 : decode cX11_one 14 = .ok (.iload_n 1, 1) := by decide +kernel
theorem dX11_one_15 : decode cX11_one 15 = .ok (.iaload, 1) := by decide +kernel
theorem dX11_one_16 : decode cX11_one 16 = .ok (.iconst 1, 1) := by decide +kernel
theorem dX11_one_17 : decode cX11_one 17 = .ok (.isub, 1) := by decide +kernel
theorem dX11_one_18 : decode cX11_one 18 = .ok (.ireturn, 1) := by decide +kernel
theorem dX11_puts_0 : decode cX11_puts 0 = .ok (.aload_n 0, 1) := by decide +kernel
theorem dX11_puts_1 : decode cX11_puts 1 = .ok (.getfield 7, 3) := by decide +kernel
theorem dX11_puts_4 : decode cX11_puts 4 = .ok (.iload_n 1, 1) := by decide +kernel
theorem dX11_puts_5 : decode cX11_puts 5 = .ok (.iaload, 1) := by decide +kernel
theorem dX11_puts_6 : decode cX11_puts 6 = .ok (.istore_n 3, 1) := by decide +kernel
theorem dX11_puts_7 : decode cX11_puts 7 = .ok (.aload_n 0, 1) := by decide +kernel
theorem dX11_puts_8 : decode cX11_puts 8 = .ok (.getfield 7, 3) := by decide +kernel
theorem dX11_puts_11 : decode cX11_puts 11 = .ok (.iload_n 1, 1) := by decide +kernel
theorem dX11_puts_12 : decode cX11_puts 12 = .ok (.iload_n 2, 1) := by decide +kernel
theorem dX11_puts_13 : decode cX11_puts 13 = .ok (.iastore, 1) := by decide +kernel
theorem dX11_puts_14 : decode cX11_puts 14 = .ok (.iload_n 3, 1) := by decide +kernel
theorem dX11_puts_15 : decode cX11_puts 15 = .ok (.ireturn, 1) := by decide +kernel
set_option maxRecDepth 20000 in
theorem ggX11_isDay_X11_in : GoodIn wsX11_isDay wsX11_in := goodIn_r _ [4] (by decide +kernel) (by decide +kernel)
set_option maxRecDepth 20000 in
theorem gX11_isDay_X11_in : GoodIn wsX11_isDay (va_wsS RX11 29 yX11_in wsX11_in) := goodIn_app (goodIn_of _ (by decide +kernel)) ggX11_isDay_X11_in
theorem dX11_isDay_0 : decode cX11_isDay 0 = .ok (.iload_n 0, 1) := by decide +kernel
theorem dX11_isDay_1 : decode cX11_isDay 1 = .ok (.iconst 0, 1) := by decide +kernel
theorem dX11_isDay_2 : decode cX11_isDay 2 = .ok (.sipush 999, 3) := by decide +kernel
theorem dX11_isDay_5 : decode cX11_isDay 5 = .ok (.invokestatic 29, 3) := by decide +kernel
theorem dX11_isDay_8 : decode cX11_isDay 8 = .ok (.ireturn, 1) := by decide +kernel
set_option maxRecDepth 20000 in
theorem ggX11_isLand_X11_in : GoodIn wsX11_isLand wsX11_in := goodIn_r _ [4] (by decide +kernel) (by decide +kernel)
set_option maxRecDepth 20000 in
theorem gX11_isLand_X11_in : GoodIn wsX11_isLand (va_wsS RX11 29 yX11_in wsX11_in) := goodIn_app (goodIn_of _ (by decide +kernel)) ggX11_isLand_X11_in
theorem dX11_isLand_0 : decode cX11_isLand 0 = .ok (.iload_n 0, 1) := by decide +kernel
theorem dX11_isLand_1 : decode cX11_isLand 1 = .ok (.iconst 0, 1) := by decide +kernel
theorem dX11_isLand_2 : decode cX11_isLand 2 = .ok (.iconst 3, 1) := by decide +kernel
theorem dX11_isLand_3 : decode cX11_isLand 3 = .ok (.invokestatic 29, 3) := by decide +kernel
theorem dX11_isLand_6 : decode cX11_isLand 6 = .ok (.ireturn, 1) := by decide +kernel
set_option maxRecDepth 20000 in
theorem ggX11_isTie_X11_in : GoodIn wsX11_isTie wsX11_in := goodIn_r _ [4] (by decide +kernel) (by decide +kernel)
set_option maxRecDepth 20000 in
theorem gX11_isTie_X11_in : GoodIn wsX11_isTie (va_wsS RX11 29 yX11_in wsX11_in) := goodIn_app (goodIn_of _ (by decide +kernel)) ggX11_isTie_X11_in
theorem dX11_isTie_0 : decode cX11_isTie 0 = .ok (.iload_n 0, 1) := by decide +kernel
theorem dX11_isTie_1 : decode cX11_isTie 1 = .ok (.iconst 0, 1) := by decide +kernel
theorem dX11_isTie_2 : decode cX11_isTie 2 = .ok (.iconst 5, 1) := by decide +kernel
theorem dX11_isTie_3 : decode cX11_isTie 3 = .ok (.invokestatic 29, 3) := by decide +kernel
theorem dX11_isTie_6 : decode cX11_isTie 6 = .ok (.ireturn, 1) := by decide +kernel
set_option maxRecDepth 20000 in
theorem ggX11_isKind_X11_in : GoodIn wsX11_isKind wsX11_in := goodIn_r _ [4] (by decide +kernel) (by decide +kernel)
set_option maxRecDepth 20000 in
theorem gX11_isKind_X11_in : GoodIn wsX11_isKind (va_wsS RX11 29 yX11_in wsX11_in) := goodIn_app (goodIn_of _ (by decide +kernel)) ggX11_isKind_X11_in
theorem dX11_isKind_0 : decode cX11_isKind 0 = .ok (.iload_n 0, 1) := by decide +kernel
theorem dX11_isKind_1 : decode cX11_isKind 1 = .ok (.iconst 0, 1) := by decide +kernel
theorem dX11_isKind_2 : decode cX11_isKind 2 = .ok (.iconst 2, 1) := by decide +kernel
theorem dX11_isKind_3 : decode cX11_isKind 3 = .ok (.invokestatic 29, 3) := by decide +kernel
theorem dX11_isKind_6 : decode cX11_isKind 6 = .ok (.ireturn, 1) := by decide +kernel
set_option maxRecDepth 20000 in
theorem ggX11_newCase_X11_isDay : GoodIn wsX11_newCase wsX11_isDay := goodIn_r _ [5, 6, 7, 4, 8] (by decide +kernel) (by decide +kernel)
set_option maxRecDepth 20000 in
theorem gX11_newCase_X11_isDay : GoodIn wsX11_newCase (va_wsS RX11 33 yX11_isDay wsX11_isDay) := goodIn_app (goodIn_of _ (by decide +kernel)) ggX11_newCase_X11_isDay
set_option maxRecDepth 20000 in
theorem ggX11_newCase_X11_one : GoodIn wsX11_newCase wsX11_one := goodIn_r _ [12, 1, 13, 14, 15, 16, 17, 18, 19, 20] (by decide +kernel) (by decide +kernel)
set_option maxRecDepth 20000 in
theorem gX11_newCase_X11_one : GoodIn wsX11_newCase (wsV RX11 37 RX11 yX11_one wsX11_one) := goodIn_app (goodIn_of _ (by decide +kernel)) ggX11_newCase_X11_one
theorem dX11_newCase_0 : decode cX11_newCase 0 = .ok (.iload_n 1, 1) := by decide +kernel
theorem dX11_newCase_1 : decode cX11_newCase 1 = .ok (.invokestatic 33, 3) := by decide +kernel
theorem dX11_newCase_4 : decode cX11_newCase 4 = .ok (.ifCond .ne 6, 3) := by decide +kernel
theorem dX11_newCase_7 : decode cX11_newCase 7 = .ok (.bipush (-2), 2) := by decide +kernel
theorem dX11_newCase_9 : decode cX11_newCase 9 = .ok (.ireturn, 1) := by decide +kernel
theorem dX11_newCase_10 : decode cX11_newCase 10 = .ok (.aload_n 0, 1) := by decide +kernel
theorem dX11_newCase_11 : decode cX11_newCase 11 = .ok (.getfield 7, 3) := by decide +kernel
theorem dX11_newCase_14 : decode cX11_newCase 14 = .ok (.iconst 0, 1) := by decide +kernel
theorem dX11_newCase_15 : decode cX11_newCase 15 = .ok (.iaload, 1) := by decide +kernel
theorem dX11_newCase_16 : decode cX11_newCase 16 = .ok (.bipush 16, 2) := by decide +kernel
theorem dX11_newCase_18 : decode cX11_newCase 18 = .ok (.if_icmp .ne 6, 3) := by decide +kernel
theorem dX11_newCase_21 : decode cX11_newCase 21 = .ok (.bipush (-4), 2) := by decide +kernel
theorem dX11_newCase_23 : decode cX11_newCase 23 = .ok (.ireturn, 1) := by decide +kernel
theorem dX11_newCase_24 : decode cX11_newCase 24 = .ok (.aload_n 0, 1) := by decide +kernel
theorem dX11_newCase_25 : decode cX11_newCase 25 = .ok (.getfield 7, 3) := by decide +kernel
theorem dX11_newCase_28 : decode cX11_newCase 28 = .ok (.bipush 10, 2) := by decide +kernel
theorem dX11_newCase_30 : decode cX11_newCase 30 = .ok (.iconst 2, 1) := by decide +kernel
theorem dX11_newCase_31 : decode cX11_newCase 31 = .ok (.aload_n 0, 1) := by decide +kernel
theorem dX11_newCase_32 : decode cX11_newCase 32 = .ok (.getfield 7, 3) := by decide +kernel
theorem dX11_newCase_35 : decode cX11_newCase 35 = .ok (.iconst 0, 1) := by decide +kernel
theorem dX11_newCase_36 : decode cX11_newCase 36 = .ok (.iaload, 1) := by decide +kernel
theorem dX11_newCase_37 : decode cX11_newCase 37 = .ok (.imul, 1) := by decide +kernel
theorem dX11_newCase_38 : decode cX11_newCase 38 = .ok (.iadd, 1) := by decide +kernel
theorem dX11_newCase_39 : decode cX11_newCase 39 = .ok (.iload_n 1, 1) := by decide +kernel
theorem dX11_newCase_40 : decode cX11_newCase 40 = .ok (.iastore, 1) := by decide +kernel
theorem dX11_newCase_41 : decode cX11_newCase 41 = .ok (.aload_n 0, 1) := by decide +kernel
theorem dX11_newCase_42 : decode cX11_newCase 42 = .ok (.getfield 7, 3) := by decide +kernel
theorem dX11_newCase_45 : decode cX11_newCase 45 = .ok (.bipush 10, 2) := by decide +kernel
theorem dX11_newCase_47 : decode cX11_newCase 47 = .ok (.iconst 2, 1) := by decide +kernel
theorem dX11_newCase_48 : decode cX11_newCase 48 = .ok (.aload_n 0, 1) := by decide +kernel
theorem dX11_newCase_49 : decode cX11_newCase 49 = .ok (.getfield 7, 3) := by decide +kernel
theorem dX11_newCase_52 : decode cX11_newCase 52 = .ok (.iconst 0, 1) := by decide +kernel
theorem dX11_newCase_53 : decode cX11_newCase 53 = .ok (.iaload, 1) := by decide +kernel
theorem dX11_newCase_54 : decode cX11_newCase 54 = .ok (.imul, 1) := by decide +kernel
theorem dX11_newCase_55 : decode cX11_newCase 55 = .ok (.iadd, 1) := by decide +kernel
theorem dX11_newCase_56 : decode cX11_newCase 56 = .ok (.iconst 1, 1) := by decide +kernel
theorem dX11_newCase_57 : decode cX11_newCase 57 = .ok (.iadd, 1) := by decide +kernel
theorem dX11_newCase_58 : decode cX11_newCase 58 = .ok (.iconst 0, 1) := by decide +kernel
theorem dX11_newCase_59 : decode cX11_newCase 59 = .ok (.iastore, 1) := by decide +kernel
theorem dX11_newCase_60 : decode cX11_newCase 60 = .ok (.aload_n 0, 1) := by decide +kernel
theorem dX11_newCase_61 : decode cX11_newCase 61 = .ok (.iconst 0, 1) := by decide +kernel
theorem dX11_newCase_62 : decode cX11_newCase 62 = .ok (.invokevirtual 37, 3) := by decide +kernel
theorem dX11_newCase_65 : decode cX11_newCase 65 = .ok (.ireturn, 1) := by decide +kernel
set_option maxRecDepth 20000 in
theorem ggX11_tie_X11_is : GoodIn wsX11_tie wsX11_is := goodIn_r _ [6, 1, 7, 8, 5, 9, 20, 21, 22, 23, 24, 25, 26, 27] (by decide +kernel) (by decide +kernel)
set_option maxRecDepth 20000 in
theorem gX11_tie_X11_is : GoodIn wsX11_tie (wsV RX11 41 RX11 yX11_is wsX11_is) := goodIn_app (goodIn_of _ (by decide +kernel)) ggX11_tie_X11_is
set_option maxRecDepth 20000 in
theorem ggX11_tie_X11_isTie : GoodIn wsX11_tie wsX11_isTie := goodIn_r _ [12, 7, 8, 5, 9] (by decide +kernel) (by decide +kernel)
set_option maxRecDepth 20000 in
theorem gX11_tie_X11_isTie : GoodIn wsX11_tie (va_wsS RX11 45 yX11_isTie wsX11_isTie) := goodIn_app (goodIn_of _ (by decide +kernel)) ggX11_tie_X11_isTie
set_option maxRecDepth 20000 in
theorem ggX11_tie_X11_in : GoodIn wsX11_tie wsX11_in := goodIn_r _ [9] (by decide +kernel) (by decide +kernel)
set_option maxRecDepth 20000 in
theorem gX11_tie_X11_in : GoodIn wsX11_tie (va_wsS RX11 29 yX11_in wsX11_in) := goodIn_app (goodIn_of _ (by decide +kernel)) ggX11_tie_X11_in
set_option maxRecDepth 20000 in
theorem ggX11_tie_X11_isDay : GoodIn wsX11_tie wsX11_isDay := goodIn_r _ [15, 7, 8, 5, 9] (by decide +kernel) (by decide +kernel)
set_option maxRecDepth 20000 in
theorem gX11_tie_X11_isDay : GoodIn wsX11_tie (va_wsS RX11 33 yX11_isDay wsX11_isDay) := goodIn_app (goodIn_of _ (by decide +kernel)) ggX11_tie_X11_isDay
set_option maxRecDepth 20000 in
theorem ggX11_tie_X11_one : GoodIn wsX11_tie wsX11_one := goodIn_r _ [19, 1, 20, 21, 22, 23, 24, 25, 26, 27] (by decide +kernel) (by decide +kernel)
set_option maxRecDepth 20000 in
theorem gX11_tie_X11_one : GoodIn wsX11_tie (wsV RX11 37 RX11 yX11_one wsX11_one) := goodIn_app (goodIn_of _ (by decide +kernel)) ggX11_tie_X11_one
theorem dX11_tie_0 : decode cX11_tie 0 = .ok (.aload_n 0, 1) := by decide +kernel
theorem dX11_tie_1 : decode cX11_tie 1 = .ok (.iconst 0, 1) := by decide +kernel
theorem dX11_tie_2 : decode cX11_tie 2 = .ok (.iload_n 1, 1) := by decide +kernel
theorem dX11_tie_3 : decode cX11_tie 3 = .ok (.invokevirtual 41, 3) := by decide +kernel
theorem dX11_tie_6 : decode cX11_tie 6 = .ok (.ifCond .eq 27, 3) := by decide +kernel
theorem dX11_tie_9 : decode cX11_tie 9 = .ok (.iload_n 2, 1) := by decide +kernel
theorem dX11_tie_10 : decode cX11_tie 10 = .ok (.invokestatic 45, 3) := by decide +kernel
theorem dX11_tie_13 : decode cX11_tie 13 = .ok (.ifCond .eq 20, 3) := by decide +kernel
theorem dX11_tie_16 : decode cX11_tie 16 = .ok (.iload_n 3, 1) := by decide +kernel
theorem dX11_tie_17 : decode cX11_tie 17 = .ok (.iconst (-1), 1) := by decide +kernel
theorem dX11_tie_18 : decode cX11_tie 18 = .ok (.iconst 3, 1) := by decide +kernel
theorem dX11_tie_19 : decode cX11_tie 19 = .ok (.invokestatic 29, 3) := by decide +kernel
theorem dX11_tie_22 : decode cX11_tie 22 = .ok (.ifCond .eq 11, 3) := by decide +kernel
theorem dX11_tie_25 : decode cX11_tie 25 = .ok (.iload 4, 2) := by decide +kernel
theorem dX11_tie_27 : decode cX11_tie 27 = .ok (.invokestatic 33, 3) := by decide +kernel
theorem dX11_tie_30 : decode cX11_tie 30 = .ok (.ifCond .ne 6, 3) := by decide +kernel
theorem dX11_tie_33 : decode cX11_tie 33 = .ok (.bipush (-2), 2) := by decide +kernel
theorem dX11_tie_35 : decode cX11_tie 35 = .ok (.ireturn, 1) := by decide +kernel
theorem dX11_tie_36 : decode cX11_tie 36 = .ok (.aload_n 0, 1) := by decide +kernel
theorem dX11_tie_37 : decode cX11_tie 37 = .ok (.getfield 7, 3) := by decide +kernel
theorem dX11_tie_40 : decode cX11_tie 40 = .ok (.iconst 1, 1) := by decide +kernel
theorem dX11_tie_41 : decode cX11_tie 41 = .ok (.iaload, 1) := by decide +kernel
theorem dX11_tie_42 : decode cX11_tie 42 = .ok (.bipush 60, 2) := by decide +kernel
theorem dX11_tie_44 : decode cX11_tie 44 = .ok (.if_icmp .ne 6, 3) := by decide +kernel
theorem dX11_tie_47 : decode cX11_tie 47 = .ok (.bipush (-4), 2) := by decide +kernel
theorem dX11_tie_49 : decode cX11_tie 49 = .ok (.ireturn, 1) := by decide +kernel
theorem dX11_tie_50 : decode cX11_tie 50 = .ok (.bipush 42, 2) := by decide +kernel
theorem dX11_tie_52 : decode cX11_tie 52 = .ok (.iconst 4, 1) := by decide +kernel
theorem dX11_tie_53 : decode cX11_tie 53 = .ok (.aload_n 0, 1) := by decide +kernel
theorem dX11_tie_54 : decode cX11_tie 54 = .ok (.getfield 7, 3) := by decide +kernel
theorem dX11_tie_57 : decode cX11_tie 57 = .ok (.iconst 1, 1) := by decide +kernel
theorem dX11_tie_58 : decode cX11_tie 58 = .ok (.iaload, 1) := by decide +kernel
theorem dX11_tie_59 : decode cX11_tie 59 = .ok (.imul, 1) := by decide +kernel
theorem dX11_tie_60 : decode cX11_tie 60 = .ok (.iadd, 1) := by decide +kernel
theorem dX11_tie_61 : decode cX11_tie 61 = .ok (.istore 5, 2) := by decide +kernel
theorem dX11_tie_63 : decode cX11_tie 63 = .ok (.aload_n 0, 1) := by decide +kernel
theorem dX11_tie_64 : decode cX11_tie 64 = .ok (.getfield 7, 3) := by decide +kernel
theorem dX11_tie_67 : decode cX11_tie 67 = .ok (.iload 5, 2) := by decide +kernel
theorem dX11_tie_69 : decode cX11_tie 69 = .ok (.iload_n 1, 1) := by decide +kernel
theorem dX11_tie_70 : decode cX11_tie 70 = .ok (.iastore, 1) := by decide +kernel
theorem dX11_tie_71 : decode cX11_tie 71 = .ok (.aload_n 0, 1) := by decide +kernel
theorem dX11_tie_72 : decode cX11_tie 72 = .ok (.getfield 7, 3) := by decide +kernel
theorem dX11_tie_75 : decode cX11_tie 75 = .ok (.iload 5, 2) := by decide +kernel
theorem dX11_tie_77 : decode cX11_tie 77 = .ok (.iconst 1, 1) := by decide +kernel
theorem dX11_tie_78 : decode cX11_tie 78 = .ok (.iadd, 1) := by decide +kernel
theorem dX11_tie_79 : decode cX11_tie 79 = .ok (.iload_n 2, 1) := by decide +kernel
theorem dX11_tie_80 : decode cX11_tie 80 = .ok (.iastore, 1) := by decide +kernel
theorem dX11_tie_81 : decode cX11_tie 81 = .ok (.aload_n 0, 1) := by decide +kernel
theorem dX11_tie_82 : decode cX11_tie 82 = .ok (.getfield 7, 3) := by decide +kernel
theorem dX11_tie_85 : decode cX11_tie 85 = .ok (.iload 5, 2) := by decide +kernel
theorem dX11_tie_87 : decode cX11_tie 87 = .ok (.iconst 2, 1) := by decide +kernel
theorem dX11_tie_88 : decode cX11_tie 88 = .ok (.iadd, 1) := by decide +kernel
theorem dX11_tie_89 : decode cX11_tie 89 = .ok (.iload_n 3, 1) := by decide +kernel
theorem dX11_tie_90 : decode cX11_tie 90 = .ok (.iastore, 1) := by decide +kernel
theorem dX11_tie_91 : decode cX11_tie 91 = .ok (.aload_n 0, 1) := by decide +kernel
theorem dX11_tie_92 : decode cX11_tie 92 = .ok (.getfield 7, 3) := by decide +kernel
theorem dX11_tie_95 : decode cX11_tie 95 = .ok (.iload 5, 2) := by decide +kernel
theorem dX11_tie_97 : decode cX11_tie 97 = .ok (.iconst 3, 1) := by decide +kernel
theorem dX11_tie_98 : decode cX11_tie 98 = .ok (.iadd, 1) := by decide +kernel
theorem dX11_tie_99 : decode cX11_tie 99 = .ok (.iload 4, 2) := by decide +kernel
theorem dX11_tie_101 : decode cX11_tie 101 = .ok (.iastore, 1) := by decide +kernel
theorem dX11_tie_102 : decode cX11_tie 102 = .ok (.aload_n 0, 1) := by decide +kernel
theorem dX11_tie_103 : decode cX11_tie 103 = .ok (.iconst 1, 1) := by decide +kernel
theorem dX11_tie_104 : decode cX11_tie 104 = .ok (.invokevirtual 37, 3) := by decide +kernel
theorem dX11_tie_107 : decode cX11_tie 107 = .ok (.iconst 1, 1) := by decide +kernel
theorem dX11_tie_108 : decode cX11_tie 108 = .ok (.iadd, 1) := by decide +kernel
theorem dX11_tie_109 : decode cX11_tie 109 = .ok (.ireturn, 1) := by decide +kernel
theorem dX11_looksAt_0 : decode cX11_looksAt 0 = .ok (.aload_n 0, 1) := by decide +kernel
theorem dX11_looksAt_1 : decode cX11_looksAt 1 = .ok (.aload_n 0, 1) := by decide +kernel
theorem dX11_looksAt_2 : decode cX11_looksAt 2 = .ok (.getfield 7, 3) := by decide +kernel
theorem dX11_looksAt_5 : decode cX11_looksAt 5 = .ok (.bipush 10, 2) := by decide +kernel
theorem dX11_looksAt_7 : decode cX11_looksAt 7 = .ok (.iconst 2, 1) := by decide +kernel
theorem dX11_looksAt_8 : decode cX11_looksAt 8 = .ok (.iload_n 1, 1) := by decide +kernel
theorem dX11_looksAt_9 : decode cX11_looksAt 9 = .ok (.imul, 1) := by decide +kernel
theorem dX11_looksAt_10 : decode cX11_looksAt 10 = .ok (.iadd, 1) := by decide +kernel
theorem dX11_looksAt_11 : decode cX11_looksAt 11 = .ok (.iaload, 1) := by decide +kernel
theorem dX11_looksAt_12 : decode cX11_looksAt 12 = .ok (.putfield 48, 3) := by decide +kernel
theorem dX11_looksAt_15 : decode cX11_looksAt 15 = .ok (.iconst 0, 1) := by decide +kernel
theorem dX11_looksAt_16 : decode cX11_looksAt 16 = .ok (.istore_n 2, 1) := by decide +kernel
theorem dX11_looksAt_17 : decode cX11_looksAt 17 = .ok (.iload_n 2, 1) := by decide +kernel
theorem dX11_looksAt_18 : decode cX11_looksAt 18 = .ok (.bipush 6, 2) := by decide +kernel
theorem dX11_looksAt_20 : decode cX11_looksAt 20 = .ok (.if_icmp .ge 125, 3) := by decide +kernel
theorem dX11_looksAt_23 : decode cX11_looksAt 23 = .ok (.aload_n 0, 1) := by decide +kernel
theorem dX11_looksAt_24 : decode cX11_looksAt 24 = .ok (.getfield 13, 3) := by decide +kernel
theorem dX11_looksAt_27 : decode cX11_looksAt 27 = .ok (.iload_n 2, 1) := by decide +kernel
theorem dX11_looksAt_28 : decode cX11_looksAt 28 = .ok (.iconst (-1), 1) := by decide +kernel
theorem dX11_looksAt_29 : decode cX11_looksAt 29 = .ok (.iastore, 1) := by decide +kernel
theorem dX11_looksAt_30 : decode cX11_looksAt 30 = .ok (.iconst (-1), 1) := by decide +kernel
theorem dX11_looksAt_31 : decode cX11_looksAt 31 = .ok (.istore_n 3, 1) := by decide +kernel
theorem dX11_looksAt_32 : decode cX11_looksAt 32 = .ok (.iconst 0, 1) := by decide +kernel
theorem dX11_looksAt_33 : decode cX11_looksAt 33 = .ok (.istore 4, 2) := by decide +kernel
theorem dX11_looksAt_35 : decode cX11_looksAt 35 = .ok (.iload 4, 2) := by decide +kernel
theorem dX11_looksAt_37 : decode cX11_looksAt 37 = .ok (.aload_n 0, 1) := by decide +kernel
theorem dX11_looksAt_38 : decode cX11_looksAt 38 = .ok (.getfield 7, 3) := by decide +kernel
theorem dX11_looksAt_41 : decode cX11_looksAt 41 = .ok (.iconst 1, 1) := by decide +kernel
theorem dX11_looksAt_42 : decode cX11_looksAt 42 = .ok (.iaload, 1) := by decide +kernel
theorem dX11_looksAt_43 : decode cX11_looksAt 43 = .ok (.if_icmp .ge 96, 3) := by decide +kernel
theorem dX11_looksAt_46 : decode cX11_looksAt 46 = .ok (.bipush 42, 2) := by decide +kernel
theorem dX11_looksAt_48 : decode cX11_looksAt 48 = .ok (.iconst 4, 1) := by decide +kernel
theorem dX11_looksAt_49 : decode cX11_looksAt 49 = .ok (.iload 4, 2) := by decide +kernel
theorem dX11_looksAt_51 : decode cX11_looksAt 51 = .ok (.imul, 1) := by decide +kernel
theorem dX11_looksAt_52 : decode cX11_looksAt 52 = .ok (.iadd, 1) := by decide +kernel
theorem dX11_looksAt_53 : decode cX11_looksAt 53 = .ok (.istore 5, 2) := by decide +kernel
theorem dX11_looksAt_55 : decode cX11_looksAt 55 = .ok (.aload_n 0, 1) := by decide +kernel
theorem dX11_looksAt_56 : decode cX11_looksAt 56 = .ok (.getfield 7, 3) := by decide +kernel
theorem dX11_looksAt_59 : decode cX11_looksAt 59 = .ok (.iload 5, 2) := by decide +kernel
theorem dX11_looksAt_61 : decode cX11_looksAt 61 = .ok (.iaload, 1) := by decide +kernel
theorem dX11_looksAt_62 : decode cX11_looksAt 62 = .ok (.iload_n 1, 1) := by decide +kernel
theorem dX11_looksAt_63 : decode cX11_looksAt 63 = .ok (.if_icmp .ne 70, 3) := by decide +kernel
theorem dX11_looksAt_66 : decode cX11_looksAt 66 = .ok (.aload_n 0, 1) := by decide +kernel
theorem dX11_looksAt_67 : decode cX11_looksAt 67 = .ok (.getfield 7, 3) := by decide +kernel
theorem dX11_looksAt_70 : decode cX11_looksAt 70 = .ok (.iload 5, 2) := by decide +kernel
theorem dX11_looksAt_72 : decode cX11_looksAt 72 = .ok (.iconst 1, 1) := by decide +kernel
theorem dX11_looksAt_73 : decode cX11_looksAt 73 = .ok (.iadd, 1) := by decide +kernel
theorem dX11_looksAt_74 : decode cX11_looksAt 74 = .ok (.iaload, 1) := by decide +kernel
theorem dX11_looksAt_75 : decode cX11_looksAt 75 = .ok (.iload_n 2, 1) := by decide +kernel
theorem dX11_looksAt_76 : decode cX11_looksAt 76 = .ok (.if_icmp .ne 57, 3) := by decide +kernel
theorem dX11_looksAt_79 : decode cX11_looksAt 79 = .ok (.aload_n 0, 1) := by decide +kernel
theorem dX11_looksAt_80 : decode cX11_looksAt 80 = .ok (.getfield 7, 3) := by decide +kernel
theorem dX11_looksAt_83 : decode cX11_looksAt 83 = .ok (.iload 5, 2) := by decide +kernel
theorem dX11_looksAt_85 : decode cX11_looksAt 85 = .ok (.iconst 3, 1) := by decide +kernel
theorem dX11_looksAt_86 : decode cX11_looksAt 86 = .ok (.iadd, 1) := by decide +kernel
theorem dX11_looksAt_87 : decode cX11_looksAt 87 = .ok (.iaload, 1) := by decide +kernel
theorem dX11_looksAt_88 : decode cX11_looksAt 88 = .ok (.aload_n 0, 1) := by decide +kernel
theorem dX11_looksAt_89 : decode cX11_looksAt 89 = .ok (.getfield 48, 3) := by decide +kernel
theorem dX11_looksAt_92 : decode cX11_looksAt 92 = .ok (.if_icmp .gt 41, 3) := by decide +kernel
theorem dX11_looksAt_95 : decode cX11_looksAt 95 = .ok (.aload_n 0, 1) := by decide +kernel
theorem dX11_looksAt_96 : decode cX11_looksAt 96 = .ok (.getfield 7, 3) := by decide +kernel
theorem dX11_looksAt_99 : decode cX11_looksAt 99 = .ok (.iload 5, 2) := by decide +kernel
theorem dX11_looksAt_101 : decode cX11_looksAt 101 = .ok (.iconst 3, 1) := by decide +kernel
theorem dX11_looksAt_102 : decode cX11_looksAt 102 = .ok (.iadd, 1) := by decide +kernel
theorem dX11_looksAt_103 : decode cX11_looksAt 103 = .ok (.iaload, 1) := by decide +kernel
theorem dX11_looksAt_104 : decode cX11_looksAt 104 = .ok (.iload_n 3, 1) := by decide +kernel
theorem dX11_looksAt_105 : decode cX11_looksAt 105 = .ok (.if_icmp .lt 28, 3) := by decide +kernel
theorem dX11_looksAt_108 : decode cX11_looksAt 108 = .ok (.aload_n 0, 1) := by decide +kernel
theorem dX11_looksAt_109 : decode cX11_looksAt 109 = .ok (.getfield 13, 3) := by decide +kernel
theorem dX11_looksAt_112 : decode cX11_looksAt 112 = .ok (.iload_n 2, 1) := by decide +kernel
theorem dX11_looksAt_113 : decode cX11_looksAt 113 = .ok (.aload_n 0, 1) := by decide +kernel
theorem dX11_looksAt_114 : decode cX11_looksAt 114 = .ok (.getfield 7, 3) := by decide +kernel
theorem dX11_looksAt_117 : decode cX11_looksAt 117 = .ok (.iload 5, 2) := by decide +kernel
theorem dX11_looksAt_119 : decode cX11_looksAt 119 = .ok (.iconst 2, 1) := by decide +kernel
theorem dX11_looksAt_120 : decode cX11_looksAt 120 = .ok (.iadd, 1) := by decide +kernel
theorem dX11_looksAt_121 : decode cX11_looksAt 121 = .ok (.iaload, 1) := by decide +kernel
theorem dX11_looksAt_122 : decode cX11_looksAt 122 = .ok (.iastore, 1) := by decide +kernel
theorem dX11_looksAt_123 : decode cX11_looksAt 123 = .ok (.aload_n 0, 1) := by decide +kernel
theorem dX11_looksAt_124 : decode cX11_looksAt 124 = .ok (.getfield 7, 3) := by decide +kernel
theorem dX11_looksAt_127 : decode cX11_looksAt 127 = .ok (.iload 5, 2) := by decide +kernel
theorem dX11_looksAt_129 : decode cX11_looksAt 129 = .ok (.iconst 3, 1) := by decide +kernel
theorem dX11_looksAt_130 : decode cX11_looksAt 130 = .ok (.iadd, 1) := by decide +kernel
theorem dX11_looksAt_131 : decode cX11_looksAt 131 = .ok (.iaload, 1) := by decide +kernel
theorem dX11_looksAt_132 : decode cX11_looksAt 132 = .ok (.istore_n 3, 1) := by decide +kernel
theorem dX11_looksAt_133 : decode cX11_looksAt 133 = .ok (.iinc 4 1, 3) := by decide +kernel
theorem dX11_looksAt_136 : decode cX11_looksAt 136 = .ok (.goto (-101), 3) := by decide +kernel
theorem dX11_looksAt_139 : decode cX11_looksAt 139 = .ok (.iinc 2 1, 3) := by decide +kernel
theorem dX11_looksAt_142 : decode cX11_looksAt 142 = .ok (.goto (-125), 3) := by decide +kernel
theorem dX11_looksAt_145 : decode cX11_looksAt 145 = .ok (.return_, 1) := by decide +kernel
theorem dX11_looksAtNumber_0 : decode cX11_looksAtNumber 0 = .ok (.aload_n 0, 1) := by decide +kernel
theorem dX11_looksAtNumber_1 : decode cX11_looksAtNumber 1 = .ok (.iload_n 2, 1) := by decide +kernel
theorem dX11_looksAtNumber_2 : decode cX11_looksAtNumber 2 = .ok (.putfield 48, 3) := by decide +kernel
theorem dX11_looksAtNumber_5 : decode cX11_looksAtNumber 5 = .ok (.iload_n 1, 1) := by decide +kernel
theorem dX11_looksAtNumber_6 : decode cX11_looksAtNumber 6 = .ok (.istore_n 3, 1) := by decide +kernel
theorem dX11_looksAtNumber_7 : decode cX11_looksAtNumber 7 = .ok (.iconst 0, 1) := by decide +kernel
theorem dX11_looksAtNumber_8 : decode cX11_looksAtNumber 8 = .ok (.istore 4, 2) := by decide +kernel
theorem dX11_looksAtNumber_10 : decode cX11_looksAtNumber 10 = .ok (.iload 4, 2) := by decide +kernel
theorem dX11_looksAtNumber_12 : decode cX11_looksAtNumber 12 = .ok (.bipush 6, 2) := by decide +kernel
theorem dX11_looksAtNumber_14 : decode cX11_looksAtNumber 14 = .ok (.if_icmp .ge 25, 3) := by decide +kernel
theorem dX11_looksAtNumber_17 : decode cX11_looksAtNumber 17 = .ok (.aload_n 0, 1) := by decide +kernel
theorem dX11_looksAtNumber_18 : decode cX11_looksAtNumber 18 = .ok (.getfield 13, 3) := by decide +kernel
theorem dX11_looksAtNumber_21 : decode cX11_looksAtNumber 21 = .ok (.iload 4, 2) := by decide +kernel
theorem dX11_looksAtNumber_23 : decode cX11_looksAtNumber 23 = .ok (.iload_n 3, 1) := by decide +kernel
theorem dX11_looksAtNumber_24 : decode cX11_looksAtNumber 24 = .ok (.iconst 5, 1) := by decide +kernel
theorem dX11_looksAtNumber_25 : decode cX11_looksAtNumber 25 = .ok (.irem, 1) := by decide +kernel
theorem dX11_looksAtNumber_26 : decode cX11_looksAtNumber 26 = .ok (.iconst 1, 1) := by decide +kernel
theorem dX11_looksAtNumber_27 : decode cX11_looksAtNumber 27 = .ok (.isub, 1) := by decide +kernel
theorem dX11_looksAtNumber_28 : decode cX11_looksAtNumber 28 = .ok (.iastore, 1) := by decide +kernel
theorem dX11_looksAtNumber_29 : decode cX11_looksAtNumber 29 = .ok (.iload_n 3, 1) := by decide +kernel
theorem dX11_looksAtNumber_30 : decode cX11_looksAtNumber 30 = .ok (.iconst 5, 1) := by decide +kernel
theorem dX11_looksAtNumber_31 : decode cX11_looksAtNumber 31 = .ok (.idiv, 1) := by decide +kernel
theorem dX11_looksAtNumber_32 : decode cX11_looksAtNumber 32 = .ok (.istore_n 3, 1) := by decide +kernel
theorem dX11_looksAtNumber_33 : decode cX11_looksAtNumber 33 = .ok (.iinc 4 1, 3) := by decide +kernel
theorem dX11_looksAtNumber_36 : decode cX11_looksAtNumber 36 = .ok (.goto (-26), 3) := by decide +kernel
theorem dX11_looksAtNumber_39 : decode cX11_looksAtNumber 39 = .ok (.return_, 1) := by decide +kernel
set_option maxRecDepth 20000 in
theorem ggX11_which_X11_is : GoodIn wsX11_which wsX11_is := goodIn_r _ [6, 7, 8, 9, 5, 10, 19, 20, 21, 22, 23, 24, 25, 26] (by decide +kernel) (by decide +kernel)
set_option maxRecDepth 20000 in
theorem gX11_which_X11_is : GoodIn wsX11_which (wsV RX11 41 RX11 yX11_is wsX11_is) := goodIn_app (goodIn_of _ (by decide +kernel)) ggX11_which_X11_is
set_option maxRecDepth 20000 in
theorem ggX11_which_X11_isTie : GoodIn wsX11_which wsX11_isTie := goodIn_r _ [13, 8, 9, 5, 10] (by decide +kernel) (by decide +kernel)
set_option maxRecDepth 20000 in
theorem gX11_which_X11_isTie : GoodIn wsX11_which (va_wsS RX11 45 yX11_isTie wsX11_isTie) := goodIn_app (goodIn_of _ (by decide +kernel)) ggX11_which_X11_isTie
set_option maxRecDepth 20000 in
theorem ggX11_which_X11_looksAt : GoodIn wsX11_which wsX11_looksAt := goodIn_r _ [17, 7, 18, 1, 19, 20, 21, 22, 23, 24, 25, 26] (by decide +kernel) (by decide +kernel)
set_option maxRecDepth 20000 in
theorem gX11_which_X11_looksAt : GoodIn wsX11_which (wsV RX11 52 RX11 yX11_looksAt wsX11_looksAt) := goodIn_app (goodIn_of _ (by decide +kernel)) ggX11_which_X11_looksAt
theorem dX11_which_0 : decode cX11_which 0 = .ok (.aload_n 0, 1) := by decide +kernel
theorem dX11_which_1 : decode cX11_which 1 = .ok (.iconst 0, 1) := by decide +kernel
theorem dX11_which_2 : decode cX11_which 2 = .ok (.iload_n 1, 1) := by decide +kernel
theorem dX11_which_3 : decode cX11_which 3 = .ok (.invokevirtual 41, 3) := by decide +kernel
theorem dX11_which_6 : decode cX11_which 6 = .ok (.ifCond .eq 10, 3) := by decide +kernel
theorem dX11_which_9 : decode cX11_which 9 = .ok (.iload_n 2, 1) := by decide +kernel
theorem dX11_which_10 : decode cX11_which 10 = .ok (.invokestatic 45, 3) := by decide +kernel
theorem dX11_which_13 : decode cX11_which 13 = .ok (.ifCond .ne 6, 3) := by decide +kernel
theorem dX11_which_16 : decode cX11_which 16 = .ok (.bipush (-10), 2) := by decide +kernel
theorem dX11_which_18 : decode cX11_which 18 = .ok (.ireturn, 1) := by decide +kernel
theorem dX11_which_19 : decode cX11_which 19 = .ok (.aload_n 0, 1) := by decide +kernel
theorem dX11_which_20 : decode cX11_which 20 = .ok (.iload_n 1, 1) := by decide +kernel
theorem dX11_which_21 : decode cX11_which 21 = .ok (.invokevirtual 52, 3) := by decide +kernel
theorem dX11_which_24 : decode cX11_which 24 = .ok (.aload_n 0, 1) := by decide +kernel
theorem dX11_which_25 : decode cX11_which 25 = .ok (.getfield 13, 3) := by decide +kernel
theorem dX11_which_28 : decode cX11_which 28 = .ok (.iload_n 2, 1) := by decide +kernel
theorem dX11_which_29 : decode cX11_which 29 = .ok (.iaload, 1) := by decide +kernel
theorem dX11_which_30 : decode cX11_which 30 = .ok (.ireturn, 1) := by decide +kernel
set_option maxRecDepth 20000 in
theorem ggX11_rule_X11_isLand : GoodIn wsX11_rule wsX11_isLand := goodIn_r _ [5, 6, 7, 4, 8] (by decide +kernel) (by decide +kernel)
set_option maxRecDepth 20000 in
theorem gX11_rule_X11_isLand : GoodIn wsX11_rule (va_wsS RX11 56 yX11_isLand wsX11_isLand) := goodIn_app (goodIn_of _ (by decide +kernel)) ggX11_rule_X11_isLand
set_option maxRecDepth 20000 in
theorem ggX11_rule_X11_isKind : GoodIn wsX11_rule wsX11_isKind := goodIn_r _ [11, 6, 7, 4, 8] (by decide +kernel) (by decide +kernel)
set_option maxRecDepth 20000 in
theorem gX11_rule_X11_isKind : GoodIn wsX11_rule (va_wsS RX11 59 yX11_isKind wsX11_isKind) := goodIn_app (goodIn_of _ (by decide +kernel)) ggX11_rule_X11_isKind
set_option maxRecDepth 20000 in
theorem ggX11_rule_X11_in : GoodIn wsX11_rule wsX11_in := goodIn_r _ [8] (by decide +kernel) (by decide +kernel)
set_option maxRecDepth 20000 in
theorem gX11_rule_X11_in : GoodIn wsX11_rule (va_wsS RX11 29 yX11_in wsX11_in) := goodIn_app (goodIn_of _ (by decide +kernel)) ggX11_rule_X11_in
set_option maxRecDepth 20000 in
theorem ggX11_rule_X11_isDay : GoodIn wsX11_rule wsX11_isDay := goodIn_r _ [14, 6, 7, 4, 8] (by decide +kernel) (by decide +kernel)
set_option maxRecDepth 20000 in
theorem gX11_rule_X11_isDay : GoodIn wsX11_rule (va_wsS RX11 33 yX11_isDay wsX11_isDay) := goodIn_app (goodIn_of _ (by decide +kernel)) ggX11_rule_X11_isDay
set_option maxRecDepth 20000 in
theorem ggX11_rule_X11_one : GoodIn wsX11_rule wsX11_one := goodIn_r _ [18, 1, 19, 20, 21, 22, 23, 24, 25, 26] (by decide +kernel) (by decide +kernel)
set_option maxRecDepth 20000 in
theorem gX11_rule_X11_one : GoodIn wsX11_rule (wsV RX11 37 RX11 yX11_one wsX11_one) := goodIn_app (goodIn_of _ (by decide +kernel)) ggX11_rule_X11_one
theorem dX11_rule_0 : decode cX11_rule 0 = .ok (.iload_n 1, 1) := by decide +kernel
theorem dX11_rule_1 : decode cX11_rule 1 = .ok (.invokestatic 56, 3) := by decide +kernel
theorem dX11_rule_4 : decode cX11_rule 4 = .ok (.ifCond .eq 38, 3) := by decide +kernel
theorem dX11_rule_7 : decode cX11_rule 7 = .ok (.iload_n 2, 1) := by decide +kernel
theorem dX11_rule_8 : decode cX11_rule 8 = .ok (.invokestatic 59, 3) := by decide +kernel
theorem dX11_rule_11 : decode cX11_rule 11 = .ok (.ifCond .eq 31, 3) := by decide +kernel
theorem dX11_rule_14 : decode cX11_rule 14 = .ok (.iload_n 3, 1) := by decide +kernel
theorem dX11_rule_15 : decode cX11_rule 15 = .ok (.iconst 0, 1) := by decide +kernel
theorem dX11_rule_16 : decode cX11_rule 16 = .ok (.iconst 1, 1) := by decide +kernel
theorem dX11_rule_17 : decode cX11_rule 17 = .ok (.invokestatic 29, 3) := by decide +kernel
theorem dX11_rule_20 : decode cX11_rule 20 = .ok (.ifCond .eq 22, 3) := by decide +kernel
theorem dX11_rule_23 : decode cX11_rule 23 = .ok (.iload 4, 2) := by decide +kernel
theorem dX11_rule_25 : decode cX11_rule 25 = .ok (.iconst 0, 1) := by decide +kernel
theorem dX11_rule_26 : decode cX11_rule 26 = .ok (.bipush 10, 2) := by decide +kernel
theorem dX11_rule_28 : decode cX11_rule 28 = .ok (.invokestatic 29, 3) := by decide +kernel
theorem dX11_rule_31 : decode cX11_rule 31 = .ok (.ifCond .eq 11, 3) := by decide +kernel
theorem dX11_rule_34 : decode cX11_rule 34 = .ok (.iload 5, 2) := by decide +kernel
theorem dX11_rule_36 : decode cX11_rule 36 = .ok (.invokestatic 33, 3) := by decide +kernel
theorem dX11_rule_39 : decode cX11_rule 39 = .ok (.ifCond .ne 6, 3) := by decide +kernel
theorem dX11_rule_42 : decode cX11_rule 42 = .ok (.bipush (-2), 2) := by decide +kernel
theorem dX11_rule_44 : decode cX11_rule 44 = .ok (.ireturn, 1) := by decide +kernel
theorem dX11_rule_45 : decode cX11_rule 45 = .ok (.aload_n 0, 1) := by decide +kernel
theorem dX11_rule_46 : decode cX11_rule 46 = .ok (.getfield 7, 3) := by decide +kernel
theorem dX11_rule_49 : decode cX11_rule 49 = .ok (.iconst 2, 1) := by decide +kernel
theorem dX11_rule_50 : decode cX11_rule 50 = .ok (.iaload, 1) := by decide +kernel
theorem dX11_rule_51 : decode cX11_rule 51 = .ok (.bipush 60, 2) := by decide +kernel
theorem dX11_rule_53 : decode cX11_rule 53 = .ok (.if_icmp .ne 6, 3) := by decide +kernel
theorem dX11_rule_56 : decode cX11_rule 56 = .ok (.bipush (-4), 2) := by decide +kernel
theorem dX11_rule_58 : decode cX11_rule 58 = .ok (.ireturn, 1) := by decide +kernel
theorem dX11_rule_59 : decode cX11_rule 59 = .ok (.sipush 282, 3) := by decide +kernel
theorem dX11_rule_62 : decode cX11_rule 62 = .ok (.bipush 11, 2) := by decide +kernel
theorem dX11_rule_64 : decode cX11_rule 64 = .ok (.aload_n 0, 1) := by decide +kernel
theorem dX11_rule_65 : decode cX11_rule 65 = .ok (.getfield 7, 3) := by decide +kernel
theorem dX11_rule_68 : decode cX11_rule 68 = .ok (.iconst 2, 1) := by decide +kernel
theorem dX11_rule_69 : decode cX11_rule 69 = .ok (.iaload, 1) := by decide +kernel
theorem dX11_rule_70 : decode cX11_rule 70 = .ok (.imul, 1) := by decide +kernel
theorem dX11_rule_71 : decode cX11_rule 71 = .ok (.iadd, 1) := by decide +kernel
theorem dX11_rule_72 : decode cX11_rule 72 = .ok (.istore 6, 2) := by decide +kernel
theorem dX11_rule_74 : decode cX11_rule 74 = .ok (.iconst 0, 1) := by decide +kernel
theorem dX11_rule_75 : decode cX11_rule 75 = .ok (.istore 7, 2) := by decide +kernel
theorem dX11_rule_77 : decode cX11_rule 77 = .ok (.iload 7, 2) := by decide +kernel
theorem dX11_rule_79 : decode cX11_rule 79 = .ok (.bipush 11, 2) := by decide +kernel
theorem dX11_rule_81 : decode cX11_rule 81 = .ok (.if_icmp .ge 20, 3) := by decide +kernel
theorem dX11_rule_84 : decode cX11_rule 84 = .ok (.aload_n 0, 1) := by decide +kernel
theorem dX11_rule_85 : decode cX11_rule 85 = .ok (.getfield 7, 3) := by decide +kernel
theorem dX11_rule_88 : decode cX11_rule 88 = .ok (.iload 6, 2) := by decide +kernel
theorem dX11_rule_90 : decode cX11_rule 90 = .ok (.iload 7, 2) := by decide +kernel
theorem dX11_rule_92 : decode cX11_rule 92 = .ok (.iadd, 1) := by decide +kernel
theorem dX11_rule_93 : decode cX11_rule 93 = .ok (.iconst 0, 1) := by decide +kernel
theorem dX11_rule_94 : decode cX11_rule 94 = .ok (.iastore, 1) := by decide +kernel
theorem dX11_rule_95 : decode cX11_rule 95 = .ok (.iinc 7 1, 3) := by decide +kernel
theorem dX11_rule_98 : decode cX11_rule 98 = .ok (.goto (-21), 3) := by decide +kernel
theorem dX11_rule_101 : decode cX11_rule 101 = .ok (.aload_n 0, 1) := by decide +kernel
theorem dX11_rule_102 : decode cX11_rule 102 = .ok (.getfield 7, 3) := by decide +kernel
theorem dX11_rule_105 : decode cX11_rule 105 = .ok (.iload 6, 2) := by decide +kernel
theorem dX11_rule_107 : decode cX11_rule 107 = .ok (.iconst 0, 1) := by decide +kernel
theorem dX11_rule_108 : decode cX11_rule 108 = .ok (.iadd, 1) := by decide +kernel
theorem dX11_rule_109 : decode cX11_rule 109 = .ok (.iload_n 1, 1) := by decide +kernel
theorem dX11_rule_110 : decode cX11_rule 110 = .ok (.iastore, 1) := by decide +kernel
theorem dX11_rule_111 : decode cX11_rule 111 = .ok (.aload_n 0, 1) := by decide +kernel
theorem dX11_rule_112 : decode cX11_rule 112 = .ok (.getfield 7, 3) := by decide +kernel
theorem dX11_rule_115 : decode cX11_rule 115 = .ok (.iload 6, 2) := by decide +kernel
theorem dX11_rule_117 : decode cX11_rule 117 = .ok (.iconst 1, 1) := by decide +kernel
theorem dX11_rule_118 : decode cX11_rule 118 = .ok (.iadd, 1) := by decide +kernel
theorem dX11_rule_119 : decode cX11_rule 119 = .ok (.iload_n 2, 1) := by decide +kernel
theorem dX11_rule_120 : decode cX11_rule 120 = .ok (.iastore, 1) := by decide +kernel
theorem dX11_rule_121 : decode cX11_rule 121 = .ok (.aload_n 0, 1) := by decide +kernel
theorem dX11_rule_122 : decode cX11_rule 122 = .ok (.getfield 7, 3) := by decide +kernel
theorem dX11_rule_125 : decode cX11_rule 125 = .ok (.iload 6, 2) := by decide +kernel
theorem dX11_rule_127 : decode cX11_rule 127 = .ok (.iconst 2, 1) := by decide +kernel
theorem dX11_rule_128 : decode cX11_rule 128 = .ok (.iadd, 1) := by decide +kernel
theorem dX11_rule_129 : decode cX11_rule 129 = .ok (.iload_n 3, 1) := by decide +kernel
theorem dX11_rule_130 : decode cX11_rule 130 = .ok (.iastore, 1) := by decide +kernel
theorem dX11_rule_131 : decode cX11_rule 131 = .ok (.aload_n 0, 1) := by decide +kernel
theorem dX11_rule_132 : decode cX11_rule 132 = .ok (.getfield 7, 3) := by decide +kernel
theorem dX11_rule_135 : decode cX11_rule 135 = .ok (.iload 6, 2) := by decide +kernel
theorem dX11_rule_137 : decode cX11_rule 137 = .ok (.iconst 3, 1) := by decide +kernel
theorem dX11_rule_138 : decode cX11_rule 138 = .ok (.iadd, 1) := by decide +kernel
theorem dX11_rule_139 : decode cX11_rule 139 = .ok (.iload 4, 2) := by decide +kernel
theorem dX11_rule_141 : decode cX11_rule 141 = .ok (.iastore, 1) := by decide +kernel
theorem dX11_rule_142 : decode cX11_rule 142 = .ok (.aload_n 0, 1) := by decide +kernel
theorem dX11_rule_143 : decode cX11_rule 143 = .ok (.getfield 7, 3) := by decide +kernel
theorem dX11_rule_146 : decode cX11_rule 146 = .ok (.iload 6, 2) := by decide +kernel
theorem dX11_rule_148 : decode cX11_rule 148 = .ok (.iconst 4, 1) := by decide +kernel
theorem dX11_rule_149 : decode cX11_rule 149 = .ok (.iadd, 1) := by decide +kernel
theorem dX11_rule_150 : decode cX11_rule 150 = .ok (.iload 5, 2) := by decide +kernel
theorem dX11_rule_152 : decode cX11_rule 152 = .ok (.iastore, 1) := by decide +kernel
theorem dX11_rule_153 : decode cX11_rule 153 = .ok (.aload_n 0, 1) := by decide +kernel
theorem dX11_rule_154 : decode cX11_rule 154 = .ok (.getfield 7, 3) := by decide +kernel
theorem dX11_rule_157 : decode cX11_rule 157 = .ok (.iload 6, 2) := by decide +kernel
theorem dX11_rule_159 : decode cX11_rule 159 = .ok (.iconst 5, 1) := by decide +kernel
theorem dX11_rule_160 : decode cX11_rule 160 = .ok (.iadd, 1) := by decide +kernel
theorem dX11_rule_161 : decode cX11_rule 161 = .ok (.iconst (-1), 1) := by decide +kernel
theorem dX11_rule_162 : decode cX11_rule 162 = .ok (.iastore, 1) := by decide +kernel
theorem dX11_rule_163 : decode cX11_rule 163 = .ok (.aload_n 0, 1) := by decide +kernel
theorem dX11_rule_164 : decode cX11_rule 164 = .ok (.iconst 2, 1) := by decide +kernel
theorem dX11_rule_165 : decode cX11_rule 165 = .ok (.invokevirtual 37, 3) := by decide +kernel
theorem dX11_rule_168 : decode cX11_rule 168 = .ok (.ireturn, 1) := by decide +kernel
theorem dX11_ruleOf_0 : decode cX11_ruleOf 0 = .ok (.aload_n 0, 1) := by decide +kernel
theorem dX11_ruleOf_1 : decode cX11_ruleOf 1 = .ok (.getfield 7, 3) := by decide +kernel
theorem dX11_ruleOf_4 : decode cX11_ruleOf 4 = .ok (.sipush 282, 3) := by decide +kernel
theorem dX11_ruleOf_7 : decode cX11_ruleOf 7 = .ok (.bipush 11, 2) := by decide +kernel
theorem dX11_ruleOf_9 : decode cX11_ruleOf 9 = .ok (.iload_n 1, 1) := by decide +kernel
theorem dX11_ruleOf_10 : decode cX11_ruleOf 10 = .ok (.imul, 1) := by decide +kernel
theorem dX11_ruleOf_11 : decode cX11_ruleOf 11 = .ok (.iadd, 1) := by decide +kernel
theorem dX11_ruleOf_12 : decode cX11_ruleOf 12 = .ok (.iload_n 2, 1) := by decide +kernel
theorem dX11_ruleOf_13 : decode cX11_ruleOf 13 = .ok (.iadd, 1) := by decide +kernel
theorem dX11_ruleOf_14 : decode cX11_ruleOf 14 = .ok (.iaload, 1) := by decide +kernel
theorem dX11_ruleOf_15 : decode cX11_ruleOf 15 = .ok (.ireturn, 1) := by decide +kernel
set_option maxRecDepth 20000 in
theorem ggX11_test_X11_is : GoodIn wsX11_test wsX11_is := goodIn_r _ [6, 1, 7, 8, 5, 9, 17, 18, 19, 20, 21, 22, 23, 24] (by decide +kernel) (by decide +kernel)
set_option maxRecDepth 20000 in
theorem gX11_test_X11_is : GoodIn wsX11_test (wsV RX11 41 RX11 yX11_is wsX11_is) := goodIn_app (goodIn_of _ (by decide +kernel)) ggX11_test_X11_is
set_option maxRecDepth 20000 in
theorem ggX11_test_X11_isTie : GoodIn wsX11_test wsX11_isTie := goodIn_r _ [12, 7, 8, 5, 9] (by decide +kernel) (by decide +kernel)
set_option maxRecDepth 20000 in
theorem gX11_test_X11_isTie : GoodIn wsX11_test (va_wsS RX11 45 yX11_isTie wsX11_isTie) := goodIn_app (goodIn_of _ (by decide +kernel)) ggX11_test_X11_isTie
set_option maxRecDepth 20000 in
theorem ggX11_test_X11_in : GoodIn wsX11_test wsX11_in := goodIn_r _ [9] (by decide +kernel) (by decide +kernel)
set_option maxRecDepth 20000 in
theorem gX11_test_X11_in : GoodIn wsX11_test (va_wsS RX11 29 yX11_in wsX11_in) := goodIn_app (goodIn_of _ (by decide +kernel)) ggX11_test_X11_in
set_option maxRecDepth 20000 in
theorem ggX11_test_X11_ruleOf : GoodIn wsX11_test wsX11_ruleOf := goodIn_r _ [16, 1, 17, 18, 19, 20, 21, 22, 23, 24] (by decide +kernel) (by decide +kernel)
set_option maxRecDepth 20000 in
theorem gX11_test_X11_ruleOf : GoodIn wsX11_test (wsV RX11 62 RX11 yX11_ruleOf wsX11_ruleOf) := goodIn_app (goodIn_of _ (by decide +kernel)) ggX11_test_X11_ruleOf
theorem dX11_test_0 : decode cX11_test 0 = .ok (.aload_n 0, 1) := by decide +kernel
theorem dX11_test_1 : decode cX11_test 1 = .ok (.iconst 2, 1) := by decide +kernel
theorem dX11_test_2 : decode cX11_test 2 = .ok (.iload_n 1, 1) := by decide +kernel
theorem dX11_test_3 : decode cX11_test 3 = .ok (.invokevirtual 41, 3) := by decide +kernel
theorem dX11_test_6 : decode cX11_test 6 = .ok (.ifCond .eq 20, 3) := by decide +kernel
theorem dX11_test_9 : decode cX11_test 9 = .ok (.iload_n 2, 1) := by decide +kernel
theorem dX11_test_10 : decode cX11_test 10 = .ok (.invokestatic 45, 3) := by decide +kernel
theorem dX11_test_13 : decode cX11_test 13 = .ok (.ifCond .eq 13, 3) := by decide +kernel
theorem dX11_test_16 : decode cX11_test 16 = .ok (.iload_n 3, 1) := by decide +kernel
theorem dX11_test_17 : decode cX11_test 17 = .ok (.iconst 0, 1) := by decide +kernel
theorem dX11_test_18 : decode cX11_test 18 = .ok (.bipush 13, 2) := by decide +kernel
theorem dX11_test_20 : decode cX11_test 20 = .ok (.invokestatic 29, 3) := by decide +kernel
theorem dX11_test_23 : decode cX11_test 23 = .ok (.ifCond .ne 6, 3) := by decide +kernel
theorem dX11_test_26 : decode cX11_test 26 = .ok (.bipush (-2), 2) := by decide +kernel
theorem dX11_test_28 : decode cX11_test 28 = .ok (.ireturn, 1) := by decide +kernel
theorem dX11_test_29 : decode cX11_test 29 = .ok (.aload_n 0, 1) := by decide +kernel
theorem dX11_test_30 : decode cX11_test 30 = .ok (.iload_n 1, 1) := by decide +kernel
theorem dX11_test_31 : decode cX11_test 31 = .ok (.bipush 6, 2) := by decide +kernel
theorem dX11_test_33 : decode cX11_test 33 = .ok (.invokevirtual 62, 3) := by decide +kernel
theorem dX11_test_36 : decode cX11_test 36 = .ok (.istore 4, 2) := by decide +kernel
theorem dX11_test_38 : decode cX11_test 38 = .ok (.iload 4, 2) := by decide +kernel
theorem dX11_test_40 : decode cX11_test 40 = .ok (.iconst 2, 1) := by decide +kernel
theorem dX11_test_41 : decode cX11_test 41 = .ok (.if_icmp .ne 6, 3) := by decide +kernel
theorem dX11_test_44 : decode cX11_test 44 = .ok (.bipush (-4), 2) := by decide +kernel
theorem dX11_test_46 : decode cX11_test 46 = .ok (.ireturn, 1) := by decide +kernel
theorem dX11_test_47 : decode cX11_test 47 = .ok (.sipush 282, 3) := by decide +kernel
theorem dX11_test_50 : decode cX11_test 50 = .ok (.bipush 11, 2) := by decide +kernel
theorem dX11_test_52 : decode cX11_test 52 = .ok (.iload_n 1, 1) := by decide +kernel
theorem dX11_test_53 : decode cX11_test 53 = .ok (.imul, 1) := by decide +kernel
theorem dX11_test_54 : decode cX11_test 54 = .ok (.iadd, 1) := by decide +kernel
theorem dX11_test_55 : decode cX11_test 55 = .ok (.istore 5, 2) := by decide +kernel
theorem dX11_test_57 : decode cX11_test 57 = .ok (.aload_n 0, 1) := by decide +kernel
theorem dX11_test_58 : decode cX11_test 58 = .ok (.getfield 7, 3) := by decide +kernel
theorem dX11_test_61 : decode cX11_test 61 = .ok (.iload 5, 2) := by decide +kernel
theorem dX11_test_63 : decode cX11_test 63 = .ok (.bipush 6, 2) := by decide +kernel
theorem dX11_test_65 : decode cX11_test 65 = .ok (.iadd, 1) := by decide +kernel
theorem dX11_test_66 : decode cX11_test 66 = .ok (.iconst 1, 1) := by decide +kernel
theorem dX11_test_67 : decode cX11_test 67 = .ok (.iadd, 1) := by decide +kernel
theorem dX11_test_68 : decode cX11_test 68 = .ok (.iconst 2, 1) := by decide +kernel
theorem dX11_test_69 : decode cX11_test 69 = .ok (.iload 4, 2) := by decide +kernel
theorem dX11_test_71 : decode cX11_test 71 = .ok (.imul, 1) := by decide +kernel
theorem dX11_test_72 : decode cX11_test 72 = .ok (.iadd, 1) := by decide +kernel
theorem dX11_test_73 : decode cX11_test 73 = .ok (.iload_n 2, 1) := by decide +kernel
theorem dX11_test_74 : decode cX11_test 74 = .ok (.iastore, 1) := by decide +kernel
theorem dX11_test_75 : decode cX11_test 75 = .ok (.aload_n 0, 1) := by decide +kernel
theorem dX11_test_76 : decode cX11_test 76 = .ok (.getfield 7, 3) := by decide +kernel
theorem dX11_test_79 : decode cX11_test 79 = .ok (.iload 5, 2) := by decide +kernel
theorem dX11_test_81 : decode cX11_test 81 = .ok (.bipush 6, 2) := by decide +kernel
theorem dX11_test_83 : decode cX11_test 83 = .ok (.iadd, 1) := by decide +kernel
theorem dX11_test_84 : decode cX11_test 84 = .ok (.iconst 2, 1) := by decide +kernel
theorem dX11_test_85 : decode cX11_test 85 = .ok (.iadd, 1) := by decide +kernel
theorem dX11_test_86 : decode cX11_test 86 = .ok (.iconst 2, 1) := by decide +kernel
theorem dX11_test_87 : decode cX11_test 87 = .ok (.iload 4, 2) := by decide +kernel
theorem dX11_test_89 : decode cX11_test 89 = .ok (.imul, 1) := by decide +kernel
theorem dX11_test_90 : decode cX11_test 90 = .ok (.iadd, 1) := by decide +kernel
theorem dX11_test_91 : decode cX11_test 91 = .ok (.iload_n 3, 1) := by decide +kernel
theorem dX11_test_92 : decode cX11_test 92 = .ok (.iastore, 1) := by decide +kernel
theorem dX11_test_93 : decode cX11_test 93 = .ok (.aload_n 0, 1) := by decide +kernel
theorem dX11_test_94 : decode cX11_test 94 = .ok (.getfield 7, 3) := by decide +kernel
theorem dX11_test_97 : decode cX11_test 97 = .ok (.iload 5, 2) := by decide +kernel
theorem dX11_test_99 : decode cX11_test 99 = .ok (.bipush 6, 2) := by decide +kernel
theorem dX11_test_101 : decode cX11_test 101 = .ok (.iadd, 1) := by decide +kernel
theorem dX11_test_102 : decode cX11_test 102 = .ok (.dup2, 1) := by decide +kernel
theorem dX11_test_103 : decode cX11_test 103 = .ok (.iaload, 1) := by decide +kernel
theorem dX11_test_104 : decode cX11_test 104 = .ok (.iconst 1, 1) := by decide +kernel
theorem dX11_test_105 : decode cX11_test 105 = .ok (.iadd, 1) := by decide +kernel
theorem dX11_test_106 : decode cX11_test 106 = .ok (.iastore, 1) := by decide +kernel
theorem dX11_test_107 : decode cX11_test 107 = .ok (.iload 4, 2) := by decide +kernel
theorem dX11_test_109 : decode cX11_test 109 = .ok (.iconst 1, 1) := by decide +kernel
theorem dX11_test_110 : decode cX11_test 110 = .ok (.iadd, 1) := by decide +kernel
theorem dX11_test_111 : decode cX11_test 111 = .ok (.ireturn, 1) := by decide +kernel
set_option maxRecDepth 20000 in
theorem ggX11_strike_X11_is : GoodIn wsX11_strike wsX11_is := goodIn_r _ [6, 1, 7, 8, 5, 9, 17, 18, 19, 20, 21, 22, 23, 24] (by decide +kernel) (by decide +kernel)
set_option maxRecDepth 20000 in
theorem gX11_strike_X11_is : GoodIn wsX11_strike (wsV RX11 41 RX11 yX11_is wsX11_is) := goodIn_app (goodIn_of _ (by decide +kernel)) ggX11_strike_X11_is
set_option maxRecDepth 20000 in
theorem ggX11_strike_X11_isDay : GoodIn wsX11_strike wsX11_isDay := goodIn_r _ [12, 7, 8, 5, 9] (by decide +kernel) (by decide +kernel)
set_option maxRecDepth 20000 in
theorem gX11_strike_X11_isDay : GoodIn wsX11_strike (va_wsS RX11 33 yX11_isDay wsX11_isDay) := goodIn_app (goodIn_of _ (by decide +kernel)) ggX11_strike_X11_isDay
set_option maxRecDepth 20000 in
theorem ggX11_strike_X11_ruleOf : GoodIn wsX11_strike wsX11_ruleOf := goodIn_r _ [16, 1, 17, 18, 19, 20, 21, 22, 23, 24] (by decide +kernel) (by decide +kernel)
set_option maxRecDepth 20000 in
theorem gX11_strike_X11_ruleOf : GoodIn wsX11_strike (wsV RX11 62 RX11 yX11_ruleOf wsX11_ruleOf) := goodIn_app (goodIn_of _ (by decide +kernel)) ggX11_strike_X11_ruleOf
theorem dX11_strike_0 : decode cX11_strike 0 = .ok (.aload_n 0, 1) := by decide +kernel
theorem dX11_strike_1 : decode cX11_strike 1 = .ok (.iconst 2, 1) := by decide +kernel
theorem dX11_strike_2 : decode cX11_strike 2 = .ok (.iload_n 1, 1) := by decide +kernel
theorem dX11_strike_3 : decode cX11_strike 3 = .ok (.invokevirtual 41, 3) := by decide +kernel
theorem dX11_strike_6 : decode cX11_strike 6 = .ok (.ifCond .eq 10, 3) := by decide +kernel
theorem dX11_strike_9 : decode cX11_strike 9 = .ok (.iload_n 2, 1) := by decide +kernel
theorem dX11_strike_10 : decode cX11_strike 10 = .ok (.invokestatic 33, 3) := by decide +kernel
theorem dX11_strike_13 : decode cX11_strike 13 = .ok (.ifCond .ne 6, 3) := by decide +kernel
theorem dX11_strike_16 : decode cX11_strike 16 = .ok (.bipush (-2), 2) := by decide +kernel
theorem dX11_strike_18 : decode cX11_strike 18 = .ok (.ireturn, 1) := by decide +kernel
theorem dX11_strike_19 : decode cX11_strike 19 = .ok (.aload_n 0, 1) := by decide +kernel
theorem dX11_strike_20 : decode cX11_strike 20 = .ok (.iload_n 1, 1) := by decide +kernel
theorem dX11_strike_21 : decode cX11_strike 21 = .ok (.iconst 5, 1) := by decide +kernel
theorem dX11_strike_22 : decode cX11_strike 22 = .ok (.invokevirtual 62, 3) := by decide +kernel
theorem dX11_strike_25 : decode cX11_strike 25 = .ok (.iconst (-1), 1) := by decide +kernel
theorem dX11_strike_26 : decode cX11_strike 26 = .ok (.if_icmp .eq 6, 3) := by decide +kernel
theorem dX11_strike_29 : decode cX11_strike 29 = .ok (.bipush (-3), 2) := by decide +kernel
theorem dX11_strike_31 : decode cX11_strike 31 = .ok (.ireturn, 1) := by decide +kernel
theorem dX11_strike_32 : decode cX11_strike 32 = .ok (.aload_n 0, 1) := by decide +kernel
theorem dX11_strike_33 : decode cX11_strike 33 = .ok (.getfield 7, 3) := by decide +kernel
theorem dX11_strike_36 : decode cX11_strike 36 = .ok (.sipush 282, 3) := by decide +kernel
theorem dX11_strike_39 : decode cX11_strike 39 = .ok (.bipush 11, 2) := by decide +kernel
theorem dX11_strike_41 : decode cX11_strike 41 = .ok (.iload_n 1, 1) := by decide +kernel
theorem dX11_strike_42 : decode cX11_strike 42 = .ok (.imul, 1) := by decide +kernel
theorem dX11_strike_43 : decode cX11_strike 43 = .ok (.iadd, 1) := by decide +kernel
theorem dX11_strike_44 : decode cX11_strike 44 = .ok (.iconst 5, 1) := by decide +kernel
theorem dX11_strike_45 : decode cX11_strike 45 = .ok (.iadd, 1) := by decide +kernel
theorem dX11_strike_46 : decode cX11_strike 46 = .ok (.iload_n 2, 1) := by decide +kernel
theorem dX11_strike_47 : decode cX11_strike 47 = .ok (.iastore, 1) := by decide +kernel
theorem dX11_strike_48 : decode cX11_strike 48 = .ok (.iconst 1, 1) := by decide +kernel
theorem dX11_strike_49 : decode cX11_strike 49 = .ok (.ireturn, 1) := by decide +kernel
set_option maxRecDepth 20000 in
theorem ggX11_sort_X11_isLand : GoodIn wsX11_sort wsX11_isLand := goodIn_r _ [4, 5, 6, 3, 7] (by decide +kernel) (by decide +kernel)
set_option maxRecDepth 20000 in
theorem gX11_sort_X11_isLand : GoodIn wsX11_sort (va_wsS RX11 56 yX11_isLand wsX11_isLand) := goodIn_app (goodIn_of _ (by decide +kernel)) ggX11_sort_X11_isLand
set_option maxRecDepth 20000 in
theorem ggX11_sort_X11_isKind : GoodIn wsX11_sort wsX11_isKind := goodIn_r _ [10, 5, 6, 3, 7] (by decide +kernel) (by decide +kernel)
set_option maxRecDepth 20000 in
theorem gX11_sort_X11_isKind : GoodIn wsX11_sort (va_wsS RX11 59 yX11_isKind wsX11_isKind) := goodIn_app (goodIn_of _ (by decide +kernel)) ggX11_sort_X11_isKind
set_option maxRecDepth 20000 in
theorem ggX11_sort_X11_puts : GoodIn wsX11_sort wsX11_puts := goodIn_r _ [14, 15, 16, 17, 18, 19, 20, 21, 22, 23] (by decide +kernel) (by decide +kernel)
set_option maxRecDepth 20000 in
theorem gX11_sort_X11_puts : GoodIn wsX11_sort (wsV RX11 66 RX11 yX11_puts wsX11_puts) := goodIn_app (goodIn_of _ (by decide +kernel)) ggX11_sort_X11_puts
theorem dX11_sort_0 : decode cX11_sort 0 = .ok (.iload_n 1, 1) := by decide +kernel
theorem dX11_sort_1 : decode cX11_sort 1 = .ok (.invokestatic 56, 3) := by decide +kernel
theorem dX11_sort_4 : decode cX11_sort 4 = .ok (.ifCond .eq 34, 3) := by decide +kernel
theorem dX11_sort_7 : decode cX11_sort 7 = .ok (.iload_n 2, 1) := by decide +kernel
theorem dX11_sort_8 : decode cX11_sort 8 = .ok (.invokestatic 59, 3) := by decide +kernel
theorem dX11_sort_11 : decode cX11_sort 11 = .ok (.ifCond .eq 27, 3) := by decide +kernel
theorem dX11_sort_14 : decode cX11_sort 14 = .ok (.iload_n 3, 1) := by decide +kernel
theorem dX11_sort_15 : decode cX11_sort 15 = .ok (.invokestatic 59, 3) := by decide +kernel
theorem dX11_sort_18 : decode cX11_sort 18 = .ok (.ifCond .eq 20, 3) := by decide +kernel
theorem dX11_sort_21 : decode cX11_sort 21 = .ok (.aload_n 0, 1) := by decide +kernel
theorem dX11_sort_22 : decode cX11_sort 22 = .ok (.sipush 942, 3) := by decide +kernel
theorem dX11_sort_25 : decode cX11_sort 25 = .ok (.iconst 3, 1) := by decide +kernel
theorem dX11_sort_26 : decode cX11_sort 26 = .ok (.iload_n 1, 1) := by decide +kernel
theorem dX11_sort_27 : decode cX11_sort 27 = .ok (.imul, 1) := by decide +kernel
theorem dX11_sort_28 : decode cX11_sort 28 = .ok (.iadd, 1) := by decide +kernel
theorem dX11_sort_29 : decode cX11_sort 29 = .ok (.iload_n 2, 1) := by decide +kernel
theorem dX11_sort_30 : decode cX11_sort 30 = .ok (.iadd, 1) := by decide +kernel
theorem dX11_sort_31 : decode cX11_sort 31 = .ok (.iload_n 3, 1) := by decide +kernel
theorem dX11_sort_32 : decode cX11_sort 32 = .ok (.invokevirtual 66, 3) := by decide +kernel
theorem dX11_sort_35 : decode cX11_sort 35 = .ok (.goto 5, 3) := by decide +kernel
theorem dX11_sort_38 : decode cX11_sort 38 = .ok (.bipush (-2), 2) := by decide +kernel
theorem dX11_sort_40 : decode cX11_sort 40 = .ok (.ireturn, 1) := by decide +kernel
set_option maxRecDepth 20000 in
theorem ggX11_way_X11_isLand : GoodIn wsX11_way wsX11_isLand := goodIn_r _ [4, 5, 6, 3, 7] (by decide +kernel) (by decide +kernel)
set_option maxRecDepth 20000 in
theorem gX11_way_X11_isLand : GoodIn wsX11_way (va_wsS RX11 56 yX11_isLand wsX11_isLand) := goodIn_app (goodIn_of _ (by decide +kernel)) ggX11_way_X11_isLand
set_option maxRecDepth 20000 in
theorem ggX11_way_X11_in : GoodIn wsX11_way wsX11_in := goodIn_r _ [7] (by decide +kernel) (by decide +kernel)
set_option maxRecDepth 20000 in
theorem gX11_way_X11_in : GoodIn wsX11_way (va_wsS RX11 29 yX11_in wsX11_in) := goodIn_app (goodIn_of _ (by decide +kernel)) ggX11_way_X11_in
set_option maxRecDepth 20000 in
theorem ggX11_way_X11_puts : GoodIn wsX11_way wsX11_puts := goodIn_r _ [11, 12, 13, 14, 15, 16, 17, 18, 19, 20] (by decide +kernel) (by decide +kernel)
set_option maxRecDepth 20000 in
theorem gX11_way_X11_puts : GoodIn wsX11_way (wsV RX11 66 RX11 yX11_puts wsX11_puts) := goodIn_app (goodIn_of _ (by decide +kernel)) ggX11_way_X11_puts
theorem dX11_way_0 : decode cX11_way 0 = .ok (.iload_n 1, 1) := by decide +kernel
theorem dX11_way_1 : decode cX11_way 1 = .ok (.invokestatic 56, 3) := by decide +kernel
theorem dX11_way_4 : decode cX11_way 4 = .ok (.ifCond .eq 25, 3) := by decide +kernel
theorem dX11_way_7 : decode cX11_way 7 = .ok (.iload_n 2, 1) := by decide +kernel
theorem dX11_way_8 : decode cX11_way 8 = .ok (.iconst 0, 1) := by decide +kernel
theorem dX11_way_9 : decode cX11_way 9 = .ok (.iconst 3, 1) := by decide +kernel
theorem dX11_way_10 : decode cX11_way 10 = .ok (.invokestatic 29, 3) := by decide +kernel
theorem dX11_way_13 : decode cX11_way 13 = .ok (.ifCond .eq 16, 3) := by decide +kernel
theorem dX11_way_16 : decode cX11_way 16 = .ok (.aload_n 0, 1) := by decide +kernel
theorem dX11_way_17 : decode cX11_way 17 = .ok (.sipush 954, 3) := by decide +kernel
theorem dX11_way_20 : decode cX11_way 20 = .ok (.iload_n 1, 1) := by decide +kernel
theorem dX11_way_21 : decode cX11_way 21 = .ok (.iadd, 1) := by decide +kernel
theorem dX11_way_22 : decode cX11_way 22 = .ok (.iload_n 2, 1) := by decide +kernel
theorem dX11_way_23 : decode cX11_way 23 = .ok (.invokevirtual 66, 3) := by decide +kernel
theorem dX11_way_26 : decode cX11_way 26 = .ok (.goto 5, 3) := by decide +kernel
theorem dX11_way_29 : decode cX11_way 29 = .ok (.bipush (-2), 2) := by decide +kernel
theorem dX11_way_31 : decode cX11_way 31 = .ok (.ireturn, 1) := by decide +kernel
set_option maxRecDepth 20000 in
theorem ggX11_treaty_X11_isKind : GoodIn wsX11_treaty wsX11_isKind := goodIn_r _ [5, 6, 7, 4, 8] (by decide +kernel) (by decide +kernel)
set_option maxRecDepth 20000 in
theorem gX11_treaty_X11_isKind : GoodIn wsX11_treaty (va_wsS RX11 59 yX11_isKind wsX11_isKind) := goodIn_app (goodIn_of _ (by decide +kernel)) ggX11_treaty_X11_isKind
set_option maxRecDepth 20000 in
theorem ggX11_treaty_X11_in : GoodIn wsX11_treaty wsX11_in := goodIn_r _ [8] (by decide +kernel) (by decide +kernel)
set_option maxRecDepth 20000 in
theorem gX11_treaty_X11_in : GoodIn wsX11_treaty (va_wsS RX11 29 yX11_in wsX11_in) := goodIn_app (goodIn_of _ (by decide +kernel)) ggX11_treaty_X11_in
set_option maxRecDepth 20000 in
theorem ggX11_treaty_X11_isTie : GoodIn wsX11_treaty wsX11_isTie := goodIn_r _ [11, 6, 7, 4, 8] (by decide +kernel) (by decide +kernel)
set_option maxRecDepth 20000 in
theorem gX11_treaty_X11_isTie : GoodIn wsX11_treaty (va_wsS RX11 45 yX11_isTie wsX11_isTie) := goodIn_app (goodIn_of _ (by decide +kernel)) ggX11_treaty_X11_isTie
set_option maxRecDepth 20000 in
theorem ggX11_treaty_X11_one : GoodIn wsX11_treaty wsX11_one := goodIn_r _ [15, 1, 16, 17, 18, 19, 20, 21, 22, 23] (by decide +kernel) (by decide +kernel)
set_option maxRecDepth 20000 in
theorem gX11_treaty_X11_one : GoodIn wsX11_treaty (wsV RX11 37 RX11 yX11_one wsX11_one) := goodIn_app (goodIn_of _ (by decide +kernel)) ggX11_treaty_X11_one
theorem dX11_treaty_0 : decode cX11_treaty 0 = .ok (.iload_n 1, 1) := by decide +kernel
theorem dX11_treaty_1 : decode cX11_treaty 1 = .ok (.invokestatic 59, 3) := by decide +kernel
theorem dX11_treaty_4 : decode cX11_treaty 4 = .ok (.ifCond .eq 20, 3) := by decide +kernel
theorem dX11_treaty_7 : decode cX11_treaty 7 = .ok (.iload_n 2, 1) := by decide +kernel
theorem dX11_treaty_8 : decode cX11_treaty 8 = .ok (.iconst 0, 1) := by decide +kernel
theorem dX11_treaty_9 : decode cX11_treaty 9 = .ok (.bipush 15, 2) := by decide +kernel
theorem dX11_treaty_11 : decode cX11_treaty 11 = .ok (.invokestatic 29, 3) := by decide +kernel
theorem dX11_treaty_14 : decode cX11_treaty 14 = .ok (.ifCond .eq 10, 3) := by decide +kernel
theorem dX11_treaty_17 : decode cX11_treaty 17 = .ok (.iload_n 3, 1) := by decide +kernel
theorem dX11_treaty_18 : decode cX11_treaty 18 = .ok (.invokestatic 45, 3) := by decide +kernel
theorem dX11_treaty_21 : decode cX11_treaty 21 = .ok (.ifCond .ne 6, 3) := by decide +kernel
theorem dX11_treaty_24 : decode cX11_treaty 24 = .ok (.bipush (-2), 2) := by decide +kernel
theorem dX11_treaty_26 : decode cX11_treaty 26 = .ok (.ireturn, 1) := by decide +kernel
theorem dX11_treaty_27 : decode cX11_treaty 27 = .ok (.aload_n 0, 1) := by decide +kernel
theorem dX11_treaty_28 : decode cX11_treaty 28 = .ok (.getfield 7, 3) := by decide +kernel
theorem dX11_treaty_31 : decode cX11_treaty 31 = .ok (.iconst 3, 1) := by decide +kernel
theorem dX11_treaty_32 : decode cX11_treaty 32 = .ok (.iaload, 1) := by decide +kernel
theorem dX11_treaty_33 : decode cX11_treaty 33 = .ok (.bipush 8, 2) := by decide +kernel
theorem dX11_treaty_35 : decode cX11_treaty 35 = .ok (.if_icmp .ne 6, 3) := by decide +kernel
theorem dX11_treaty_38 : decode cX11_treaty 38 = .ok (.bipush (-4), 2) := by decide +kernel
theorem dX11_treaty_40 : decode cX11_treaty 40 = .ok (.ireturn, 1) := by decide +kernel
theorem dX11_treaty_41 : decode cX11_treaty 41 = .ok (.sipush 958, 3) := by decide +kernel
theorem dX11_treaty_44 : decode cX11_treaty 44 = .ok (.iconst 3, 1) := by decide +kernel
theorem dX11_treaty_45 : decode cX11_treaty 45 = .ok (.aload_n 0, 1) := by decide +kernel
theorem dX11_treaty_46 : decode cX11_treaty 46 = .ok (.getfield 7, 3) := by decide +kernel
theorem dX11_treaty_49 : decode cX11_treaty 49 = .ok (.iconst 3, 1) := by decide +kernel
theorem dX11_treaty_50 : decode cX11_treaty 50 = .ok (.iaload, 1) := by decide +kernel
theorem dX11_treaty_51 : decode cX11_treaty 51 = .ok (.imul, 1) := by decide +kernel
theorem dX11_treaty_52 : decode cX11_treaty 52 = .ok (.iadd, 1) := by decide +kernel
theorem dX11_treaty_53 : decode cX11_treaty 53 = .ok (.istore 4, 2) := by decide +kernel
theorem dX11_treaty_55 : decode cX11_treaty 55 = .ok (.aload_n 0, 1) := by decide +kernel
theorem dX11_treaty_56 : decode cX11_treaty 56 = .ok (.getfield 7, 3) := by decide +kernel
theorem dX11_treaty_59 : decode cX11_treaty 59 = .ok (.iload 4, 2) := by decide +kernel
theorem dX11_treaty_61 : decode cX11_treaty 61 = .ok (.iload_n 1, 1) := by decide +kernel
theorem dX11_treaty_62 : decode cX11_treaty 62 = .ok (.iastore, 1) := by decide +kernel
theorem dX11_treaty_63 : decode cX11_treaty 63 = .ok (.aload_n 0, 1) := by decide +kernel
theorem dX11_treaty_64 : decode cX11_treaty 64 = .ok (.getfield 7, 3) := by decide +kernel
theorem dX11_treaty_67 : decode cX11_treaty 67 = .ok (.iload 4, 2) := by decide +kernel
theorem dX11_treaty_69 : decode cX11_treaty 69 = .ok (.iconst 1, 1) := by decide +kernel
theorem dX11_treaty_70 : decode cX11_treaty 70 = .ok (.iadd, 1) := by decide +kernel
theorem dX11_treaty_71 : decode cX11_treaty 71 = .ok (.iload_n 2, 1) := by decide +kernel
theorem dX11_treaty_72 : decode cX11_treaty 72 = .ok (.iastore, 1) := by decide +kernel
theorem dX11_treaty_73 : decode cX11_treaty 73 = .ok (.aload_n 0, 1) := by decide +kernel
theorem dX11_treaty_74 : decode cX11_treaty 74 = .ok (.getfield 7, 3) := by decide +kernel
theorem dX11_treaty_77 : decode cX11_treaty 77 = .ok (.iload 4, 2) := by decide +kernel
theorem dX11_treaty_79 : decode cX11_treaty 79 = .ok (.iconst 2, 1) := by decide +kernel
theorem dX11_treaty_80 : decode cX11_treaty 80 = .ok (.iadd, 1) := by decide +kernel
theorem dX11_treaty_81 : decode cX11_treaty 81 = .ok (.iload_n 3, 1) := by decide +kernel
theorem dX11_treaty_82 : decode cX11_treaty 82 = .ok (.iastore, 1) := by decide +kernel
theorem dX11_treaty_83 : decode cX11_treaty 83 = .ok (.aload_n 0, 1) := by decide +kernel
theorem dX11_treaty_84 : decode cX11_treaty 84 = .ok (.iconst 3, 1) := by decide +kernel
theorem dX11_treaty_85 : decode cX11_treaty 85 = .ok (.invokevirtual 37, 3) := by decide +kernel
theorem dX11_treaty_88 : decode cX11_treaty 88 = .ok (.ireturn, 1) := by decide +kernel
set_option maxRecDepth 20000 in
theorem ggX11_stands_X11_ruleOf : GoodIn wsX11_stands wsX11_ruleOf := goodIn_r _ [6, 7, 8, 9, 10, 11, 12, 13, 14, 15] (by decide +kernel) (by decide +kernel)
set_option maxRecDepth 20000 in
theorem gX11_stands_X11_ruleOf : GoodIn wsX11_stands (wsV RX11 62 RX11 yX11_ruleOf wsX11_ruleOf) := goodIn_app (goodIn_of _ (by decide +kernel)) ggX11_stands_X11_ruleOf
theorem dX11_stands_0 : decode cX11_stands 0 = .ok (.aload_n 0, 1) := by decide +kernel
theorem dX11_stands_1 : decode cX11_stands 1 = .ok (.iload_n 1, 1) := by decide +kernel
theorem dX11_stands_2 : decode cX11_stands 2 = .ok (.iconst 4, 1) := by decide +kernel
theorem dX11_stands_3 : decode cX11_stands 3 = .ok (.invokevirtual 62, 3) := by decide +kernel
theorem dX11_stands_6 : decode cX11_stands 6 = .ok (.aload_n 0, 1) := by decide +kernel
theorem dX11_stands_7 : decode cX11_stands 7 = .ok (.getfield 48, 3) := by decide +kernel
theorem dX11_stands_10 : decode cX11_stands 10 = .ok (.if_icmp .gt 30, 3) := by decide +kernel
theorem dX11_stands_13 : decode cX11_stands 13 = .ok (.aload_n 0, 1) := by decide +kernel
theorem dX11_stands_14 : decode cX11_stands 14 = .ok (.iload_n 1, 1) := by decide +kernel
theorem dX11_stands_15 : decode cX11_stands 15 = .ok (.iconst 5, 1) := by decide +kernel
theorem dX11_stands_16 : decode cX11_stands 16 = .ok (.invokevirtual 62, 3) := by decide +kernel
theorem dX11_stands_19 : decode cX11_stands 19 = .ok (.iconst (-1), 1) := by decide +kernel
theorem dX11_stands_20 : decode cX11_stands 20 = .ok (.if_icmp .eq 16, 3) := by decide +kernel
theorem dX11_stands_23 : decode cX11_stands 23 = .ok (.aload_n 0, 1) := by decide +kernel
theorem dX11_stands_24 : decode cX11_stands 24 = .ok (.getfield 48, 3) := by decide +kernel
theorem dX11_stands_27 : decode cX11_stands 27 = .ok (.aload_n 0, 1) := by decide +kernel
theorem dX11_stands_28 : decode cX11_stands 28 = .ok (.iload_n 1, 1) := by decide +kernel
theorem dX11_stands_29 : decode cX11_stands 29 = .ok (.iconst 5, 1) := by decide +kernel
theorem dX11_stands_30 : decode cX11_stands 30 = .ok (.invokevirtual 62, 3) := by decide +kernel
theorem dX11_stands_33 : decode cX11_stands 33 = .ok (.if_icmp .ge 7, 3) := by decide +kernel
theorem dX11_stands_36 : decode cX11_stands 36 = .ok (.iconst 1, 1) := by decide +kernel
theorem dX11_stands_37 : decode cX11_stands 37 = .ok (.goto 4, 3) := by decide +kernel
theorem dX11_stands_40 : decode cX11_stands 40 = .ok (.iconst 0, 1) := by decide +kernel
theorem dX11_stands_41 : decode cX11_stands 41 = .ok (.ireturn, 1) := by decide +kernel
theorem dX11_isSo_0 : decode cX11_isSo 0 = .ok (.aload_n 0, 1) := by decide +kernel
theorem dX11_isSo_1 : decode cX11_isSo 1 = .ok (.getfield 13, 3) := by decide +kernel
theorem dX11_isSo_4 : decode cX11_isSo 4 = .ok (.iload_n 2, 1) := by decide +kernel
theorem dX11_isSo_5 : decode cX11_isSo 5 = .ok (.iaload, 1) := by decide +kernel
theorem dX11_isSo_6 : decode cX11_isSo 6 = .ok (.istore 4, 2) := by decide +kernel
theorem dX11_isSo_8 : decode cX11_isSo 8 = .ok (.iload_n 3, 1) := by decide +kernel
theorem dX11_isSo_9 : decode cX11_isSo 9 = .ok (.iconst 4, 1) := by decide +kernel
theorem dX11_isSo_10 : decode cX11_isSo 10 = .ok (.if_icmp .ge 77, 3) := by decide +kernel
theorem dX11_isSo_13 : decode cX11_isSo 13 = .ok (.iload_n 3, 1) := by decide +kernel
theorem dX11_isSo_14 : decode cX11_isSo 14 = .ok (.ifCond .ne 17, 3) := by decide +kernel
theorem dX11_isSo_17 : decode cX11_isSo 17 = .ok (.iload 4, 2) := by decide +kernel
theorem dX11_isSo_19 : decode cX11_isSo 19 = .ok (.iconst (-1), 1) := by decide +kernel
theorem dX11_isSo_20 : decode cX11_isSo 20 = .ok (.if_icmp .eq 7, 3) := by decide +kernel
theorem dX11_isSo_23 : decode cX11_isSo 23 = .ok (.iconst 1, 1) := by decide +kernel
theorem dX11_isSo_24 : decode cX11_isSo 24 = .ok (.goto 62, 3) := by decide +kernel
theorem dX11_isSo_27 : decode cX11_isSo 27 = .ok (.iconst 0, 1) := by decide +kernel
theorem dX11_isSo_28 : decode cX11_isSo 28 = .ok (.goto 58, 3) := by decide +kernel
theorem dX11_isSo_31 : decode cX11_isSo 31 = .ok (.iload_n 3, 1) := by decide +kernel
theorem dX11_isSo_32 : decode cX11_isSo 32 = .ok (.iconst 1, 1) := by decide +kernel
theorem dX11_isSo_33 : decode cX11_isSo 33 = .ok (.if_icmp .ne 17, 3) := by decide +kernel
theorem dX11_isSo_36 : decode cX11_isSo 36 = .ok (.iload 4, 2) := by decide +kernel
theorem dX11_isSo_38 : decode cX11_isSo 38 = .ok (.iconst (-1), 1) := by decide +kernel
theorem dX11_isSo_39 : decode cX11_isSo 39 = .ok (.if_icmp .ne 7, 3) := by decide +kernel
theorem dX11_isSo_42 : decode cX11_isSo 42 = .ok (.iconst 1, 1) := by decide +kernel
theorem dX11_isSo_43 : decode cX11_isSo 43 = .ok (.goto 43, 3) := by decide +kernel
theorem dX11_isSo_46 : decode cX11_isSo 46 = .ok (.iconst 0, 1) := by decide +kernel
theorem dX11_isSo_47 : decode cX11_isSo 47 = .ok (.goto 39, 3) := by decide +kernel
theorem dX11_isSo_50 : decode cX11_isSo 50 = .ok (.iload_n 3, 1) := by decide +kernel
theorem dX11_isSo_51 : decode cX11_isSo 51 = .ok (.iconst 2, 1) := by decide +kernel
theorem dX11_isSo_52 : decode cX11_isSo 52 = .ok (.if_icmp .ne 17, 3) := by decide +kernel
theorem dX11_isSo_55 : decode cX11_isSo 55 = .ok (.iload 4, 2) := by decide +kernel
theorem dX11_isSo_57 : decode cX11_isSo 57 = .ok (.iload_n 1, 1) := by decide +kernel
theorem dX11_isSo_58 : decode cX11_isSo 58 = .ok (.if_icmp .ne 7, 3) := by decide +kernel
theorem dX11_isSo_61 : decode cX11_isSo 61 = .ok (.iconst 1, 1) := by decide +kernel
theorem dX11_isSo_62 : decode cX11_isSo 62 = .ok (.goto 24, 3) := by decide +kernel
theorem dX11_isSo_65 : decode cX11_isSo 65 = .ok (.iconst 0, 1) := by decide +kernel
theorem dX11_isSo_66 : decode cX11_isSo 66 = .ok (.goto 20, 3) := by decide +kernel
theorem dX11_isSo_69 : decode cX11_isSo 69 = .ok (.iload 4, 2) := by decide +kernel
theorem dX11_isSo_71 : decode cX11_isSo 71 = .ok (.iconst (-1), 1) := by decide +kernel
theorem dX11_isSo_72 : decode cX11_isSo 72 = .ok (.if_icmp .eq 13, 3) := by decide +kernel
theorem dX11_isSo_75 : decode cX11_isSo 75 = .ok (.iload 4, 2) := by decide +kernel
theorem dX11_isSo_77 : decode cX11_isSo 77 = .ok (.iload_n 1, 1) := by decide +kernel
theorem dX11_isSo_78 : decode cX11_isSo 78 = .ok (.if_icmp .eq 7, 3) := by decide +kernel
theorem dX11_isSo_81 : decode cX11_isSo 81 = .ok (.iconst 1, 1) := by decide +kernel
theorem dX11_isSo_82 : decode cX11_isSo 82 = .ok (.goto 4, 3) := by decide +kernel
theorem dX11_isSo_85 : decode cX11_isSo 85 = .ok (.iconst 0, 1) := by decide +kernel
theorem dX11_isSo_86 : decode cX11_isSo 86 = .ok (.ireturn, 1) := by decide +kernel
theorem dX11_isSo_87 : decode cX11_isSo 87 = .ok (.iload_n 3, 1) := by decide +kernel
theorem dX11_isSo_88 : decode cX11_isSo 88 = .ok (.bipush 8, 2) := by decide +kernel
theorem dX11_isSo_90 : decode cX11_isSo 90 = .ok (.if_icmp .ge 19, 3) := by decide +kernel
theorem dX11_isSo_93 : decode cX11_isSo 93 = .ok (.iload 4, 2) := by decide +kernel
theorem dX11_isSo_95 : decode cX11_isSo 95 = .ok (.iload_n 3, 1) := by decide +kernel
theorem dX11_isSo_96 : decode cX11_isSo 96 = .ok (.iconst 4, 1) := by decide +kernel
theorem dX11_isSo_97 : decode cX11_isSo 97 = .ok (.isub, 1) := by decide +kernel
theorem dX11_isSo_98 : decode cX11_isSo 98 = .ok (.if_icmp .ne 7, 3) := by decide +kernel
theorem dX11_isSo_101 : decode cX11_isSo 101 = .ok (.iconst 1, 1) := by decide +kernel
theorem dX11_isSo_102 : decode cX11_isSo 102 = .ok (.goto 32, 3) := by decide +kernel
theorem dX11_isSo_105 : decode cX11_isSo 105 = .ok (.iconst 0, 1) := by decide +kernel
theorem dX11_isSo_106 : decode cX11_isSo 106 = .ok (.goto 28, 3) := by decide +kernel
theorem dX11_isSo_109 : decode cX11_isSo 109 = .ok (.iload 4, 2) := by decide +kernel
theorem dX11_isSo_111 : decode cX11_isSo 111 = .ok (.iconst (-1), 1) := by decide +kernel
theorem dX11_isSo_112 : decode cX11_isSo 112 = .ok (.if_icmp .eq 21, 3) := by decide +kernel
theorem dX11_isSo_115 : decode cX11_isSo 115 = .ok (.iload 4, 2) := by decide +kernel
theorem dX11_isSo_117 : decode cX11_isSo 117 = .ok (.aload_n 0, 1) := by decide +kernel
theorem dX11_isSo_118 : decode cX11_isSo 118 = .ok (.getfield 13, 3) := by decide +kernel
theorem dX11_isSo_121 : decode cX11_isSo 121 = .ok (.iload_n 3, 1) := by decide +kernel
theorem dX11_isSo_122 : decode cX11_isSo 122 = .ok (.bipush 8, 2) := by decide +kernel
theorem dX11_isSo_124 : decode cX11_isSo 124 = .ok (.isub, 1) := by decide +kernel
theorem dX11_isSo_125 : decode cX11_isSo 125 = .ok (.iaload, 1) := by decide +kernel
theorem dX11_isSo_126 : decode cX11_isSo 126 = .ok (.if_icmp .ne 7, 3) := by decide +kernel
theorem dX11_isSo_129 : decode cX11_isSo 129 = .ok (.iconst 1, 1) := by decide +kernel
theorem dX11_isSo_130 : decode cX11_isSo 130 = .ok (.goto 4, 3) := by decide +kernel
theorem dX11_isSo_133 : decode cX11_isSo 133 = .ok (.iconst 0, 1) := by decide +kernel
theorem dX11_isSo_134 : decode cX11_isSo 134 = .ok (.ireturn, 1) := by decide +kernel
set_option maxRecDepth 20000 in
theorem ggX11_endOf_X11_ruleOf : GoodIn wsX11_endOf wsX11_ruleOf := goodIn_r _ [6, 7, 8, 9, 10, 11, 12, 13, 14, 15] (by decide +kernel) (by decide +kernel)
set_option maxRecDepth 20000 in
theorem gX11_endOf_X11_ruleOf : GoodIn wsX11_endOf (wsV RX11 62 RX11 yX11_ruleOf wsX11_ruleOf) := goodIn_app (goodIn_of _ (by decide +kernel)) ggX11_endOf_X11_ruleOf
theorem dX11_endOf_0 : decode cX11_endOf 0 = .ok (.aload_n 0, 1) := by decide +kernel
theorem dX11_endOf_1 : decode cX11_endOf 1 = .ok (.iload_n 1, 1) := by decide +kernel
theorem dX11_endOf_2 : decode cX11_endOf 2 = .ok (.iconst 3, 1) := by decide +kernel
theorem dX11_endOf_3 : decode cX11_endOf 3 = .ok (.invokevirtual 62, 3) := by decide +kernel
theorem dX11_endOf_6 : decode cX11_endOf 6 = .ok (.istore_n 2, 1) := by decide +kernel
theorem dX11_endOf_7 : decode cX11_endOf 7 = .ok (.iload_n 2, 1) := by decide +kernel
theorem dX11_endOf_8 : decode cX11_endOf 8 = .ok (.ifCond .ne 12, 3) := by decide +kernel
theorem dX11_endOf_11 : decode cX11_endOf 11 = .ok (.aload_n 0, 1) := by decide +kernel
theorem dX11_endOf_12 : decode cX11_endOf 12 = .ok (.iload_n 1, 1) := by decide +kernel
theorem dX11_endOf_13 : decode cX11_endOf 13 = .ok (.iconst 0, 1) := by decide +kernel
theorem dX11_endOf_14 : decode cX11_endOf 14 = .ok (.invokevirtual 62, 3) := by decide +kernel
theorem dX11_endOf_17 : decode cX11_endOf 17 = .ok (.goto 22, 3) := by decide +kernel
theorem dX11_endOf_20 : decode cX11_endOf 20 = .ok (.iload_n 2, 1) := by decide +kernel
theorem dX11_endOf_21 : decode cX11_endOf 21 = .ok (.iconst 5, 1) := by decide +kernel
theorem dX11_endOf_22 : decode cX11_endOf 22 = .ok (.if_icmp .ge 9, 3) := by decide +kernel
theorem dX11_endOf_25 : decode cX11_endOf 25 = .ok (.iload_n 2, 1) := by decide +kernel
theorem dX11_endOf_26 : decode cX11_endOf 26 = .ok (.iconst 1, 1) := by decide +kernel
theorem dX11_endOf_27 : decode cX11_endOf 27 = .ok (.isub, 1) := by decide +kernel
theorem dX11_endOf_28 : decode cX11_endOf 28 = .ok (.goto 11, 3) := by decide +kernel
theorem dX11_endOf_31 : decode cX11_endOf 31 = .ok (.aload_n 0, 1) := by decide +kernel
theorem dX11_endOf_32 : decode cX11_endOf 32 = .ok (.getfield 13, 3) := by decide +kernel
theorem dX11_endOf_35 : decode cX11_endOf 35 = .ok (.iload_n 2, 1) := by decide +kernel
theorem dX11_endOf_36 : decode cX11_endOf 36 = .ok (.iconst 5, 1) := by decide +kernel
theorem dX11_endOf_37 : decode cX11_endOf 37 = .ok (.isub, 1) := by decide +kernel
theorem dX11_endOf_38 : decode cX11_endOf 38 = .ok (.iaload, 1) := by decide +kernel
theorem dX11_endOf_39 : decode cX11_endOf 39 = .ok (.ireturn, 1) := by decide +kernel
set_option maxRecDepth 20000 in
theorem ggX11_holdsNow_X11_stands : GoodIn wsX11_holdsNow wsX11_stands := goodIn_r _ [5, 6, 7, 8, 9, 4, 10, 11, 21, 22, 23, 24, 25, 26, 27, 28] (by decide +kernel) (by decide +kernel)
set_option maxRecDepth 20000 in
theorem gX11_holdsNow_X11_stands : GoodIn wsX11_holdsNow (wsV RX11 69 RX11 yX11_stands wsX11_stands) := goodIn_app (goodIn_of _ (by decide +kernel)) ggX11_holdsNow_X11_stands
set_option maxRecDepth 20000 in
theorem ggX11_holdsNow_X11_endOf : GoodIn wsX11_holdsNow wsX11_endOf := goodIn_r _ [15, 16, 7, 8, 9, 4, 10, 11, 21, 22, 23, 24, 25, 26, 27, 28] (by decide +kernel) (by decide +kernel)
set_option maxRecDepth 20000 in
theorem gX11_holdsNow_X11_endOf : GoodIn wsX11_holdsNow (wsV RX11 72 RX11 yX11_endOf wsX11_endOf) := goodIn_app (goodIn_of _ (by decide +kernel)) ggX11_holdsNow_X11_endOf
set_option maxRecDepth 20000 in
theorem ggX11_holdsNow_X11_ruleOf : GoodIn wsX11_holdsNow wsX11_ruleOf := goodIn_r _ [10, 11, 21, 22, 23, 24, 25, 26, 27, 28] (by decide +kernel) (by decide +kernel)
set_option maxRecDepth 20000 in
theorem gX11_holdsNow_X11_ruleOf : GoodIn wsX11_holdsNow (wsV RX11 62 RX11 yX11_ruleOf wsX11_ruleOf) := goodIn_app (goodIn_of _ (by decide +kernel)) ggX11_holdsNow_X11_ruleOf
set_option maxRecDepth 20000 in
theorem ggX11_holdsNow_X11_isSo : GoodIn wsX11_holdsNow wsX11_isSo := goodIn_r _ [20, 16, 21, 22, 23, 24, 25, 26, 27, 28] (by decide +kernel) (by decide +kernel)
set_option maxRecDepth 20000 in
theorem gX11_holdsNow_X11_isSo : GoodIn wsX11_holdsNow (wsV RX11 75 RX11 yX11_isSo wsX11_isSo) := goodIn_app (goodIn_of _ (by decide +kernel)) ggX11_holdsNow_X11_isSo
theorem dX11_holdsNow_0 : decode cX11_holdsNow 0 = .ok (.aload_n 0, 1) := by decide +kernel
theorem dX11_holdsNow_1 : decode cX11_holdsNow 1 = .ok (.iload_n 1, 1) := by decide +kernel
theorem dX11_holdsNow_2 : decode cX11_holdsNow 2 = .ok (.invokevirtual 69, 3) := by decide +kernel
theorem dX11_holdsNow_5 : decode cX11_holdsNow 5 = .ok (.ifCond .eq 16, 3) := by decide +kernel
theorem dX11_holdsNow_8 : decode cX11_holdsNow 8 = .ok (.aload_n 0, 1) := by decide +kernel
theorem dX11_holdsNow_9 : decode cX11_holdsNow 9 = .ok (.iload_n 1, 1) := by decide +kernel
theorem dX11_holdsNow_10 : decode cX11_holdsNow 10 = .ok (.invokevirtual 72, 3) := by decide +kernel
theorem dX11_holdsNow_13 : decode cX11_holdsNow 13 = .ok (.iconst (-1), 1) := by decide +kernel
theorem dX11_holdsNow_14 : decode cX11_holdsNow 14 = .ok (.if_icmp .eq 7, 3) := by decide +kernel
theorem dX11_holdsNow_17 : decode cX11_holdsNow 17 = .ok (.iconst 1, 1) := by decide +kernel
theorem dX11_holdsNow_18 : decode cX11_holdsNow 18 = .ok (.goto 4, 3) := by decide +kernel
theorem dX11_holdsNow_21 : decode cX11_holdsNow 21 = .ok (.iconst 0, 1) := by decide +kernel
theorem dX11_holdsNow_22 : decode cX11_holdsNow 22 = .ok (.istore_n 2, 1) := by decide +kernel
theorem dX11_holdsNow_23 : decode cX11_holdsNow 23 = .ok (.iconst 0, 1) := by decide +kernel
theorem dX11_holdsNow_24 : decode cX11_holdsNow 24 = .ok (.istore_n 3, 1) := by decide +kernel
theorem dX11_holdsNow_25 : decode cX11_holdsNow 25 = .ok (.iload_n 3, 1) := by decide +kernel
theorem dX11_holdsNow_26 : decode cX11_holdsNow 26 = .ok (.aload_n 0, 1) := by decide +kernel
theorem dX11_holdsNow_27 : decode cX11_holdsNow 27 = .ok (.iload_n 1, 1) := by decide +kernel
theorem dX11_holdsNow_28 : decode cX11_holdsNow 28 = .ok (.bipush 6, 2) := by decide +kernel
theorem dX11_holdsNow_30 : decode cX11_holdsNow 30 = .ok (.invokevirtual 62, 3) := by decide +kernel
theorem dX11_holdsNow_33 : decode cX11_holdsNow 33 = .ok (.if_icmp .ge 54, 3) := by decide +kernel
theorem dX11_holdsNow_36 : decode cX11_holdsNow 36 = .ok (.iload_n 2, 1) := by decide +kernel
theorem dX11_holdsNow_37 : decode cX11_holdsNow 37 = .ok (.ifCond .eq 42, 3) := by decide +kernel
theorem dX11_holdsNow_40 : decode cX11_holdsNow 40 = .ok (.aload_n 0, 1) := by decide +kernel
theorem dX11_holdsNow_41 : decode cX11_holdsNow 41 = .ok (.aload_n 0, 1) := by decide +kernel
theorem dX11_holdsNow_42 : decode cX11_holdsNow 42 = .ok (.iload_n 1, 1) := by decide +kernel
theorem dX11_holdsNow_43 : decode cX11_holdsNow 43 = .ok (.iconst 0, 1) := by decide +kernel
theorem dX11_holdsNow_44 : decode cX11_holdsNow 44 = .ok (.invokevirtual 62, 3) := by decide +kernel
