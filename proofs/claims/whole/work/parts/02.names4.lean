theorem dX11_holdsNow_47 : decode cX11_holdsNow 47 = .ok (.aload_n 0, 1) := by decide +kernel
theorem dX11_holdsNow_48 : decode cX11_holdsNow 48 = .ok (.iload_n 1, 1) := by decide +kernel
theorem dX11_holdsNow_49 : decode cX11_holdsNow 49 = .ok (.bipush 7, 2) := by decide +kernel
theorem dX11_holdsNow_51 : decode cX11_holdsNow 51 = .ok (.iconst 2, 1) := by decide +kernel
theorem dX11_holdsNow_52 : decode cX11_holdsNow 52 = .ok (.iload_n 3, 1) := by decide +kernel
theorem dX11_holdsNow_53 : decode cX11_holdsNow 53 = .ok (.imul, 1) := by decide +kernel
theorem dX11_holdsNow_54 : decode cX11_holdsNow 54 = .ok (.iadd, 1) := by decide +kernel
theorem dX11_holdsNow_55 : decode cX11_holdsNow 55 = .ok (.invokevirtual 62, 3) := by decide +kernel
theorem dX11_holdsNow_58 : decode cX11_holdsNow 58 = .ok (.aload_n 0, 1) := by decide +kernel
theorem dX11_holdsNow_59 : decode cX11_holdsNow 59 = .ok (.iload_n 1, 1) := by decide +kernel
theorem dX11_holdsNow_60 : decode cX11_holdsNow 60 = .ok (.bipush 8, 2) := by decide +kernel
theorem dX11_holdsNow_62 : decode cX11_holdsNow 62 = .ok (.iconst 2, 1) := by decide +kernel
theorem dX11_holdsNow_63 : decode cX11_holdsNow 63 = .ok (.iload_n 3, 1) := by decide +kernel
theorem dX11_holdsNow_64 : decode cX11_holdsNow 64 = .ok (.imul, 1) := by decide +kernel
theorem dX11_holdsNow_65 : decode cX11_holdsNow 65 = .ok (.iadd, 1) := by decide +kernel
theorem dX11_holdsNow_66 : decode cX11_holdsNow 66 = .ok (.invokevirtual 62, 3) := by decide +kernel
theorem dX11_holdsNow_69 : decode cX11_holdsNow 69 = .ok (.invokevirtual 75, 3) := by decide +kernel
theorem dX11_holdsNow_72 : decode cX11_holdsNow 72 = .ok (.ifCond .eq 7, 3) := by decide +kernel
theorem dX11_holdsNow_75 : decode cX11_holdsNow 75 = .ok (.iconst 1, 1) := by decide +kernel
theorem dX11_holdsNow_76 : decode cX11_holdsNow 76 = .ok (.goto 4, 3) := by decide +kernel
theorem dX11_holdsNow_79 : decode cX11_holdsNow 79 = .ok (.iconst 0, 1) := by decide +kernel
theorem dX11_holdsNow_80 : decode cX11_holdsNow 80 = .ok (.istore_n 2, 1) := by decide +kernel
theorem dX11_holdsNow_81 : decode cX11_holdsNow 81 = .ok (.iinc 3 1, 3) := by decide +kernel
theorem dX11_holdsNow_84 : decode cX11_holdsNow 84 = .ok (.goto (-59), 3) := by decide +kernel
theorem dX11_holdsNow_87 : decode cX11_holdsNow 87 = .ok (.iload_n 2, 1) := by decide +kernel
theorem dX11_holdsNow_88 : decode cX11_holdsNow 88 = .ok (.ireturn, 1) := by decide +kernel
set_option maxRecDepth 20000 in
theorem ggX11_holds_X11_is : GoodIn wsX11_holds wsX11_is := goodIn_r _ [5, 6, 7, 8, 4, 9, 36, 37, 38, 39, 40, 41, 42, 43] (by decide +kernel) (by decide +kernel)
set_option maxRecDepth 20000 in
theorem gX11_holds_X11_is : GoodIn wsX11_holds (wsV RX11 41 RX11 yX11_is wsX11_is) := goodIn_app (goodIn_of _ (by decide +kernel)) ggX11_holds_X11_is
set_option maxRecDepth 20000 in
theorem ggX11_holds_X11_looksAt : GoodIn wsX11_holds wsX11_looksAt := goodIn_r _ [13, 6, 14, 15, 36, 37, 38, 39, 40, 41, 42, 43] (by decide +kernel) (by decide +kernel)
set_option maxRecDepth 20000 in
theorem gX11_holds_X11_looksAt : GoodIn wsX11_holds (wsV RX11 52 RX11 yX11_looksAt wsX11_looksAt) := goodIn_app (goodIn_of _ (by decide +kernel)) ggX11_holds_X11_looksAt
set_option maxRecDepth 20000 in
theorem ggX11_holds_X11_holdsNow : GoodIn wsX11_holds wsX11_holdsNow := goodIn_r _ [19, 20, 21, 22, 4, 23, 14, 24, 25, 26, 27, 6, 28, 29, 30, 31, 15, 32, 33, 34, 35, 36, 37, 38, 39, 40, 41, 42, 43] (by decide +kernel) (by decide +kernel)
set_option maxRecDepth 20000 in
theorem gX11_holds_X11_holdsNow : GoodIn wsX11_holds (wsV RX11 78 RX11 yX11_holdsNow wsX11_holdsNow) := goodIn_app (goodIn_of _ (by decide +kernel)) ggX11_holds_X11_holdsNow
theorem dX11_holds_0 : decode cX11_holds 0 = .ok (.aload_n 0, 1) := by decide +kernel
theorem dX11_holds_1 : decode cX11_holds 1 = .ok (.iconst 2, 1) := by decide +kernel
theorem dX11_holds_2 : decode cX11_holds 2 = .ok (.iload_n 1, 1) := by decide +kernel
theorem dX11_holds_3 : decode cX11_holds 3 = .ok (.invokevirtual 41, 3) := by decide +kernel
theorem dX11_holds_6 : decode cX11_holds 6 = .ok (.ifCond .eq 12, 3) := by decide +kernel
theorem dX11_holds_9 : decode cX11_holds 9 = .ok (.aload_n 0, 1) := by decide +kernel
theorem dX11_holds_10 : decode cX11_holds 10 = .ok (.iconst 0, 1) := by decide +kernel
theorem dX11_holds_11 : decode cX11_holds 11 = .ok (.iload_n 2, 1) := by decide +kernel
theorem dX11_holds_12 : decode cX11_holds 12 = .ok (.invokevirtual 41, 3) := by decide +kernel
theorem dX11_holds_15 : decode cX11_holds 15 = .ok (.ifCond .ne 6, 3) := by decide +kernel
theorem dX11_holds_18 : decode cX11_holds 18 = .ok (.bipush (-2), 2) := by decide +kernel
theorem dX11_holds_20 : decode cX11_holds 20 = .ok (.ireturn, 1) := by decide +kernel
theorem dX11_holds_21 : decode cX11_holds 21 = .ok (.aload_n 0, 1) := by decide +kernel
theorem dX11_holds_22 : decode cX11_holds 22 = .ok (.iload_n 2, 1) := by decide +kernel
theorem dX11_holds_23 : decode cX11_holds 23 = .ok (.invokevirtual 52, 3) := by decide +kernel
theorem dX11_holds_26 : decode cX11_holds 26 = .ok (.aload_n 0, 1) := by decide +kernel
theorem dX11_holds_27 : decode cX11_holds 27 = .ok (.iload_n 1, 1) := by decide +kernel
theorem dX11_holds_28 : decode cX11_holds 28 = .ok (.invokevirtual 78, 3) := by decide +kernel
theorem dX11_holds_31 : decode cX11_holds 31 = .ok (.ifCond .eq 7, 3) := by decide +kernel
theorem dX11_holds_34 : decode cX11_holds 34 = .ok (.iconst 1, 1) := by decide +kernel
theorem dX11_holds_35 : decode cX11_holds 35 = .ok (.goto 4, 3) := by decide +kernel
theorem dX11_holds_38 : decode cX11_holds 38 = .ok (.iconst 0, 1) := by decide +kernel
theorem dX11_holds_39 : decode cX11_holds 39 = .ok (.ireturn, 1) := by decide +kernel
set_option maxRecDepth 20000 in
theorem ggX11_firstOf_X11_ruleOf : GoodIn wsX11_firstOf wsX11_ruleOf := goodIn_r _ [7, 1, 26, 27, 28, 29, 30, 31, 32, 33] (by decide +kernel) (by decide +kernel)
set_option maxRecDepth 20000 in
theorem gX11_firstOf_X11_ruleOf : GoodIn wsX11_firstOf (wsV RX11 62 RX11 yX11_ruleOf wsX11_ruleOf) := goodIn_app (goodIn_of _ (by decide +kernel)) ggX11_firstOf_X11_ruleOf
set_option maxRecDepth 20000 in
theorem ggX11_firstOf_X11_holdsNow : GoodIn wsX11_firstOf wsX11_holdsNow := goodIn_r _ [11, 12, 13, 14, 6, 15, 16, 3, 4, 5, 7, 1, 17, 18, 19, 20, 21, 22, 23, 24, 25, 26, 27, 28, 29, 30, 31, 32, 33] (by decide +kernel) (by decide +kernel)
set_option maxRecDepth 20000 in
theorem gX11_firstOf_X11_holdsNow : GoodIn wsX11_firstOf (wsV RX11 78 RX11 yX11_holdsNow wsX11_holdsNow) := goodIn_app (goodIn_of _ (by decide +kernel)) ggX11_firstOf_X11_holdsNow
theorem dX11_firstOf_0 : decode cX11_firstOf 0 = .ok (.iconst 0, 1) := by decide +kernel
theorem dX11_firstOf_1 : decode cX11_firstOf 1 = .ok (.istore_n 3, 1) := by decide +kernel
theorem dX11_firstOf_2 : decode cX11_firstOf 2 = .ok (.iload_n 3, 1) := by decide +kernel
theorem dX11_firstOf_3 : decode cX11_firstOf 3 = .ok (.aload_n 0, 1) := by decide +kernel
theorem dX11_firstOf_4 : decode cX11_firstOf 4 = .ok (.getfield 7, 3) := by decide +kernel
theorem dX11_firstOf_7 : decode cX11_firstOf 7 = .ok (.iconst 2, 1) := by decide +kernel
theorem dX11_firstOf_8 : decode cX11_firstOf 8 = .ok (.iaload, 1) := by decide +kernel
theorem dX11_firstOf_9 : decode cX11_firstOf 9 = .ok (.if_icmp .ge 48, 3) := by decide +kernel
theorem dX11_firstOf_12 : decode cX11_firstOf 12 = .ok (.aload_n 0, 1) := by decide +kernel
theorem dX11_firstOf_13 : decode cX11_firstOf 13 = .ok (.iload_n 3, 1) := by decide +kernel
theorem dX11_firstOf_14 : decode cX11_firstOf 14 = .ok (.iconst 0, 1) := by decide +kernel
theorem dX11_firstOf_15 : decode cX11_firstOf 15 = .ok (.invokevirtual 62, 3) := by decide +kernel
theorem dX11_firstOf_18 : decode cX11_firstOf 18 = .ok (.iload_n 1, 1) := by decide +kernel
theorem dX11_firstOf_19 : decode cX11_firstOf 19 = .ok (.if_icmp .ne 32, 3) := by decide +kernel
theorem dX11_firstOf_22 : decode cX11_firstOf 22 = .ok (.aload_n 0, 1) := by decide +kernel
theorem dX11_firstOf_23 : decode cX11_firstOf 23 = .ok (.iload_n 3, 1) := by decide +kernel
theorem dX11_firstOf_24 : decode cX11_firstOf 24 = .ok (.iconst 1, 1) := by decide +kernel
theorem dX11_firstOf_25 : decode cX11_firstOf 25 = .ok (.invokevirtual 62, 3) := by decide +kernel
theorem dX11_firstOf_28 : decode cX11_firstOf 28 = .ok (.iload_n 2, 1) := by decide +kernel
theorem dX11_firstOf_29 : decode cX11_firstOf 29 = .ok (.if_icmp .ne 22, 3) := by decide +kernel
theorem dX11_firstOf_32 : decode cX11_firstOf 32 = .ok (.aload_n 0, 1) := by decide +kernel
theorem dX11_firstOf_33 : decode cX11_firstOf 33 = .ok (.getfield 16, 3) := by decide +kernel
theorem dX11_firstOf_36 : decode cX11_firstOf 36 = .ok (.iload_n 3, 1) := by decide +kernel
theorem dX11_firstOf_37 : decode cX11_firstOf 37 = .ok (.baload, 1) := by decide +kernel
theorem dX11_firstOf_38 : decode cX11_firstOf 38 = .ok (.ifCond .ne 13, 3) := by decide +kernel
theorem dX11_firstOf_41 : decode cX11_firstOf 41 = .ok (.aload_n 0, 1) := by decide +kernel
theorem dX11_firstOf_42 : decode cX11_firstOf 42 = .ok (.iload_n 3, 1) := by decide +kernel
theorem dX11_firstOf_43 : decode cX11_firstOf 43 = .ok (.invokevirtual 78, 3) := by decide +kernel
theorem dX11_firstOf_46 : decode cX11_firstOf 46 = .ok (.ifCond .eq 5, 3) := by decide +kernel
theorem dX11_firstOf_49 : decode cX11_firstOf 49 = .ok (.iload_n 3, 1) := by decide +kernel
theorem dX11_firstOf_50 : decode cX11_firstOf 50 = .ok (.ireturn, 1) := by decide +kernel
theorem dX11_firstOf_51 : decode cX11_firstOf 51 = .ok (.iinc 3 1, 3) := by decide +kernel
theorem dX11_firstOf_54 : decode cX11_firstOf 54 = .ok (.goto (-52), 3) := by decide +kernel
theorem dX11_firstOf_57 : decode cX11_firstOf 57 = .ok (.iconst (-1), 1) := by decide +kernel
theorem dX11_firstOf_58 : decode cX11_firstOf 58 = .ok (.ireturn, 1) := by decide +kernel
set_option maxRecDepth 20000 in
theorem ggX11_ruleBy_X11_firstOf : GoodIn wsX11_ruleBy wsX11_firstOf := goodIn_r _ [6, 1, 7, 8, 9, 10, 5, 11, 12, 13, 14, 15, 16, 17, 18, 19, 20, 21, 22, 23, 24, 25, 26, 27, 28, 29, 30, 31, 32, 33, 34, 35, 36, 37] (by decide +kernel) (by decide +kernel)
set_option maxRecDepth 20000 in
theorem gX11_ruleBy_X11_firstOf : GoodIn wsX11_ruleBy (wsV RX11 81 RX11 yX11_firstOf wsX11_firstOf) := goodIn_app (goodIn_of _ (by decide +kernel)) ggX11_ruleBy_X11_firstOf
theorem dX11_ruleBy_0 : decode cX11_ruleBy 0 = .ok (.aload_n 0, 1) := by decide +kernel
theorem dX11_ruleBy_1 : decode cX11_ruleBy 1 = .ok (.iload_n 1, 1) := by decide +kernel
theorem dX11_ruleBy_2 : decode cX11_ruleBy 2 = .ok (.aload_n 0, 1) := by decide +kernel
theorem dX11_ruleBy_3 : decode cX11_ruleBy 3 = .ok (.getfield 7, 3) := by decide +kernel
theorem dX11_ruleBy_6 : decode cX11_ruleBy 6 = .ok (.sipush 942, 3) := by decide +kernel
theorem dX11_ruleBy_9 : decode cX11_ruleBy 9 = .ok (.iconst 3, 1) := by decide +kernel
theorem dX11_ruleBy_10 : decode cX11_ruleBy 10 = .ok (.iload_n 1, 1) := by decide +kernel
theorem dX11_ruleBy_11 : decode cX11_ruleBy 11 = .ok (.imul, 1) := by decide +kernel
theorem dX11_ruleBy_12 : decode cX11_ruleBy 12 = .ok (.iadd, 1) := by decide +kernel
theorem dX11_ruleBy_13 : decode cX11_ruleBy 13 = .ok (.iload_n 2, 1) := by decide +kernel
theorem dX11_ruleBy_14 : decode cX11_ruleBy 14 = .ok (.iadd, 1) := by decide +kernel
theorem dX11_ruleBy_15 : decode cX11_ruleBy 15 = .ok (.iaload, 1) := by decide +kernel
theorem dX11_ruleBy_16 : decode cX11_ruleBy 16 = .ok (.invokevirtual 81, 3) := by decide +kernel
theorem dX11_ruleBy_19 : decode cX11_ruleBy 19 = .ok (.ireturn, 1) := by decide +kernel
set_option maxRecDepth 20000 in
theorem ggX11_saying_X11_ruleBy : GoodIn wsX11_saying wsX11_ruleBy := goodIn_r _ [5, 6, 7, 8, 9, 4, 10, 11, 12, 13, 14, 15, 16, 17, 18, 19, 20, 21, 22, 23, 24, 25, 26, 27, 28, 29, 30, 31, 32, 33, 34, 35, 36, 37, 38, 39, 40, 41] (by decide +kernel) (by decide +kernel)
set_option maxRecDepth 20000 in
theorem gX11_saying_X11_ruleBy : GoodIn wsX11_saying (wsV RX11 84 RX11 yX11_ruleBy wsX11_ruleBy) := goodIn_app (goodIn_of _ (by decide +kernel)) ggX11_saying_X11_ruleBy
set_option maxRecDepth 20000 in
theorem ggX11_saying_X11_ruleOf : GoodIn wsX11_saying wsX11_ruleOf := goodIn_r _ [15, 6, 34, 35, 36, 37, 38, 39, 40, 41] (by decide +kernel) (by decide +kernel)
set_option maxRecDepth 20000 in
theorem gX11_saying_X11_ruleOf : GoodIn wsX11_saying (wsV RX11 62 RX11 yX11_ruleOf wsX11_ruleOf) := goodIn_app (goodIn_of _ (by decide +kernel)) ggX11_saying_X11_ruleOf
set_option maxRecDepth 20000 in
theorem ggX11_saying_X11_endOf : GoodIn wsX11_saying wsX11_endOf := goodIn_r _ [28, 29, 12, 13, 14, 4, 15, 6, 34, 35, 36, 37, 38, 39, 40, 41] (by decide +kernel) (by decide +kernel)
set_option maxRecDepth 20000 in
theorem gX11_saying_X11_endOf : GoodIn wsX11_saying (wsV RX11 72 RX11 yX11_endOf wsX11_endOf) := goodIn_app (goodIn_of _ (by decide +kernel)) ggX11_saying_X11_endOf
theorem dX11_saying_0 : decode cX11_saying 0 = .ok (.aload_n 0, 1) := by decide +kernel
theorem dX11_saying_1 : decode cX11_saying 1 = .ok (.iload_n 1, 1) := by decide +kernel
theorem dX11_saying_2 : decode cX11_saying 2 = .ok (.iload_n 2, 1) := by decide +kernel
theorem dX11_saying_3 : decode cX11_saying 3 = .ok (.invokevirtual 84, 3) := by decide +kernel
theorem dX11_saying_6 : decode cX11_saying 6 = .ok (.istore_n 3, 1) := by decide +kernel
theorem dX11_saying_7 : decode cX11_saying 7 = .ok (.iload_n 3, 1) := by decide +kernel
theorem dX11_saying_8 : decode cX11_saying 8 = .ok (.iconst (-1), 1) := by decide +kernel
theorem dX11_saying_9 : decode cX11_saying 9 = .ok (.if_icmp .ne 7, 3) := by decide +kernel
theorem dX11_saying_12 : decode cX11_saying 12 = .ok (.iload_n 1, 1) := by decide +kernel
theorem dX11_saying_13 : decode cX11_saying 13 = .ok (.goto 18, 3) := by decide +kernel
theorem dX11_saying_16 : decode cX11_saying 16 = .ok (.bipush 10, 2) := by decide +kernel
theorem dX11_saying_18 : decode cX11_saying 18 = .ok (.aload_n 0, 1) := by decide +kernel
theorem dX11_saying_19 : decode cX11_saying 19 = .ok (.iload_n 3, 1) := by decide +kernel
theorem dX11_saying_20 : decode cX11_saying 20 = .ok (.iconst 2, 1) := by decide +kernel
theorem dX11_saying_21 : decode cX11_saying 21 = .ok (.invokevirtual 62, 3) := by decide +kernel
theorem dX11_saying_24 : decode cX11_saying 24 = .ok (.imul, 1) := by decide +kernel
theorem dX11_saying_25 : decode cX11_saying 25 = .ok (.aload_n 0, 1) := by decide +kernel
theorem dX11_saying_26 : decode cX11_saying 26 = .ok (.iload_n 3, 1) := by decide +kernel
theorem dX11_saying_27 : decode cX11_saying 27 = .ok (.invokevirtual 72, 3) := by decide +kernel
theorem dX11_saying_30 : decode cX11_saying 30 = .ok (.iadd, 1) := by decide +kernel
theorem dX11_saying_31 : decode cX11_saying 31 = .ok (.ireturn, 1) := by decide +kernel
set_option maxRecDepth 20000 in
theorem ggX11_isAsked_X11_isLand : GoodIn wsX11_isAsked wsX11_isLand := goodIn_r _ [4, 5, 6, 3, 7] (by decide +kernel) (by decide +kernel)
set_option maxRecDepth 20000 in
theorem gX11_isAsked_X11_isLand : GoodIn wsX11_isAsked (va_wsS RX11 56 yX11_isLand wsX11_isLand) := goodIn_app (goodIn_of _ (by decide +kernel)) ggX11_isAsked_X11_isLand
set_option maxRecDepth 20000 in
theorem ggX11_isAsked_X11_is : GoodIn wsX11_isAsked wsX11_is := goodIn_r _ [11, 12, 5, 6, 3, 7, 16, 17, 18, 19, 20, 21, 22, 23] (by decide +kernel) (by decide +kernel)
set_option maxRecDepth 20000 in
theorem gX11_isAsked_X11_is : GoodIn wsX11_isAsked (wsV RX11 41 RX11 yX11_is wsX11_is) := goodIn_app (goodIn_of _ (by decide +kernel)) ggX11_isAsked_X11_is
set_option maxRecDepth 20000 in
theorem ggX11_isAsked_X11_isKind : GoodIn wsX11_isAsked wsX11_isKind := goodIn_r _ [15, 5, 6, 3, 7] (by decide +kernel) (by decide +kernel)
set_option maxRecDepth 20000 in
theorem gX11_isAsked_X11_isKind : GoodIn wsX11_isAsked (va_wsS RX11 59 yX11_isKind wsX11_isKind) := goodIn_app (goodIn_of _ (by decide +kernel)) ggX11_isAsked_X11_isKind
theorem dX11_isAsked_0 : decode cX11_isAsked 0 = .ok (.iload_n 1, 1) := by decide +kernel
theorem dX11_isAsked_1 : decode cX11_isAsked 1 = .ok (.invokestatic 56, 3) := by decide +kernel
theorem dX11_isAsked_4 : decode cX11_isAsked 4 = .ok (.ifCond .eq 23, 3) := by decide +kernel
theorem dX11_isAsked_7 : decode cX11_isAsked 7 = .ok (.aload_n 0, 1) := by decide +kernel
theorem dX11_isAsked_8 : decode cX11_isAsked 8 = .ok (.iconst 0, 1) := by decide +kernel
theorem dX11_isAsked_9 : decode cX11_isAsked 9 = .ok (.iload_n 2, 1) := by decide +kernel
theorem dX11_isAsked_10 : decode cX11_isAsked 10 = .ok (.invokevirtual 41, 3) := by decide +kernel
theorem dX11_isAsked_13 : decode cX11_isAsked 13 = .ok (.ifCond .eq 14, 3) := by decide +kernel
theorem dX11_isAsked_16 : decode cX11_isAsked 16 = .ok (.iload_n 3, 1) := by decide +kernel
theorem dX11_isAsked_17 : decode cX11_isAsked 17 = .ok (.invokestatic 59, 3) := by decide +kernel
theorem dX11_isAsked_20 : decode cX11_isAsked 20 = .ok (.ifCond .eq 7, 3) := by decide +kernel
theorem dX11_isAsked_23 : decode cX11_isAsked 23 = .ok (.iconst 1, 1) := by decide +kernel
theorem dX11_isAsked_24 : decode cX11_isAsked 24 = .ok (.goto 4, 3) := by decide +kernel
theorem dX11_isAsked_27 : decode cX11_isAsked 27 = .ok (.iconst 0, 1) := by decide +kernel
theorem dX11_isAsked_28 : decode cX11_isAsked 28 = .ok (.ireturn, 1) := by decide +kernel
set_option maxRecDepth 20000 in
theorem ggX11_says_X11_isAsked : GoodIn wsX11_says wsX11_isAsked := goodIn_r _ [5, 6, 7, 4, 8, 9, 10, 11, 12, 13, 14, 15, 16, 17, 18, 19, 55, 56, 57, 58, 59, 60, 61, 62] (by decide +kernel) (by decide +kernel)
set_option maxRecDepth 20000 in
theorem gX11_says_X11_isAsked : GoodIn wsX11_says (wsV RX11 87 RX11 yX11_isAsked wsX11_isAsked) := goodIn_app (goodIn_of _ (by decide +kernel)) ggX11_says_X11_isAsked
set_option maxRecDepth 20000 in
theorem ggX11_says_X11_looksAt : GoodIn wsX11_says wsX11_looksAt := goodIn_r _ [23, 16, 24, 25, 55, 56, 57, 58, 59, 60, 61, 62] (by decide +kernel) (by decide +kernel)
set_option maxRecDepth 20000 in
theorem gX11_says_X11_looksAt : GoodIn wsX11_says (wsV RX11 52 RX11 yX11_looksAt wsX11_looksAt) := goodIn_app (goodIn_of _ (by decide +kernel)) ggX11_says_X11_looksAt
set_option maxRecDepth 20000 in
theorem ggX11_says_X11_ruleBy : GoodIn wsX11_says wsX11_ruleBy := goodIn_r _ [29, 16, 30, 31, 32, 4, 33, 34, 35, 36, 37, 38, 39, 40, 41, 42, 43, 44, 45, 46, 24, 47, 48, 49, 50, 25, 51, 52, 53, 54, 55, 56, 57, 58, 59, 60, 61, 62] (by decide +kernel) (by decide +kernel)
set_option maxRecDepth 20000 in
theorem gX11_says_X11_ruleBy : GoodIn wsX11_says (wsV RX11 84 RX11 yX11_ruleBy wsX11_ruleBy) := goodIn_app (goodIn_of _ (by decide +kernel)) ggX11_says_X11_ruleBy
theorem dX11_says_0 : decode cX11_says 0 = .ok (.aload_n 0, 1) := by decide +kernel
theorem dX11_says_1 : decode cX11_says 1 = .ok (.iload_n 1, 1) := by decide +kernel
theorem dX11_says_2 : decode cX11_says 2 = .ok (.iload_n 2, 1) := by decide +kernel
theorem dX11_says_3 : decode cX11_says 3 = .ok (.iload_n 3, 1) := by decide +kernel
theorem dX11_says_4 : decode cX11_says 4 = .ok (.invokevirtual 87, 3) := by decide +kernel
theorem dX11_says_7 : decode cX11_says 7 = .ok (.ifCond .ne 6, 3) := by decide +kernel
theorem dX11_says_10 : decode cX11_says 10 = .ok (.bipush (-10), 2) := by decide +kernel
theorem dX11_says_12 : decode cX11_says 12 = .ok (.ireturn, 1) := by decide +kernel
theorem dX11_says_13 : decode cX11_says 13 = .ok (.aload_n 0, 1) := by decide +kernel
theorem dX11_says_14 : decode cX11_says 14 = .ok (.iload_n 2, 1) := by decide +kernel
theorem dX11_says_15 : decode cX11_says 15 = .ok (.invokevirtual 52, 3) := by decide +kernel
theorem dX11_says_18 : decode cX11_says 18 = .ok (.aload_n 0, 1) := by decide +kernel
theorem dX11_says_19 : decode cX11_says 19 = .ok (.iload_n 1, 1) := by decide +kernel
theorem dX11_says_20 : decode cX11_says 20 = .ok (.iload_n 3, 1) := by decide +kernel
theorem dX11_says_21 : decode cX11_says 21 = .ok (.invokevirtual 84, 3) := by decide +kernel
theorem dX11_says_24 : decode cX11_says 24 = .ok (.ireturn, 1) := by decide +kernel
set_option maxRecDepth 20000 in
theorem ggX11_said_X11_isAsked : GoodIn wsX11_said wsX11_isAsked := goodIn_r _ [5, 6, 7, 4, 8, 9, 10, 11, 12, 13, 14, 15, 16, 17, 18, 19, 59, 60, 61, 62, 63, 64, 65, 66] (by decide +kernel) (by decide +kernel)
set_option maxRecDepth 20000 in
theorem gX11_said_X11_isAsked : GoodIn wsX11_said (wsV RX11 87 RX11 yX11_isAsked wsX11_isAsked) := goodIn_app (goodIn_of _ (by decide +kernel)) ggX11_said_X11_isAsked
set_option maxRecDepth 20000 in
theorem ggX11_said_X11_looksAt : GoodIn wsX11_said wsX11_looksAt := goodIn_r _ [23, 16, 24, 25, 59, 60, 61, 62, 63, 64, 65, 66] (by decide +kernel) (by decide +kernel)
set_option maxRecDepth 20000 in
theorem gX11_said_X11_looksAt : GoodIn wsX11_said (wsV RX11 52 RX11 yX11_looksAt wsX11_looksAt) := goodIn_app (goodIn_of _ (by decide +kernel)) ggX11_said_X11_looksAt
set_option maxRecDepth 20000 in
theorem ggX11_said_X11_saying : GoodIn wsX11_said wsX11_saying := goodIn_r _ [29, 30, 31, 32, 4, 33, 16, 34, 35, 36, 37, 38, 39, 40, 41, 42, 43, 44, 45, 46, 47, 48, 49, 50, 24, 51, 52, 53, 54, 25, 55, 56, 57, 58, 59, 60, 61, 62, 63, 64, 65, 66] (by decide +kernel) (by decide +kernel)
set_option maxRecDepth 20000 in
theorem gX11_said_X11_saying : GoodIn wsX11_said (wsV RX11 90 RX11 yX11_saying wsX11_saying) := goodIn_app (goodIn_of _ (by decide +kernel)) ggX11_said_X11_saying
theorem dX11_said_0 : decode cX11_said 0 = .ok (.aload_n 0, 1) := by decide +kernel
theorem dX11_said_1 : decode cX11_said 1 = .ok (.iload_n 1, 1) := by decide +kernel
theorem dX11_said_2 : decode cX11_said 2 = .ok (.iload_n 2, 1) := by decide +kernel
theorem dX11_said_3 : decode cX11_said 3 = .ok (.iload_n 3, 1) := by decide +kernel
theorem dX11_said_4 : decode cX11_said 4 = .ok (.invokevirtual 87, 3) := by decide +kernel
theorem dX11_said_7 : decode cX11_said 7 = .ok (.ifCond .ne 6, 3) := by decide +kernel
theorem dX11_said_10 : decode cX11_said 10 = .ok (.bipush (-2), 2) := by decide +kernel
theorem dX11_said_12 : decode cX11_said 12 = .ok (.ireturn, 1) := by decide +kernel
theorem dX11_said_13 : decode cX11_said 13 = .ok (.aload_n 0, 1) := by decide +kernel
theorem dX11_said_14 : decode cX11_said 14 = .ok (.iload_n 2, 1) := by decide +kernel
theorem dX11_said_15 : decode cX11_said 15 = .ok (.invokevirtual 52, 3) := by decide +kernel
theorem dX11_said_18 : decode cX11_said 18 = .ok (.aload_n 0, 1) := by decide +kernel
theorem dX11_said_19 : decode cX11_said 19 = .ok (.iload_n 1, 1) := by decide +kernel
theorem dX11_said_20 : decode cX11_said 20 = .ok (.iload_n 3, 1) := by decide +kernel
theorem dX11_said_21 : decode cX11_said 21 = .ok (.invokevirtual 90, 3) := by decide +kernel
theorem dX11_said_24 : decode cX11_said 24 = .ok (.ireturn, 1) := by decide +kernel
theorem dX11_treats_0 : decode cX11_treats 0 = .ok (.iconst 0, 1) := by decide +kernel
theorem dX11_treats_1 : decode cX11_treats 1 = .ok (.istore_n 3, 1) := by decide +kernel
theorem dX11_treats_2 : decode cX11_treats 2 = .ok (.iload_n 3, 1) := by decide +kernel
theorem dX11_treats_3 : decode cX11_treats 3 = .ok (.aload_n 0, 1) := by decide +kernel
theorem dX11_treats_4 : decode cX11_treats 4 = .ok (.getfield 7, 3) := by decide +kernel
theorem dX11_treats_7 : decode cX11_treats 7 = .ok (.iconst 3, 1) := by decide +kernel
theorem dX11_treats_8 : decode cX11_treats 8 = .ok (.iaload, 1) := by decide +kernel
theorem dX11_treats_9 : decode cX11_treats 9 = .ok (.if_icmp .ge 89, 3) := by decide +kernel
theorem dX11_treats_12 : decode cX11_treats 12 = .ok (.sipush 958, 3) := by decide +kernel
theorem dX11_treats_15 : decode cX11_treats 15 = .ok (.iconst 3, 1) := by decide +kernel
theorem dX11_treats_16 : decode cX11_treats 16 = .ok (.iload_n 3, 1) := by decide +kernel
theorem dX11_treats_17 : decode cX11_treats 17 = .ok (.imul, 1) := by decide +kernel
theorem dX11_treats_18 : decode cX11_treats 18 = .ok (.iadd, 1) := by decide +kernel
theorem dX11_treats_19 : decode cX11_treats 19 = .ok (.istore 4, 2) := by decide +kernel
theorem dX11_treats_21 : decode cX11_treats 21 = .ok (.aload_n 0, 1) := by decide +kernel
theorem dX11_treats_22 : decode cX11_treats 22 = .ok (.getfield 13, 3) := by decide +kernel
theorem dX11_treats_25 : decode cX11_treats 25 = .ok (.aload_n 0, 1) := by decide +kernel
theorem dX11_treats_26 : decode cX11_treats 26 = .ok (.getfield 7, 3) := by decide +kernel
theorem dX11_treats_29 : decode cX11_treats 29 = .ok (.iload 4, 2) := by decide +kernel
theorem dX11_treats_31 : decode cX11_treats 31 = .ok (.iconst 2, 1) := by decide +kernel
theorem dX11_treats_32 : decode cX11_treats 32 = .ok (.iadd, 1) := by decide +kernel
theorem dX11_treats_33 : decode cX11_treats 33 = .ok (.iaload, 1) := by decide +kernel
theorem dX11_treats_34 : decode cX11_treats 34 = .ok (.iaload, 1) := by decide +kernel
theorem dX11_treats_35 : decode cX11_treats 35 = .ok (.istore 5, 2) := by decide +kernel
theorem dX11_treats_37 : decode cX11_treats 37 = .ok (.aload_n 0, 1) := by decide +kernel
theorem dX11_treats_38 : decode cX11_treats 38 = .ok (.getfield 7, 3) := by decide +kernel
theorem dX11_treats_41 : decode cX11_treats 41 = .ok (.iload 4, 2) := by decide +kernel
theorem dX11_treats_43 : decode cX11_treats 43 = .ok (.iaload, 1) := by decide +kernel
theorem dX11_treats_44 : decode cX11_treats 44 = .ok (.iload_n 2, 1) := by decide +kernel
theorem dX11_treats_45 : decode cX11_treats 45 = .ok (.if_icmp .ne 47, 3) := by decide +kernel
theorem dX11_treats_48 : decode cX11_treats 48 = .ok (.aload_n 0, 1) := by decide +kernel
theorem dX11_treats_49 : decode cX11_treats 49 = .ok (.getfield 7, 3) := by decide +kernel
theorem dX11_treats_52 : decode cX11_treats 52 = .ok (.iload 4, 2) := by decide +kernel
theorem dX11_treats_54 : decode cX11_treats 54 = .ok (.iconst 1, 1) := by decide +kernel
theorem dX11_treats_55 : decode cX11_treats 55 = .ok (.iadd, 1) := by decide +kernel
theorem dX11_treats_56 : decode cX11_treats 56 = .ok (.iaload, 1) := by decide +kernel
theorem dX11_treats_57 : decode cX11_treats 57 = .ok (.iload_n 1, 1) := by decide +kernel
theorem dX11_treats_58 : decode cX11_treats 58 = .ok (.ishr, 1) := by decide +kernel
theorem dX11_treats_59 : decode cX11_treats 59 = .ok (.iconst 1, 1) := by decide +kernel
theorem dX11_treats_60 : decode cX11_treats 60 = .ok (.iand, 1) := by decide +kernel
theorem dX11_treats_61 : decode cX11_treats 61 = .ok (.iconst 1, 1) := by decide +kernel
theorem dX11_treats_62 : decode cX11_treats 62 = .ok (.if_icmp .ne 30, 3) := by decide +kernel
theorem dX11_treats_65 : decode cX11_treats 65 = .ok (.iload 5, 2) := by decide +kernel
theorem dX11_treats_67 : decode cX11_treats 67 = .ok (.iconst (-1), 1) := by decide +kernel
theorem dX11_treats_68 : decode cX11_treats 68 = .ok (.if_icmp .eq 24, 3) := by decide +kernel
theorem dX11_treats_71 : decode cX11_treats 71 = .ok (.aload_n 0, 1) := by decide +kernel
theorem dX11_treats_72 : decode cX11_treats 72 = .ok (.getfield 7, 3) := by decide +kernel
theorem dX11_treats_75 : decode cX11_treats 75 = .ok (.iload 4, 2) := by decide +kernel
theorem dX11_treats_77 : decode cX11_treats 77 = .ok (.iconst 1, 1) := by decide +kernel
theorem dX11_treats_78 : decode cX11_treats 78 = .ok (.iadd, 1) := by decide +kernel
theorem dX11_treats_79 : decode cX11_treats 79 = .ok (.iaload, 1) := by decide +kernel
theorem dX11_treats_80 : decode cX11_treats 80 = .ok (.iload 5, 2) := by decide +kernel
theorem dX11_treats_82 : decode cX11_treats 82 = .ok (.ishr, 1) := by decide +kernel
theorem dX11_treats_83 : decode cX11_treats 83 = .ok (.iconst 1, 1) := by decide +kernel
theorem dX11_treats_84 : decode cX11_treats 84 = .ok (.iand, 1) := by decide +kernel
theorem dX11_treats_85 : decode cX11_treats 85 = .ok (.iconst 1, 1) := by decide +kernel
theorem dX11_treats_86 : decode cX11_treats 86 = .ok (.if_icmp .ne 6, 3) := by decide +kernel
theorem dX11_treats_89 : decode cX11_treats 89 = .ok (.iload 5, 2) := by decide +kernel
theorem dX11_treats_91 : decode cX11_treats 91 = .ok (.ireturn, 1) := by decide +kernel
theorem dX11_treats_92 : decode cX11_treats 92 = .ok (.iinc 3 1, 3) := by decide +kernel
theorem dX11_treats_95 : decode cX11_treats 95 = .ok (.goto (-93), 3) := by decide +kernel
theorem dX11_treats_98 : decode cX11_treats 98 = .ok (.iconst (-1), 1) := by decide +kernel
theorem dX11_treats_99 : decode cX11_treats 99 = .ok (.ireturn, 1) := by decide +kernel
set_option maxRecDepth 20000 in
theorem ggX11_toTheEnd_X11_saying : GoodIn wsX11_toTheEnd wsX11_saying := goodIn_r _ [5, 6, 7, 8, 4, 9, 10, 11, 12, 13, 14, 15, 16, 17, 18, 19, 20, 21, 22, 23, 24, 25, 26, 27, 28, 29, 30, 31, 32, 33, 34, 35, 36, 37, 38, 39, 40, 41, 42, 43, 44, 45] (by decide +kernel) (by decide +kernel)
set_option maxRecDepth 20000 in
theorem gX11_toTheEnd_X11_saying : GoodIn wsX11_toTheEnd (wsV RX11 90 RX11 yX11_saying wsX11_saying) := goodIn_app (goodIn_of _ (by decide +kernel)) ggX11_toTheEnd_X11_saying
theorem dX11_toTheEnd_0 : decode cX11_toTheEnd 0 = .ok (.iconst 1, 1) := by decide +kernel
theorem dX11_toTheEnd_1 : decode cX11_toTheEnd 1 = .ok (.iload_n 1, 1) := by decide +kernel
theorem dX11_toTheEnd_2 : decode cX11_toTheEnd 2 = .ok (.ishl, 1) := by decide +kernel
theorem dX11_toTheEnd_3 : decode cX11_toTheEnd 3 = .ok (.iconst 1, 1) := by decide +kernel
theorem dX11_toTheEnd_4 : decode cX11_toTheEnd 4 = .ok (.iload_n 2, 1) := by decide +kernel
theorem dX11_toTheEnd_5 : decode cX11_toTheEnd 5 = .ok (.ishl, 1) := by decide +kernel
theorem dX11_toTheEnd_6 : decode cX11_toTheEnd 6 = .ok (.ior, 1) := by decide +kernel
theorem dX11_toTheEnd_7 : decode cX11_toTheEnd 7 = .ok (.istore 4, 2) := by decide +kernel
theorem dX11_toTheEnd_9 : decode cX11_toTheEnd 9 = .ok (.iload_n 2, 1) := by decide +kernel
theorem dX11_toTheEnd_10 : decode cX11_toTheEnd 10 = .ok (.istore 5, 2) := by decide +kernel
theorem dX11_toTheEnd_12 : decode cX11_toTheEnd 12 = .ok (.aload_n 0, 1) := by decide +kernel
theorem dX11_toTheEnd_13 : decode cX11_toTheEnd 13 = .ok (.iload 5, 2) := by decide +kernel
theorem dX11_toTheEnd_15 : decode cX11_toTheEnd 15 = .ok (.iload_n 3, 1) := by decide +kernel
theorem dX11_toTheEnd_16 : decode cX11_toTheEnd 16 = .ok (.invokevirtual 90, 3) := by decide +kernel
theorem dX11_toTheEnd_19 : decode cX11_toTheEnd 19 = .ok (.istore 6, 2) := by decide +kernel
theorem dX11_toTheEnd_21 : decode cX11_toTheEnd 21 = .ok (.iload 6, 2) := by decide +kernel
theorem dX11_toTheEnd_23 : decode cX11_toTheEnd 23 = .ok (.bipush 10, 2) := by decide +kernel
theorem dX11_toTheEnd_25 : decode cX11_toTheEnd 25 = .ok (.irem, 1) := by decide +kernel
theorem dX11_toTheEnd_26 : decode cX11_toTheEnd 26 = .ok (.istore 7, 2) := by decide +kernel
theorem dX11_toTheEnd_28 : decode cX11_toTheEnd 28 = .ok (.iload 6, 2) := by decide +kernel
theorem dX11_toTheEnd_30 : decode cX11_toTheEnd 30 = .ok (.bipush 10, 2) := by decide +kernel
theorem dX11_toTheEnd_32 : decode cX11_toTheEnd 32 = .ok (.if_icmp .lt 14, 3) := by decide +kernel
theorem dX11_toTheEnd_35 : decode cX11_toTheEnd 35 = .ok (.iload 4, 2) := by decide +kernel
theorem dX11_toTheEnd_37 : decode cX11_toTheEnd 37 = .ok (.iload 7, 2) := by decide +kernel
theorem dX11_toTheEnd_39 : decode cX11_toTheEnd 39 = .ok (.ishr, 1) := by decide +kernel
theorem dX11_toTheEnd_40 : decode cX11_toTheEnd 40 = .ok (.iconst 1, 1) := by decide +kernel
theorem dX11_toTheEnd_41 : decode cX11_toTheEnd 41 = .ok (.iand, 1) := by decide +kernel
theorem dX11_toTheEnd_42 : decode cX11_toTheEnd 42 = .ok (.iconst 1, 1) := by decide +kernel
theorem dX11_toTheEnd_43 : decode cX11_toTheEnd 43 = .ok (.if_icmp .ne 6, 3) := by decide +kernel
theorem dX11_toTheEnd_46 : decode cX11_toTheEnd 46 = .ok (.iload 7, 2) := by decide +kernel
theorem dX11_toTheEnd_48 : decode cX11_toTheEnd 48 = .ok (.ireturn, 1) := by decide +kernel
theorem dX11_toTheEnd_49 : decode cX11_toTheEnd 49 = .ok (.iload 4, 2) := by decide +kernel
theorem dX11_toTheEnd_51 : decode cX11_toTheEnd 51 = .ok (.iconst 1, 1) := by decide +kernel
theorem dX11_toTheEnd_52 : decode cX11_toTheEnd 52 = .ok (.iload 7, 2) := by decide +kernel
theorem dX11_toTheEnd_54 : decode cX11_toTheEnd 54 = .ok (.ishl, 1) := by decide +kernel
theorem dX11_toTheEnd_55 : decode cX11_toTheEnd 55 = .ok (.ior, 1) := by decide +kernel
theorem dX11_toTheEnd_56 : decode cX11_toTheEnd 56 = .ok (.istore 4, 2) := by decide +kernel
theorem dX11_toTheEnd_58 : decode cX11_toTheEnd 58 = .ok (.iload 7, 2) := by decide +kernel
theorem dX11_toTheEnd_60 : decode cX11_toTheEnd 60 = .ok (.istore 5, 2) := by decide +kernel
theorem dX11_toTheEnd_62 : decode cX11_toTheEnd 62 = .ok (.goto (-50), 3) := by decide +kernel
set_option maxRecDepth 20000 in
theorem ggX11_endsOf_X11_treats : GoodIn wsX11_endsOf wsX11_treats := goodIn_r _ [6, 1, 7, 46, 47, 48, 49, 50, 51, 52, 53] (by decide +kernel) (by decide +kernel)
set_option maxRecDepth 20000 in
theorem gX11_endsOf_X11_treats : GoodIn wsX11_endsOf (wsV RX11 93 RX11 yX11_treats wsX11_treats) := goodIn_app (goodIn_of _ (by decide +kernel)) ggX11_endsOf_X11_treats
set_option maxRecDepth 20000 in
theorem ggX11_endsOf_X11_saying : GoodIn wsX11_endsOf wsX11_saying := goodIn_r _ [11, 12, 13, 14, 5, 15, 1, 16, 17, 18, 19, 20, 21, 22, 23, 24, 25, 26, 27, 28, 29, 30, 31, 32, 33, 34, 35, 36, 37, 7, 38, 39, 40, 41, 46, 47, 48, 49, 50, 51, 52, 53] (by decide +kernel) (by decide +kernel)
set_option maxRecDepth 20000 in
theorem gX11_endsOf_X11_saying : GoodIn wsX11_endsOf (wsV RX11 90 RX11 yX11_saying wsX11_saying) := goodIn_app (goodIn_of _ (by decide +kernel)) ggX11_endsOf_X11_saying
set_option maxRecDepth 20000 in
theorem ggX11_endsOf_X11_toTheEnd : GoodIn wsX11_endsOf wsX11_toTheEnd := goodIn_r _ [45, 8, 9, 10, 5, 11, 12, 13, 14, 15, 1, 16, 17, 18, 19, 20, 21, 22, 23, 24, 25, 26, 27, 28, 29, 30, 31, 32, 33, 34, 35, 36, 37, 7, 38, 39, 40, 41, 46, 47, 48, 49, 50, 51, 52, 53] (by decide +kernel) (by decide +kernel)
set_option maxRecDepth 20000 in
theorem gX11_endsOf_X11_toTheEnd : GoodIn wsX11_endsOf (wsV RX11 96 RX11 yX11_toTheEnd wsX11_toTheEnd) := goodIn_app (goodIn_of _ (by decide +kernel)) ggX11_endsOf_X11_toTheEnd
theorem dX11_endsOf_0 : decode cX11_endsOf 0 = .ok (.iconst 0, 1) := by decide +kernel
theorem dX11_endsOf_1 : decode cX11_endsOf 1 = .ok (.istore_n 3, 1) := by decide +kernel
theorem dX11_endsOf_2 : decode cX11_endsOf 2 = .ok (.iload_n 1, 1) := by decide +kernel
theorem dX11_endsOf_3 : decode cX11_endsOf 3 = .ok (.istore 4, 2) := by decide +kernel
theorem dX11_endsOf_5 : decode cX11_endsOf 5 = .ok (.aload_n 0, 1) := by decide +kernel
theorem dX11_endsOf_6 : decode cX11_endsOf 6 = .ok (.iload 4, 2) := by decide +kernel
theorem dX11_endsOf_8 : decode cX11_endsOf 8 = .ok (.iload_n 2, 1) := by decide +kernel
theorem dX11_endsOf_9 : decode cX11_endsOf 9 = .ok (.invokevirtual 93, 3) := by decide +kernel
theorem dX11_endsOf_12 : decode cX11_endsOf 12 = .ok (.istore 5, 2) := by decide +kernel
theorem dX11_endsOf_14 : decode cX11_endsOf 14 = .ok (.aload_n 0, 1) := by decide +kernel
theorem dX11_endsOf_15 : decode cX11_endsOf 15 = .ok (.iload 4, 2) := by decide +kernel
theorem dX11_endsOf_17 : decode cX11_endsOf 17 = .ok (.iload_n 2, 1) := by decide +kernel
theorem dX11_endsOf_18 : decode cX11_endsOf 18 = .ok (.invokevirtual 90, 3) := by decide +kernel
theorem dX11_endsOf_21 : decode cX11_endsOf 21 = .ok (.istore 6, 2) := by decide +kernel
theorem dX11_endsOf_23 : decode cX11_endsOf 23 = .ok (.iload 6, 2) := by decide +kernel
theorem dX11_endsOf_25 : decode cX11_endsOf 25 = .ok (.bipush 10, 2) := by decide +kernel
theorem dX11_endsOf_27 : decode cX11_endsOf 27 = .ok (.irem, 1) := by decide +kernel
theorem dX11_endsOf_28 : decode cX11_endsOf 28 = .ok (.istore 7, 2) := by decide +kernel
theorem dX11_endsOf_30 : decode cX11_endsOf 30 = .ok (.aload_n 0, 1) := by decide +kernel
theorem dX11_endsOf_31 : decode cX11_endsOf 31 = .ok (.getfield 7, 3) := by decide +kernel
theorem dX11_endsOf_34 : decode cX11_endsOf 34 = .ok (.sipush 954, 3) := by decide +kernel
theorem dX11_endsOf_37 : decode cX11_endsOf 37 = .ok (.iload 4, 2) := by decide +kernel
theorem dX11_endsOf_39 : decode cX11_endsOf 39 = .ok (.iadd, 1) := by decide +kernel
theorem dX11_endsOf_40 : decode cX11_endsOf 40 = .ok (.iaload, 1) := by decide +kernel
theorem dX11_endsOf_41 : decode cX11_endsOf 41 = .ok (.istore 8, 2) := by decide +kernel
theorem dX11_endsOf_43 : decode cX11_endsOf 43 = .ok (.iload 5, 2) := by decide +kernel
theorem dX11_endsOf_45 : decode cX11_endsOf 45 = .ok (.iconst (-1), 1) := by decide +kernel
theorem dX11_endsOf_46 : decode cX11_endsOf 46 = .ok (.if_icmp .eq 6, 3) := by decide +kernel
theorem dX11_endsOf_49 : decode cX11_endsOf 49 = .ok (.iload 5, 2) := by decide +kernel
theorem dX11_endsOf_51 : decode cX11_endsOf 51 = .ok (.ireturn, 1) := by decide +kernel
theorem dX11_endsOf_52 : decode cX11_endsOf 52 = .ok (.iload 6, 2) := by decide +kernel
theorem dX11_endsOf_54 : decode cX11_endsOf 54 = .ok (.bipush 10, 2) := by decide +kernel
theorem dX11_endsOf_56 : decode cX11_endsOf 56 = .ok (.if_icmp .lt 15, 3) := by decide +kernel
theorem dX11_endsOf_59 : decode cX11_endsOf 59 = .ok (.iload 7, 2) := by decide +kernel
theorem dX11_endsOf_61 : decode cX11_endsOf 61 = .ok (.iload 4, 2) := by decide +kernel
theorem dX11_endsOf_63 : decode cX11_endsOf 63 = .ok (.if_icmp .eq 8, 3) := by decide +kernel
theorem dX11_endsOf_66 : decode cX11_endsOf 66 = .ok (.iload 8, 2) := by decide +kernel
theorem dX11_endsOf_68 : decode cX11_endsOf 68 = .ok (.ifCond .ne 6, 3) := by decide +kernel
theorem dX11_endsOf_71 : decode cX11_endsOf 71 = .ok (.iload 7, 2) := by decide +kernel
theorem dX11_endsOf_73 : decode cX11_endsOf 73 = .ok (.ireturn, 1) := by decide +kernel
theorem dX11_endsOf_74 : decode cX11_endsOf 74 = .ok (.iload 8, 2) := by decide +kernel
theorem dX11_endsOf_76 : decode cX11_endsOf 76 = .ok (.iconst 3, 1) := by decide +kernel
theorem dX11_endsOf_77 : decode cX11_endsOf 77 = .ok (.if_icmp .ge 32, 3) := by decide +kernel
theorem dX11_endsOf_80 : decode cX11_endsOf 80 = .ok (.iload 8, 2) := by decide +kernel
theorem dX11_endsOf_82 : decode cX11_endsOf 82 = .ok (.iconst 1, 1) := by decide +kernel
theorem dX11_endsOf_83 : decode cX11_endsOf 83 = .ok (.if_icmp .ne 16, 3) := by decide +kernel
theorem dX11_endsOf_86 : decode cX11_endsOf 86 = .ok (.aload_n 0, 1) := by decide +kernel
theorem dX11_endsOf_87 : decode cX11_endsOf 87 = .ok (.iload 7, 2) := by decide +kernel
theorem dX11_endsOf_89 : decode cX11_endsOf 89 = .ok (.iload_n 2, 1) := by decide +kernel
theorem dX11_endsOf_90 : decode cX11_endsOf 90 = .ok (.invokevirtual 90, 3) := by decide +kernel
theorem dX11_endsOf_93 : decode cX11_endsOf 93 = .ok (.bipush 10, 2) := by decide +kernel
theorem dX11_endsOf_95 : decode cX11_endsOf 95 = .ok (.irem, 1) := by decide +kernel
theorem dX11_endsOf_96 : decode cX11_endsOf 96 = .ok (.goto 12, 3) := by decide +kernel
theorem dX11_endsOf_99 : decode cX11_endsOf 99 = .ok (.aload_n 0, 1) := by decide +kernel
theorem dX11_endsOf_100 : decode cX11_endsOf 100 = .ok (.iload 4, 2) := by decide +kernel
theorem dX11_endsOf_102 : decode cX11_endsOf 102 = .ok (.iload 7, 2) := by decide +kernel
theorem dX11_endsOf_104 : decode cX11_endsOf 104 = .ok (.iload_n 2, 1) := by decide +kernel
theorem dX11_endsOf_105 : decode cX11_endsOf 105 = .ok (.invokevirtual 96, 3) := by decide +kernel
theorem dX11_endsOf_108 : decode cX11_endsOf 108 = .ok (.ireturn, 1) := by decide +kernel
theorem dX11_endsOf_109 : decode cX11_endsOf 109 = .ok (.iload_n 3, 1) := by decide +kernel
theorem dX11_endsOf_110 : decode cX11_endsOf 110 = .ok (.iconst 1, 1) := by decide +kernel
theorem dX11_endsOf_111 : decode cX11_endsOf 111 = .ok (.iload 4, 2) := by decide +kernel
theorem dX11_endsOf_113 : decode cX11_endsOf 113 = .ok (.ishl, 1) := by decide +kernel
theorem dX11_endsOf_114 : decode cX11_endsOf 114 = .ok (.ior, 1) := by decide +kernel
theorem dX11_endsOf_115 : decode cX11_endsOf 115 = .ok (.istore_n 3, 1) := by decide +kernel
theorem dX11_endsOf_116 : decode cX11_endsOf 116 = .ok (.iload_n 3, 1) := by decide +kernel
theorem dX11_endsOf_117 : decode cX11_endsOf 117 = .ok (.iload 7, 2) := by decide +kernel
theorem dX11_endsOf_119 : decode cX11_endsOf 119 = .ok (.ishr, 1) := by decide +kernel
theorem dX11_endsOf_120 : decode cX11_endsOf 120 = .ok (.iconst 1, 1) := by decide +kernel
theorem dX11_endsOf_121 : decode cX11_endsOf 121 = .ok (.iand, 1) := by decide +kernel
theorem dX11_endsOf_122 : decode cX11_endsOf 122 = .ok (.iconst 1, 1) := by decide +kernel
theorem dX11_endsOf_123 : decode cX11_endsOf 123 = .ok (.if_icmp .ne 6, 3) := by decide +kernel
theorem dX11_endsOf_126 : decode cX11_endsOf 126 = .ok (.bipush (-5), 2) := by decide +kernel
theorem dX11_endsOf_128 : decode cX11_endsOf 128 = .ok (.ireturn, 1) := by decide +kernel
theorem dX11_endsOf_129 : decode cX11_endsOf 129 = .ok (.iload 7, 2) := by decide +kernel
theorem dX11_endsOf_131 : decode cX11_endsOf 131 = .ok (.istore 4, 2) := by decide +kernel
theorem dX11_endsOf_133 : decode cX11_endsOf 133 = .ok (.goto (-128), 3) := by decide +kernel
set_option maxRecDepth 20000 in
theorem ggX11_ends_X11_isAsked : GoodIn wsX11_ends wsX11_isAsked := goodIn_r _ [5, 6, 7, 4, 8, 9, 10, 11, 12, 13, 14, 15, 16, 17, 18, 19, 71, 72, 73, 74, 75, 76, 77, 78] (by decide +kernel) (by decide +kernel)
set_option maxRecDepth 20000 in
theorem gX11_ends_X11_isAsked : GoodIn wsX11_ends (wsV RX11 87 RX11 yX11_isAsked wsX11_isAsked) := goodIn_app (goodIn_of _ (by decide +kernel)) ggX11_ends_X11_isAsked
set_option maxRecDepth 20000 in
theorem ggX11_ends_X11_looksAt : GoodIn wsX11_ends wsX11_looksAt := goodIn_r _ [23, 16, 24, 25, 71, 72, 73, 74, 75, 76, 77, 78] (by decide +kernel) (by decide +kernel)
set_option maxRecDepth 20000 in
theorem gX11_ends_X11_looksAt : GoodIn wsX11_ends (wsV RX11 52 RX11 yX11_looksAt wsX11_looksAt) := goodIn_app (goodIn_of _ (by decide +kernel)) ggX11_ends_X11_looksAt
set_option maxRecDepth 20000 in
theorem ggX11_ends_X11_endsOf : GoodIn wsX11_ends wsX11_endsOf := goodIn_r _ [29, 16, 30, 31, 32, 4, 33, 25, 34, 35, 36, 37, 38, 39, 40, 41, 42, 43, 44, 45, 46, 47, 48, 49, 50, 51, 52, 53, 54, 55, 56, 57, 58, 24, 59, 60, 61, 62, 63, 64, 65, 66, 67, 68, 69, 70, 71, 72, 73, 74, 75, 76, 77, 78] (by decide +kernel) (by decide +kernel)
set_option maxRecDepth 20000 in
theorem gX11_ends_X11_endsOf : GoodIn wsX11_ends (wsV RX11 100 RX11 yX11_endsOf wsX11_endsOf) := goodIn_app (goodIn_of _ (by decide +kernel)) ggX11_ends_X11_endsOf
theorem dX11_ends_0 : decode cX11_ends 0 = .ok (.aload_n 0, 1) := by decide +kernel
theorem dX11_ends_1 : decode cX11_ends 1 = .ok (.iload_n 1, 1) := by decide +kernel
theorem dX11_ends_2 : decode cX11_ends 2 = .ok (.iload_n 2, 1) := by decide +kernel
theorem dX11_ends_3 : decode cX11_ends 3 = .ok (.iload_n 3, 1) := by decide +kernel
theorem dX11_ends_4 : decode cX11_ends 4 = .ok (.invokevirtual 87, 3) := by decide +kernel
theorem dX11_ends_7 : decode cX11_ends 7 = .ok (.ifCond .ne 6, 3) := by decide +kernel
theorem dX11_ends_10 : decode cX11_ends 10 = .ok (.bipush (-2), 2) := by decide +kernel
theorem dX11_ends_12 : decode cX11_ends 12 = .ok (.ireturn, 1) := by decide +kernel
theorem dX11_ends_13 : decode cX11_ends 13 = .ok (.aload_n 0, 1) := by decide +kernel
theorem dX11_ends_14 : decode cX11_ends 14 = .ok (.iload_n 2, 1) := by decide +kernel
theorem dX11_ends_15 : decode cX11_ends 15 = .ok (.invokevirtual 52, 3) := by decide +kernel
theorem dX11_ends_18 : decode cX11_ends 18 = .ok (.aload_n 0, 1) := by decide +kernel
theorem dX11_ends_19 : decode cX11_ends 19 = .ok (.iload_n 1, 1) := by decide +kernel
theorem dX11_ends_20 : decode cX11_ends 20 = .ok (.iload_n 3, 1) := by decide +kernel
theorem dX11_ends_21 : decode cX11_ends 21 = .ok (.invokevirtual 100, 3) := by decide +kernel
theorem dX11_ends_24 : decode cX11_ends 24 = .ok (.ireturn, 1) := by decide +kernel
set_option maxRecDepth 20000 in
theorem ggX11_findChain_X11_saying : GoodIn wsX11_findChain wsX11_saying := goodIn_r _ [7, 8, 9, 10, 6, 11, 12, 13, 14, 15, 16, 17, 18, 19, 20, 21, 22, 23, 24, 25, 26, 27, 28, 29, 30, 31, 32, 33, 34, 35, 36, 37, 38, 39, 40, 41, 42, 43, 44, 45, 46, 47] (by decide +kernel) (by decide +kernel)
set_option maxRecDepth 20000 in
theorem gX11_findChain_X11_saying : GoodIn wsX11_findChain (wsV RX11 90 RX11 yX11_saying wsX11_saying) := goodIn_app (goodIn_of _ (by decide +kernel)) ggX11_findChain_X11_saying
theorem dX11_findChain_0 : decode cX11_findChain 0 = .ok (.iconst 1, 1) := by decide +kernel
theorem dX11_findChain_1 : decode cX11_findChain 1 = .ok (.iload_n 1, 1) := by decide +kernel
theorem dX11_findChain_2 : decode cX11_findChain 2 = .ok (.ishl, 1) := by decide +kernel
theorem dX11_findChain_3 : decode cX11_findChain 3 = .ok (.istore 4, 2) := by decide +kernel
theorem dX11_findChain_5 : decode cX11_findChain 5 = .ok (.iload_n 1, 1) := by decide +kernel
theorem dX11_findChain_6 : decode cX11_findChain 6 = .ok (.istore 5, 2) := by decide +kernel
theorem dX11_findChain_8 : decode cX11_findChain 8 = .ok (.aload_n 0, 1) := by decide +kernel
theorem dX11_findChain_9 : decode cX11_findChain 9 = .ok (.iconst 1, 1) := by decide +kernel
theorem dX11_findChain_10 : decode cX11_findChain 10 = .ok (.putfield 103, 3) := by decide +kernel
theorem dX11_findChain_13 : decode cX11_findChain 13 = .ok (.aload_n 0, 1) := by decide +kernel
theorem dX11_findChain_14 : decode cX11_findChain 14 = .ok (.getfield 20, 3) := by decide +kernel
theorem dX11_findChain_17 : decode cX11_findChain 17 = .ok (.iload_n 3, 1) := by decide +kernel
theorem dX11_findChain_18 : decode cX11_findChain 18 = .ok (.iload_n 1, 1) := by decide +kernel
theorem dX11_findChain_19 : decode cX11_findChain 19 = .ok (.iastore, 1) := by decide +kernel
theorem dX11_findChain_20 : decode cX11_findChain 20 = .ok (.iconst 1, 1) := by decide +kernel
theorem dX11_findChain_21 : decode cX11_findChain 21 = .ok (.istore 6, 2) := by decide +kernel
theorem dX11_findChain_23 : decode cX11_findChain 23 = .ok (.iload 6, 2) := by decide +kernel
theorem dX11_findChain_25 : decode cX11_findChain 25 = .ok (.ifCond .eq 106, 3) := by decide +kernel
theorem dX11_findChain_28 : decode cX11_findChain 28 = .ok (.aload_n 0, 1) := by decide +kernel
theorem dX11_findChain_29 : decode cX11_findChain 29 = .ok (.iload 5, 2) := by decide +kernel
theorem dX11_findChain_31 : decode cX11_findChain 31 = .ok (.iload_n 2, 1) := by decide +kernel
theorem dX11_findChain_32 : decode cX11_findChain 32 = .ok (.invokevirtual 90, 3) := by decide +kernel
theorem dX11_findChain_35 : decode cX11_findChain 35 = .ok (.istore 7, 2) := by decide +kernel
theorem dX11_findChain_37 : decode cX11_findChain 37 = .ok (.iload 7, 2) := by decide +kernel
theorem dX11_findChain_39 : decode cX11_findChain 39 = .ok (.bipush 10, 2) := by decide +kernel
theorem dX11_findChain_41 : decode cX11_findChain 41 = .ok (.irem, 1) := by decide +kernel
theorem dX11_findChain_42 : decode cX11_findChain 42 = .ok (.istore 8, 2) := by decide +kernel
theorem dX11_findChain_44 : decode cX11_findChain 44 = .ok (.iload 7, 2) := by decide +kernel
theorem dX11_findChain_46 : decode cX11_findChain 46 = .ok (.bipush 10, 2) := by decide +kernel
theorem dX11_findChain_48 : decode cX11_findChain 48 = .ok (.if_icmp .lt 17, 3) := by decide +kernel
theorem dX11_findChain_51 : decode cX11_findChain 51 = .ok (.iload 4, 2) := by decide +kernel
theorem dX11_findChain_53 : decode cX11_findChain 53 = .ok (.iload 8, 2) := by decide +kernel
theorem dX11_findChain_55 : decode cX11_findChain 55 = .ok (.ishr, 1) := by decide +kernel
theorem dX11_findChain_56 : decode cX11_findChain 56 = .ok (.iconst 1, 1) := by decide +kernel
theorem dX11_findChain_57 : decode cX11_findChain 57 = .ok (.iand, 1) := by decide +kernel
theorem dX11_findChain_58 : decode cX11_findChain 58 = .ok (.ifCond .ne 7, 3) := by decide +kernel
theorem dX11_findChain_61 : decode cX11_findChain 61 = .ok (.iconst 1, 1) := by decide +kernel
theorem dX11_findChain_62 : decode cX11_findChain 62 = .ok (.goto 4, 3) := by decide +kernel
theorem dX11_findChain_65 : decode cX11_findChain 65 = .ok (.iconst 0, 1) := by decide +kernel
theorem dX11_findChain_66 : decode cX11_findChain 66 = .ok (.istore 6, 2) := by decide +kernel
theorem dX11_findChain_68 : decode cX11_findChain 68 = .ok (.iload 6, 2) := by decide +kernel
theorem dX11_findChain_70 : decode cX11_findChain 70 = .ok (.ifCond .eq 42, 3) := by decide +kernel
theorem dX11_findChain_73 : decode cX11_findChain 73 = .ok (.aload_n 0, 1) := by decide +kernel
theorem dX11_findChain_74 : decode cX11_findChain 74 = .ok (.getfield 20, 3) := by decide +kernel
theorem dX11_findChain_77 : decode cX11_findChain 77 = .ok (.iload_n 3, 1) := by decide +kernel
theorem dX11_findChain_78 : decode cX11_findChain 78 = .ok (.aload_n 0, 1) := by decide +kernel
theorem dX11_findChain_79 : decode cX11_findChain 79 = .ok (.getfield 103, 3) := by decide +kernel
theorem dX11_findChain_82 : decode cX11_findChain 82 = .ok (.iadd, 1) := by decide +kernel
theorem dX11_findChain_83 : decode cX11_findChain 83 = .ok (.iload 8, 2) := by decide +kernel
theorem dX11_findChain_85 : decode cX11_findChain 85 = .ok (.iastore, 1) := by decide +kernel
theorem dX11_findChain_86 : decode cX11_findChain 86 = .ok (.aload_n 0, 1) := by decide +kernel
theorem dX11_findChain_87 : decode cX11_findChain 87 = .ok (.dup, 1) := by decide +kernel
theorem dX11_findChain_88 : decode cX11_findChain 88 = .ok (.getfield 103, 3) := by decide +kernel
theorem dX11_findChain_91 : decode cX11_findChain 91 = .ok (.iconst 1, 1) := by decide +kernel
theorem dX11_findChain_92 : decode cX11_findChain 92 = .ok (.iadd, 1) := by decide +kernel
theorem dX11_findChain_93 : decode cX11_findChain 93 = .ok (.putfield 103, 3) := by decide +kernel
theorem dX11_findChain_96 : decode cX11_findChain 96 = .ok (.iload 4, 2) := by decide +kernel
theorem dX11_findChain_98 : decode cX11_findChain 98 = .ok (.iconst 1, 1) := by decide +kernel
theorem dX11_findChain_99 : decode cX11_findChain 99 = .ok (.iload 8, 2) := by decide +kernel
theorem dX11_findChain_101 : decode cX11_findChain 101 = .ok (.ishl, 1) := by decide +kernel
theorem dX11_findChain_102 : decode cX11_findChain 102 = .ok (.ior, 1) := by decide +kernel
theorem dX11_findChain_103 : decode cX11_findChain 103 = .ok (.istore 4, 2) := by decide +kernel
theorem dX11_findChain_105 : decode cX11_findChain 105 = .ok (.iload 8, 2) := by decide +kernel
theorem dX11_findChain_107 : decode cX11_findChain 107 = .ok (.istore 5, 2) := by decide +kernel
theorem dX11_findChain_109 : decode cX11_findChain 109 = .ok (.goto 19, 3) := by decide +kernel
theorem dX11_findChain_112 : decode cX11_findChain 112 = .ok (.aload_n 0, 1) := by decide +kernel
theorem dX11_findChain_113 : decode cX11_findChain 113 = .ok (.getfield 20, 3) := by decide +kernel
theorem dX11_findChain_116 : decode cX11_findChain 116 = .ok (.iload_n 3, 1) := by decide +kernel
theorem dX11_findChain_117 : decode cX11_findChain 117 = .ok (.aload_n 0, 1) := by decide +kernel
theorem dX11_findChain_118 : decode cX11_findChain 118 = .ok (.getfield 103, 3) := by decide +kernel
theorem dX11_findChain_121 : decode cX11_findChain 121 = .ok (.iadd, 1) := by decide +kernel
theorem dX11_findChain_122 : decode cX11_findChain 122 = .ok (.bipush 100, 2) := by decide +kernel
theorem dX11_findChain_124 : decode cX11_findChain 124 = .ok (.iload 7, 2) := by decide +kernel
theorem dX11_findChain_126 : decode cX11_findChain 126 = .ok (.iadd, 1) := by decide +kernel
theorem dX11_findChain_127 : decode cX11_findChain 127 = .ok (.iastore, 1) := by decide +kernel
theorem dX11_findChain_128 : decode cX11_findChain 128 = .ok (.goto (-105), 3) := by decide +kernel
theorem dX11_findChain_131 : decode cX11_findChain 131 = .ok (.return_, 1) := by decide +kernel
set_option maxRecDepth 20000 in
theorem ggX11_chain_X11_isAsked : GoodIn wsX11_chain wsX11_isAsked := goodIn_r _ [7, 8, 9, 6, 10, 11, 12, 13, 14, 15, 16, 17, 18, 19, 20, 21, 65, 66, 67, 68, 69, 70, 71, 72] (by decide +kernel) (by decide +kernel)
set_option maxRecDepth 20000 in
theorem gX11_chain_X11_isAsked : GoodIn wsX11_chain (wsV RX11 87 RX11 yX11_isAsked wsX11_isAsked) := goodIn_app (goodIn_of _ (by decide +kernel)) ggX11_chain_X11_isAsked
set_option maxRecDepth 20000 in
theorem ggX11_chain_X11_looksAt : GoodIn wsX11_chain wsX11_looksAt := goodIn_r _ [25, 18, 26, 27, 65, 66, 67, 68, 69, 70, 71, 72] (by decide +kernel) (by decide +kernel)
set_option maxRecDepth 20000 in
theorem gX11_chain_X11_looksAt : GoodIn wsX11_chain (wsV RX11 52 RX11 yX11_looksAt wsX11_looksAt) := goodIn_app (goodIn_of _ (by decide +kernel)) ggX11_chain_X11_looksAt
set_option maxRecDepth 20000 in
theorem ggX11_chain_X11_findChain : GoodIn wsX11_chain wsX11_findChain := goodIn_r _ [31, 1, 2, 32, 33, 34, 6, 35, 36, 37, 38, 39, 18, 40, 41, 42, 43, 44, 45, 46, 47, 48, 49, 50, 51, 52, 53, 54, 55, 56, 26, 57, 58, 59, 60, 27, 61, 62, 63, 64, 65, 66, 67, 68, 69, 70, 71, 72] (by decide +kernel) (by decide +kernel)
set_option maxRecDepth 20000 in
theorem gX11_chain_X11_findChain : GoodIn wsX11_chain (wsV RX11 106 RX11 yX11_findChain wsX11_findChain) := goodIn_app (goodIn_of _ (by decide +kernel)) ggX11_chain_X11_findChain
theorem dX11_chain_0 : decode cX11_chain 0 = .ok (.aload_n 0, 1) := by decide +kernel
theorem dX11_chain_1 : decode cX11_chain 1 = .ok (.iload_n 1, 1) := by decide +kernel
theorem dX11_chain_2 : decode cX11_chain 2 = .ok (.iload_n 2, 1) := by decide +kernel
theorem dX11_chain_3 : decode cX11_chain 3 = .ok (.iload_n 3, 1) := by decide +kernel
theorem dX11_chain_4 : decode cX11_chain 4 = .ok (.invokevirtual 87, 3) := by decide +kernel
theorem dX11_chain_7 : decode cX11_chain 7 = .ok (.ifCond .eq 16, 3) := by decide +kernel
theorem dX11_chain_10 : decode cX11_chain 10 = .ok (.iload 4, 2) := by decide +kernel
theorem dX11_chain_12 : decode cX11_chain 12 = .ok (.iconst (-1), 1) := by decide +kernel
theorem dX11_chain_13 : decode cX11_chain 13 = .ok (.if_icmp .ge 13, 3) := by decide +kernel
theorem dX11_chain_16 : decode cX11_chain 16 = .ok (.iload 4, 2) := by decide +kernel
theorem dX11_chain_18 : decode cX11_chain 18 = .ok (.bipush (-3), 2) := by decide +kernel
theorem dX11_chain_20 : decode cX11_chain 20 = .ok (.if_icmp .eq 6, 3) := by decide +kernel
theorem dX11_chain_23 : decode cX11_chain 23 = .ok (.bipush (-10), 2) := by decide +kernel
theorem dX11_chain_25 : decode cX11_chain 25 = .ok (.ireturn, 1) := by decide +kernel
theorem dX11_chain_26 : decode cX11_chain 26 = .ok (.aload_n 0, 1) := by decide +kernel
theorem dX11_chain_27 : decode cX11_chain 27 = .ok (.iload_n 2, 1) := by decide +kernel
theorem dX11_chain_28 : decode cX11_chain 28 = .ok (.invokevirtual 52, 3) := by decide +kernel
theorem dX11_chain_31 : decode cX11_chain 31 = .ok (.aload_n 0, 1) := by decide +kernel
theorem dX11_chain_32 : decode cX11_chain 32 = .ok (.iload_n 1, 1) := by decide +kernel
theorem dX11_chain_33 : decode cX11_chain 33 = .ok (.iload_n 3, 1) := by decide +kernel
theorem dX11_chain_34 : decode cX11_chain 34 = .ok (.iconst 0, 1) := by decide +kernel
theorem dX11_chain_35 : decode cX11_chain 35 = .ok (.invokevirtual 106, 3) := by decide +kernel
theorem dX11_chain_38 : decode cX11_chain 38 = .ok (.iload 4, 2) := by decide +kernel
theorem dX11_chain_40 : decode cX11_chain 40 = .ok (.ifCond .ge 29, 3) := by decide +kernel
theorem dX11_chain_43 : decode cX11_chain 43 = .ok (.iload 4, 2) := by decide +kernel
theorem dX11_chain_45 : decode cX11_chain 45 = .ok (.iconst (-1), 1) := by decide +kernel
theorem dX11_chain_46 : decode cX11_chain 46 = .ok (.if_icmp .ne 10, 3) := by decide +kernel
theorem dX11_chain_49 : decode cX11_chain 49 = .ok (.aload_n 0, 1) := by decide +kernel
theorem dX11_chain_50 : decode cX11_chain 50 = .ok (.getfield 103, 3) := by decide +kernel
theorem dX11_chain_53 : decode cX11_chain 53 = .ok (.goto 15, 3) := by decide +kernel
theorem dX11_chain_56 : decode cX11_chain 56 = .ok (.aload_n 0, 1) := by decide +kernel
theorem dX11_chain_57 : decode cX11_chain 57 = .ok (.getfield 20, 3) := by decide +kernel
theorem dX11_chain_60 : decode cX11_chain 60 = .ok (.aload_n 0, 1) := by decide +kernel
theorem dX11_chain_61 : decode cX11_chain 61 = .ok (.getfield 103, 3) := by decide +kernel
theorem dX11_chain_64 : decode cX11_chain 64 = .ok (.iaload, 1) := by decide +kernel
theorem dX11_chain_65 : decode cX11_chain 65 = .ok (.bipush 100, 2) := by decide +kernel
theorem dX11_chain_67 : decode cX11_chain 67 = .ok (.isub, 1) := by decide +kernel
theorem dX11_chain_68 : decode cX11_chain 68 = .ok (.ireturn, 1) := by decide +kernel
theorem dX11_chain_69 : decode cX11_chain 69 = .ok (.iload 4, 2) := by decide +kernel
theorem dX11_chain_71 : decode cX11_chain 71 = .ok (.aload_n 0, 1) := by decide +kernel
theorem dX11_chain_72 : decode cX11_chain 72 = .ok (.getfield 103, 3) := by decide +kernel
theorem dX11_chain_75 : decode cX11_chain 75 = .ok (.if_icmp .ge 13, 3) := by decide +kernel
theorem dX11_chain_78 : decode cX11_chain 78 = .ok (.aload_n 0, 1) := by decide +kernel
theorem dX11_chain_79 : decode cX11_chain 79 = .ok (.getfield 20, 3) := by decide +kernel
theorem dX11_chain_82 : decode cX11_chain 82 = .ok (.iload 4, 2) := by decide +kernel
theorem dX11_chain_84 : decode cX11_chain 84 = .ok (.iaload, 1) := by decide +kernel
theorem dX11_chain_85 : decode cX11_chain 85 = .ok (.goto 5, 3) := by decide +kernel
theorem dX11_chain_88 : decode cX11_chain 88 = .ok (.bipush (-5), 2) := by decide +kernel
theorem dX11_chain_90 : decode cX11_chain 90 = .ok (.ireturn, 1) := by decide +kernel
set_option maxRecDepth 20000 in
theorem ggX11_parts_X11_isAsked : GoodIn wsX11_parts wsX11_isAsked := goodIn_r _ [6, 7, 8, 5, 9, 10, 11, 12, 13, 14, 15, 16, 17, 18, 19, 20, 65, 66, 67, 68, 69, 70, 71, 72] (by decide +kernel) (by decide +kernel)
set_option maxRecDepth 20000 in
theorem gX11_parts_X11_isAsked : GoodIn wsX11_parts (wsV RX11 87 RX11 yX11_isAsked wsX11_isAsked) := goodIn_app (goodIn_of _ (by decide +kernel)) ggX11_parts_X11_isAsked
set_option maxRecDepth 20000 in
theorem ggX11_parts_X11_isLand : GoodIn wsX11_parts wsX11_isLand := goodIn_r _ [9, 10, 11, 5, 12] (by decide +kernel) (by decide +kernel)
set_option maxRecDepth 20000 in
theorem gX11_parts_X11_isLand : GoodIn wsX11_parts (va_wsS RX11 56 yX11_isLand wsX11_isLand) := goodIn_app (goodIn_of _ (by decide +kernel)) ggX11_parts_X11_isLand
set_option maxRecDepth 20000 in
theorem ggX11_parts_X11_looksAt : GoodIn wsX11_parts wsX11_looksAt := goodIn_r _ [24, 17, 25, 26, 65, 66, 67, 68, 69, 70, 71, 72] (by decide +kernel) (by decide +kernel)
set_option maxRecDepth 20000 in
theorem gX11_parts_X11_looksAt : GoodIn wsX11_parts (wsV RX11 52 RX11 yX11_looksAt wsX11_looksAt) := goodIn_app (goodIn_of _ (by decide +kernel)) ggX11_parts_X11_looksAt
set_option maxRecDepth 20000 in
theorem ggX11_parts_X11_findChain : GoodIn wsX11_parts wsX11_findChain := goodIn_r _ [30, 31, 1, 32, 33, 34, 5, 35, 36, 37, 38, 39, 17, 40, 41, 42, 43, 44, 45, 46, 47, 48, 49, 50, 51, 52, 53, 54, 55, 56, 25, 57, 58, 59, 60, 26, 61, 62, 63, 64, 65, 66, 67, 68, 69, 70, 71, 72] (by decide +kernel) (by decide +kernel)
set_option maxRecDepth 20000 in
theorem gX11_parts_X11_findChain : GoodIn wsX11_parts (wsV RX11 106 RX11 yX11_findChain wsX11_findChain) := goodIn_app (goodIn_of _ (by decide +kernel)) ggX11_parts_X11_findChain
theorem dX11_parts_0 : decode cX11_parts 0 = .ok (.aload_n 0, 1) := by decide +kernel
theorem dX11_parts_1 : decode cX11_parts 1 = .ok (.iload_n 1, 1) := by decide +kernel
theorem dX11_parts_2 : decode cX11_parts 2 = .ok (.iload_n 3, 1) := by decide +kernel
theorem dX11_parts_3 : decode cX11_parts 3 = .ok (.iload 4, 2) := by decide +kernel
theorem dX11_parts_5 : decode cX11_parts 5 = .ok (.invokevirtual 87, 3) := by decide +kernel
theorem dX11_parts_8 : decode cX11_parts 8 = .ok (.ifCond .eq 15, 3) := by decide +kernel
theorem dX11_parts_11 : decode cX11_parts 11 = .ok (.iload_n 2, 1) := by decide +kernel
theorem dX11_parts_12 : decode cX11_parts 12 = .ok (.invokestatic 56, 3) := by decide +kernel
theorem dX11_parts_15 : decode cX11_parts 15 = .ok (.ifCond .eq 8, 3) := by decide +kernel
theorem dX11_parts_18 : decode cX11_parts 18 = .ok (.iload_n 1, 1) := by decide +kernel
theorem dX11_parts_19 : decode cX11_parts 19 = .ok (.iload_n 2, 1) := by decide +kernel
theorem dX11_parts_20 : decode cX11_parts 20 = .ok (.if_icmp .ne 6, 3) := by decide +kernel
theorem dX11_parts_23 : decode cX11_parts 23 = .ok (.bipush (-2), 2) := by decide +kernel
theorem dX11_parts_25 : decode cX11_parts 25 = .ok (.ireturn, 1) := by decide +kernel
theorem dX11_parts_26 : decode cX11_parts 26 = .ok (.aload_n 0, 1) := by decide +kernel
theorem dX11_parts_27 : decode cX11_parts 27 = .ok (.iload_n 3, 1) := by decide +kernel
theorem dX11_parts_28 : decode cX11_parts 28 = .ok (.invokevirtual 52, 3) := by decide +kernel
theorem dX11_parts_31 : decode cX11_parts 31 = .ok (.aload_n 0, 1) := by decide +kernel
theorem dX11_parts_32 : decode cX11_parts 32 = .ok (.iload_n 1, 1) := by decide +kernel
theorem dX11_parts_33 : decode cX11_parts 33 = .ok (.iload 4, 2) := by decide +kernel
theorem dX11_parts_35 : decode cX11_parts 35 = .ok (.iconst 0, 1) := by decide +kernel
theorem dX11_parts_36 : decode cX11_parts 36 = .ok (.invokevirtual 106, 3) := by decide +kernel
theorem dX11_parts_39 : decode cX11_parts 39 = .ok (.aload_n 0, 1) := by decide +kernel
theorem dX11_parts_40 : decode cX11_parts 40 = .ok (.iload_n 2, 1) := by decide +kernel
theorem dX11_parts_41 : decode cX11_parts 41 = .ok (.iload 4, 2) := by decide +kernel
theorem dX11_parts_43 : decode cX11_parts 43 = .ok (.iconst 5, 1) := by decide +kernel
theorem dX11_parts_44 : decode cX11_parts 44 = .ok (.invokevirtual 106, 3) := by decide +kernel
theorem dX11_parts_47 : decode cX11_parts 47 = .ok (.iconst 1, 1) := by decide +kernel
theorem dX11_parts_48 : decode cX11_parts 48 = .ok (.istore 5, 2) := by decide +kernel
theorem dX11_parts_50 : decode cX11_parts 50 = .ok (.iload 5, 2) := by decide +kernel
theorem dX11_parts_52 : decode cX11_parts 52 = .ok (.iconst 5, 1) := by decide +kernel
theorem dX11_parts_53 : decode cX11_parts 53 = .ok (.if_icmp .ge 45, 3) := by decide +kernel
theorem dX11_parts_56 : decode cX11_parts 56 = .ok (.aload_n 0, 1) := by decide +kernel
theorem dX11_parts_57 : decode cX11_parts 57 = .ok (.getfield 20, 3) := by decide +kernel
theorem dX11_parts_60 : decode cX11_parts 60 = .ok (.iload 5, 2) := by decide +kernel
theorem dX11_parts_62 : decode cX11_parts 62 = .ok (.iaload, 1) := by decide +kernel
theorem dX11_parts_63 : decode cX11_parts 63 = .ok (.aload_n 0, 1) := by decide +kernel
theorem dX11_parts_64 : decode cX11_parts 64 = .ok (.getfield 20, 3) := by decide +kernel
theorem dX11_parts_67 : decode cX11_parts 67 = .ok (.iconst 5, 1) := by decide +kernel
theorem dX11_parts_68 : decode cX11_parts 68 = .ok (.iload 5, 2) := by decide +kernel
theorem dX11_parts_70 : decode cX11_parts 70 = .ok (.iadd, 1) := by decide +kernel
theorem dX11_parts_71 : decode cX11_parts 71 = .ok (.iaload, 1) := by decide +kernel
theorem dX11_parts_72 : decode cX11_parts 72 = .ok (.if_icmp .eq 6, 3) := by decide +kernel
theorem dX11_parts_75 : decode cX11_parts 75 = .ok (.iload 5, 2) := by decide +kernel
theorem dX11_parts_77 : decode cX11_parts 77 = .ok (.ireturn, 1) := by decide +kernel
theorem dX11_parts_78 : decode cX11_parts 78 = .ok (.aload_n 0, 1) := by decide +kernel
theorem dX11_parts_79 : decode cX11_parts 79 = .ok (.getfield 20, 3) := by decide +kernel
theorem dX11_parts_82 : decode cX11_parts 82 = .ok (.iload 5, 2) := by decide +kernel
theorem dX11_parts_84 : decode cX11_parts 84 = .ok (.iaload, 1) := by decide +kernel
theorem dX11_parts_85 : decode cX11_parts 85 = .ok (.bipush 100, 2) := by decide +kernel
theorem dX11_parts_87 : decode cX11_parts 87 = .ok (.if_icmp .lt 5, 3) := by decide +kernel
theorem dX11_parts_90 : decode cX11_parts 90 = .ok (.iconst 0, 1) := by decide +kernel
theorem dX11_parts_91 : decode cX11_parts 91 = .ok (.ireturn, 1) := by decide +kernel
theorem dX11_parts_92 : decode cX11_parts 92 = .ok (.iinc 5 1, 3) := by decide +kernel
theorem dX11_parts_95 : decode cX11_parts 95 = .ok (.goto (-45), 3) := by decide +kernel
theorem dX11_parts_98 : decode cX11_parts 98 = .ok (.iconst 0, 1) := by decide +kernel
theorem dX11_parts_99 : decode cX11_parts 99 = .ok (.ireturn, 1) := by decide +kernel
set_option maxRecDepth 20000 in
theorem ggX11_endsIn_X11_isLand : GoodIn wsX11_endsIn wsX11_isLand := goodIn_r _ [4, 5, 6, 3, 7] (by decide +kernel) (by decide +kernel)
set_option maxRecDepth 20000 in
theorem gX11_endsIn_X11_isLand : GoodIn wsX11_endsIn (va_wsS RX11 56 yX11_isLand wsX11_isLand) := goodIn_app (goodIn_of _ (by decide +kernel)) ggX11_endsIn_X11_isLand
set_option maxRecDepth 20000 in
theorem ggX11_endsIn_X11_isKind : GoodIn wsX11_endsIn wsX11_isKind := goodIn_r _ [10, 5, 6, 3, 7] (by decide +kernel) (by decide +kernel)
set_option maxRecDepth 20000 in
theorem gX11_endsIn_X11_isKind : GoodIn wsX11_endsIn (va_wsS RX11 59 yX11_isKind wsX11_isKind) := goodIn_app (goodIn_of _ (by decide +kernel)) ggX11_endsIn_X11_isKind
set_option maxRecDepth 20000 in
theorem ggX11_endsIn_X11_isDay : GoodIn wsX11_endsIn wsX11_isDay := goodIn_r _ [13, 5, 6, 3, 7] (by decide +kernel) (by decide +kernel)
set_option maxRecDepth 20000 in
theorem gX11_endsIn_X11_isDay : GoodIn wsX11_endsIn (va_wsS RX11 33 yX11_isDay wsX11_isDay) := goodIn_app (goodIn_of _ (by decide +kernel)) ggX11_endsIn_X11_isDay
set_option maxRecDepth 20000 in
theorem ggX11_endsIn_X11_in : GoodIn wsX11_endsIn wsX11_in := goodIn_r _ [7] (by decide +kernel) (by decide +kernel)
set_option maxRecDepth 20000 in
theorem gX11_endsIn_X11_in : GoodIn wsX11_endsIn (va_wsS RX11 29 yX11_in wsX11_in) := goodIn_app (goodIn_of _ (by decide +kernel)) ggX11_endsIn_X11_in
set_option maxRecDepth 20000 in
theorem ggX11_endsIn_X11_looksAtNumber : GoodIn wsX11_endsIn wsX11_looksAtNumber := goodIn_r _ [17, 18, 19, 66, 67, 68, 69, 70, 71, 72, 73] (by decide +kernel) (by decide +kernel)
set_option maxRecDepth 20000 in
theorem gX11_endsIn_X11_looksAtNumber : GoodIn wsX11_endsIn (wsV RX11 110 RX11 yX11_looksAtNumber wsX11_looksAtNumber) := goodIn_app (goodIn_of _ (by decide +kernel)) ggX11_endsIn_X11_looksAtNumber
set_option maxRecDepth 20000 in
theorem ggX11_endsIn_X11_endsOf : GoodIn wsX11_endsIn wsX11_endsOf := goodIn_r _ [23, 24, 25, 26, 27, 3, 28, 19, 29, 30, 31, 32, 33, 34, 35, 36, 37, 38, 39, 40, 41, 42, 43, 44, 45, 46, 47, 48, 49, 50, 51, 52, 53, 18, 54, 55, 56, 57, 58, 59, 60, 61, 62, 63, 64, 65, 66, 67, 68, 69, 70, 71, 72, 73] (by decide +kernel) (by decide +kernel)
set_option maxRecDepth 20000 in
theorem gX11_endsIn_X11_endsOf : GoodIn wsX11_endsIn (wsV RX11 100 RX11 yX11_endsOf wsX11_endsOf) := goodIn_app (goodIn_of _ (by decide +kernel)) ggX11_endsIn_X11_endsOf
theorem dX11_endsIn_0 : decode cX11_endsIn 0 = .ok (.iload_n 1, 1) := by decide +kernel
theorem dX11_endsIn_1 : decode cX11_endsIn 1 = .ok (.invokestatic 56, 3) := by decide +kernel
theorem dX11_endsIn_4 : decode cX11_endsIn 4 = .ok (.ifCond .eq 29, 3) := by decide +kernel
theorem dX11_endsIn_7 : decode cX11_endsIn 7 = .ok (.iload_n 2, 1) := by decide +kernel
theorem dX11_endsIn_8 : decode cX11_endsIn 8 = .ok (.invokestatic 59, 3) := by decide +kernel
theorem dX11_endsIn_11 : decode cX11_endsIn 11 = .ok (.ifCond .eq 22, 3) := by decide +kernel
theorem dX11_endsIn_14 : decode cX11_endsIn 14 = .ok (.iload_n 3, 1) := by decide +kernel
theorem dX11_endsIn_15 : decode cX11_endsIn 15 = .ok (.invokestatic 33, 3) := by decide +kernel
theorem dX11_endsIn_18 : decode cX11_endsIn 18 = .ok (.ifCond .eq 15, 3) := by decide +kernel
theorem dX11_endsIn_21 : decode cX11_endsIn 21 = .ok (.iload 4, 2) := by decide +kernel
theorem dX11_endsIn_23 : decode cX11_endsIn 23 = .ok (.iconst 0, 1) := by decide +kernel
theorem dX11_endsIn_24 : decode cX11_endsIn 24 = .ok (.sipush 15624, 3) := by decide +kernel
theorem dX11_endsIn_27 : decode cX11_endsIn 27 = .ok (.invokestatic 29, 3) := by decide +kernel
theorem dX11_endsIn_30 : decode cX11_endsIn 30 = .ok (.ifCond .ne 6, 3) := by decide +kernel
theorem dX11_endsIn_33 : decode cX11_endsIn 33 = .ok (.bipush (-2), 2) := by decide +kernel
theorem dX11_endsIn_35 : decode cX11_endsIn 35 = .ok (.ireturn, 1) := by decide +kernel
theorem dX11_endsIn_36 : decode cX11_endsIn 36 = .ok (.aload_n 0, 1) := by decide +kernel
theorem dX11_endsIn_37 : decode cX11_endsIn 37 = .ok (.iload 4, 2) := by decide +kernel
theorem dX11_endsIn_39 : decode cX11_endsIn 39 = .ok (.iload_n 3, 1) := by decide +kernel
theorem dX11_endsIn_40 : decode cX11_endsIn 40 = .ok (.invokevirtual 110, 3) := by decide +kernel
theorem dX11_endsIn_43 : decode cX11_endsIn 43 = .ok (.aload_n 0, 1) := by decide +kernel
theorem dX11_endsIn_44 : decode cX11_endsIn 44 = .ok (.iload_n 1, 1) := by decide +kernel
theorem dX11_endsIn_45 : decode cX11_endsIn 45 = .ok (.iload_n 2, 1) := by decide +kernel
theorem dX11_endsIn_46 : decode cX11_endsIn 46 = .ok (.invokevirtual 100, 3) := by decide +kernel
theorem dX11_endsIn_49 : decode cX11_endsIn 49 = .ok (.ireturn, 1) := by decide +kernel
set_option maxRecDepth 20000 in
theorem ggX11_arePair_X11_isLand : GoodIn wsX11_arePair wsX11_isLand := goodIn_r _ [4, 5, 6, 3, 7] (by decide +kernel) (by decide +kernel)
set_option maxRecDepth 20000 in
theorem gX11_arePair_X11_isLand : GoodIn wsX11_arePair (va_wsS RX11 56 yX11_isLand wsX11_isLand) := goodIn_app (goodIn_of _ (by decide +kernel)) ggX11_arePair_X11_isLand
theorem dX11_arePair_0 : decode cX11_arePair 0 = .ok (.iload_n 0, 1) := by decide +kernel
theorem dX11_arePair_1 : decode cX11_arePair 1 = .ok (.invokestatic 56, 3) := by decide +kernel
theorem dX11_arePair_4 : decode cX11_arePair 4 = .ok (.ifCond .eq 19, 3) := by decide +kernel
theorem dX11_arePair_7 : decode cX11_arePair 7 = .ok (.iload_n 1, 1) := by decide +kernel
theorem dX11_arePair_8 : decode cX11_arePair 8 = .ok (.invokestatic 56, 3) := by decide +kernel
theorem dX11_arePair_11 : decode cX11_arePair 11 = .ok (.ifCond .eq 12, 3) := by decide +kernel
theorem dX11_arePair_14 : decode cX11_arePair 14 = .ok (.iload_n 0, 1) := by decide +kernel
theorem dX11_arePair_15 : decode cX11_arePair 15 = .ok (.iload_n 1, 1) := by decide +kernel
theorem dX11_arePair_16 : decode cX11_arePair 16 = .ok (.if_icmp .eq 7, 3) := by decide +kernel
theorem dX11_arePair_19 : decode cX11_arePair 19 = .ok (.iconst 1, 1) := by decide +kernel
theorem dX11_arePair_20 : decode cX11_arePair 20 = .ok (.goto 4, 3) := by decide +kernel
theorem dX11_arePair_23 : decode cX11_arePair 23 = .ok (.iconst 0, 1) := by decide +kernel
theorem dX11_arePair_24 : decode cX11_arePair 24 = .ok (.ireturn, 1) := by decide +kernel
set_option maxRecDepth 20000 in
theorem ggX11_unlike_X11_arePair : GoodIn wsX11_unlike wsX11_arePair := goodIn_r _ [4, 5, 6, 3, 7, 8, 9, 10] (by decide +kernel) (by decide +kernel)
set_option maxRecDepth 20000 in
theorem gX11_unlike_X11_arePair : GoodIn wsX11_unlike (va_wsS RX11 114 yX11_arePair wsX11_arePair) := goodIn_app (goodIn_of _ (by decide +kernel)) ggX11_unlike_X11_arePair
set_option maxRecDepth 20000 in
theorem ggX11_unlike_X11_isKind : GoodIn wsX11_unlike wsX11_isKind := goodIn_r _ [13, 8, 9, 3, 10] (by decide +kernel) (by decide +kernel)
set_option maxRecDepth 20000 in
theorem gX11_unlike_X11_isKind : GoodIn wsX11_unlike (va_wsS RX11 59 yX11_isKind wsX11_isKind) := goodIn_app (goodIn_of _ (by decide +kernel)) ggX11_unlike_X11_isKind
set_option maxRecDepth 20000 in
theorem ggX11_unlike_X11_isDay : GoodIn wsX11_unlike wsX11_isDay := goodIn_r _ [16, 8, 9, 3, 10] (by decide +kernel) (by decide +kernel)
set_option maxRecDepth 20000 in
theorem gX11_unlike_X11_isDay : GoodIn wsX11_unlike (va_wsS RX11 33 yX11_isDay wsX11_isDay) := goodIn_app (goodIn_of _ (by decide +kernel)) ggX11_unlike_X11_isDay
set_option maxRecDepth 20000 in
theorem ggX11_unlike_X11_looksAtNumber : GoodIn wsX11_unlike wsX11_looksAtNumber := goodIn_r _ [20, 21, 22, 69, 70, 71, 72, 73, 74, 75, 76] (by decide +kernel) (by decide +kernel)
set_option maxRecDepth 20000 in
theorem gX11_unlike_X11_looksAtNumber : GoodIn wsX11_unlike (wsV RX11 110 RX11 yX11_looksAtNumber wsX11_looksAtNumber) := goodIn_app (goodIn_of _ (by decide +kernel)) ggX11_unlike_X11_looksAtNumber
set_option maxRecDepth 20000 in
theorem ggX11_unlike_X11_endsOf : GoodIn wsX11_unlike wsX11_endsOf := goodIn_r _ [26, 27, 28, 29, 30, 3, 31, 22, 32, 33, 34, 35, 36, 37, 38, 39, 40, 41, 42, 43, 44, 45, 46, 47, 48, 49, 50, 51, 52, 53, 54, 55, 56, 21, 57, 58, 59, 60, 61, 62, 63, 64, 65, 66, 67, 68, 69, 70, 71, 72, 73, 74, 75, 76] (by decide +kernel) (by decide +kernel)
set_option maxRecDepth 20000 in
theorem gX11_unlike_X11_endsOf : GoodIn wsX11_unlike (wsV RX11 100 RX11 yX11_endsOf wsX11_endsOf) := goodIn_app (goodIn_of _ (by decide +kernel)) ggX11_unlike_X11_endsOf
theorem dX11_unlike_0 : decode cX11_unlike 0 = .ok (.iload_n 1, 1) := by decide +kernel
theorem dX11_unlike_1 : decode cX11_unlike 1 = .ok (.iload_n 2, 1) := by decide +kernel
theorem dX11_unlike_2 : decode cX11_unlike 2 = .ok (.invokestatic 114, 3) := by decide +kernel
theorem dX11_unlike_5 : decode cX11_unlike 5 = .ok (.ifCond .eq 18, 3) := by decide +kernel
theorem dX11_unlike_8 : decode cX11_unlike 8 = .ok (.iload_n 3, 1) := by decide +kernel
theorem dX11_unlike_9 : decode cX11_unlike 9 = .ok (.invokestatic 59, 3) := by decide +kernel
theorem dX11_unlike_12 : decode cX11_unlike 12 = .ok (.ifCond .eq 11, 3) := by decide +kernel
theorem dX11_unlike_15 : decode cX11_unlike 15 = .ok (.iload 4, 2) := by decide +kernel
theorem dX11_unlike_17 : decode cX11_unlike 17 = .ok (.invokestatic 33, 3) := by decide +kernel
theorem dX11_unlike_20 : decode cX11_unlike 20 = .ok (.ifCond .ne 6, 3) := by decide +kernel
theorem dX11_unlike_23 : decode cX11_unlike 23 = .ok (.bipush (-2), 2) := by decide +kernel
theorem dX11_unlike_25 : decode cX11_unlike 25 = .ok (.ireturn, 1) := by decide +kernel
theorem dX11_unlike_26 : decode cX11_unlike 26 = .ok (.iconst 0, 1) := by decide +kernel
theorem dX11_unlike_27 : decode cX11_unlike 27 = .ok (.istore 5, 2) := by decide +kernel
theorem dX11_unlike_29 : decode cX11_unlike 29 = .ok (.iconst 0, 1) := by decide +kernel
theorem dX11_unlike_30 : decode cX11_unlike 30 = .ok (.istore 6, 2) := by decide +kernel
theorem dX11_unlike_32 : decode cX11_unlike 32 = .ok (.iload 6, 2) := by decide +kernel
theorem dX11_unlike_34 : decode cX11_unlike 34 = .ok (.sipush 15625, 3) := by decide +kernel
theorem dX11_unlike_37 : decode cX11_unlike 37 = .ok (.if_icmp .ge 42, 3) := by decide +kernel
theorem dX11_unlike_40 : decode cX11_unlike 40 = .ok (.aload_n 0, 1) := by decide +kernel
theorem dX11_unlike_41 : decode cX11_unlike 41 = .ok (.iload 6, 2) := by decide +kernel
theorem dX11_unlike_43 : decode cX11_unlike 43 = .ok (.iload 4, 2) := by decide +kernel
theorem dX11_unlike_45 : decode cX11_unlike 45 = .ok (.invokevirtual 110, 3) := by decide +kernel
theorem dX11_unlike_48 : decode cX11_unlike 48 = .ok (.iload 5, 2) := by decide +kernel
theorem dX11_unlike_50 : decode cX11_unlike 50 = .ok (.aload_n 0, 1) := by decide +kernel
theorem dX11_unlike_51 : decode cX11_unlike 51 = .ok (.iload_n 1, 1) := by decide +kernel
theorem dX11_unlike_52 : decode cX11_unlike 52 = .ok (.iload_n 3, 1) := by decide +kernel
theorem dX11_unlike_53 : decode cX11_unlike 53 = .ok (.invokevirtual 100, 3) := by decide +kernel
theorem dX11_unlike_56 : decode cX11_unlike 56 = .ok (.aload_n 0, 1) := by decide +kernel
theorem dX11_unlike_57 : decode cX11_unlike 57 = .ok (.iload_n 2, 1) := by decide +kernel
theorem dX11_unlike_58 : decode cX11_unlike 58 = .ok (.iload_n 3, 1) := by decide +kernel
theorem dX11_unlike_59 : decode cX11_unlike 59 = .ok (.invokevirtual 100, 3) := by decide +kernel
theorem dX11_unlike_62 : decode cX11_unlike 62 = .ok (.if_icmp .eq 7, 3) := by decide +kernel
theorem dX11_unlike_65 : decode cX11_unlike 65 = .ok (.iconst 1, 1) := by decide +kernel
theorem dX11_unlike_66 : decode cX11_unlike 66 = .ok (.goto 4, 3) := by decide +kernel
theorem dX11_unlike_69 : decode cX11_unlike 69 = .ok (.iconst 0, 1) := by decide +kernel
theorem dX11_unlike_70 : decode cX11_unlike 70 = .ok (.iadd, 1) := by decide +kernel
theorem dX11_unlike_71 : decode cX11_unlike 71 = .ok (.istore 5, 2) := by decide +kernel
theorem dX11_unlike_73 : decode cX11_unlike 73 = .ok (.iinc 6 1, 3) := by decide +kernel
theorem dX11_unlike_76 : decode cX11_unlike 76 = .ok (.goto (-44), 3) := by decide +kernel
theorem dX11_unlike_79 : decode cX11_unlike 79 = .ok (.iload 5, 2) := by decide +kernel
theorem dX11_unlike_81 : decode cX11_unlike 81 = .ok (.ireturn, 1) := by decide +kernel
theorem dX11_tiesTold_0 : decode cX11_tiesTold 0 = .ok (.iconst 0, 1) := by decide +kernel
theorem dX11_tiesTold_1 : decode cX11_tiesTold 1 = .ok (.istore_n 1, 1) := by decide +kernel
theorem dX11_tiesTold_2 : decode cX11_tiesTold 2 = .ok (.iconst 0, 1) := by decide +kernel
theorem dX11_tiesTold_3 : decode cX11_tiesTold 3 = .ok (.istore_n 2, 1) := by decide +kernel
theorem dX11_tiesTold_4 : decode cX11_tiesTold 4 = .ok (.iload_n 2, 1) := by decide +kernel
theorem dX11_tiesTold_5 : decode cX11_tiesTold 5 = .ok (.bipush 6, 2) := by decide +kernel
theorem dX11_tiesTold_7 : decode cX11_tiesTold 7 = .ok (.if_icmp .ge 27, 3) := by decide +kernel
theorem dX11_tiesTold_10 : decode cX11_tiesTold 10 = .ok (.iload_n 1, 1) := by decide +kernel
theorem dX11_tiesTold_11 : decode cX11_tiesTold 11 = .ok (.aload_n 0, 1) := by decide +kernel
theorem dX11_tiesTold_12 : decode cX11_tiesTold 12 = .ok (.getfield 13, 3) := by decide +kernel
theorem dX11_tiesTold_15 : decode cX11_tiesTold 15 = .ok (.iload_n 2, 1) := by decide +kernel
theorem dX11_tiesTold_16 : decode cX11_tiesTold 16 = .ok (.iaload, 1) := by decide +kernel
theorem dX11_tiesTold_17 : decode cX11_tiesTold 17 = .ok (.iconst (-1), 1) := by decide +kernel
theorem dX11_tiesTold_18 : decode cX11_tiesTold 18 = .ok (.if_icmp .eq 7, 3) := by decide +kernel
theorem dX11_tiesTold_21 : decode cX11_tiesTold 21 = .ok (.iconst 1, 1) := by decide +kernel
theorem dX11_tiesTold_22 : decode cX11_tiesTold 22 = .ok (.goto 4, 3) := by decide +kernel
theorem dX11_tiesTold_25 : decode cX11_tiesTold 25 = .ok (.iconst 0, 1) := by decide +kernel
theorem dX11_tiesTold_26 : decode cX11_tiesTold 26 = .ok (.iadd, 1) := by decide +kernel
theorem dX11_tiesTold_27 : decode cX11_tiesTold 27 = .ok (.istore_n 1, 1) := by decide +kernel
theorem dX11_tiesTold_28 : decode cX11_tiesTold 28 = .ok (.iinc 2 1, 3) := by decide +kernel
theorem dX11_tiesTold_31 : decode cX11_tiesTold 31 = .ok (.goto (-27), 3) := by decide +kernel
theorem dX11_tiesTold_34 : decode cX11_tiesTold 34 = .ok (.iload_n 1, 1) := by decide +kernel
theorem dX11_tiesTold_35 : decode cX11_tiesTold 35 = .ok (.ireturn, 1) := by decide +kernel
set_option maxRecDepth 20000 in
theorem ggX11_least_X11_arePair : GoodIn wsX11_least wsX11_arePair := goodIn_r _ [4, 5, 6, 3, 7, 8, 9, 10] (by decide +kernel) (by decide +kernel)
set_option maxRecDepth 20000 in
theorem gX11_least_X11_arePair : GoodIn wsX11_least (va_wsS RX11 114 yX11_arePair wsX11_arePair) := goodIn_app (goodIn_of _ (by decide +kernel)) ggX11_least_X11_arePair
set_option maxRecDepth 20000 in
theorem ggX11_least_X11_isKind : GoodIn wsX11_least wsX11_isKind := goodIn_r _ [13, 8, 9, 3, 10] (by decide +kernel) (by decide +kernel)
set_option maxRecDepth 20000 in
theorem gX11_least_X11_isKind : GoodIn wsX11_least (va_wsS RX11 59 yX11_isKind wsX11_isKind) := goodIn_app (goodIn_of _ (by decide +kernel)) ggX11_least_X11_isKind
set_option maxRecDepth 20000 in
theorem ggX11_least_X11_isDay : GoodIn wsX11_least wsX11_isDay := goodIn_r _ [16, 8, 9, 3, 10] (by decide +kernel) (by decide +kernel)
set_option maxRecDepth 20000 in
theorem gX11_least_X11_isDay : GoodIn wsX11_least (va_wsS RX11 33 yX11_isDay wsX11_isDay) := goodIn_app (goodIn_of _ (by decide +kernel)) ggX11_least_X11_isDay
set_option maxRecDepth 20000 in
theorem ggX11_least_X11_looksAtNumber : GoodIn wsX11_least wsX11_looksAtNumber := goodIn_r _ [20, 21, 22, 73, 74, 75, 76, 77, 78, 79, 80] (by decide +kernel) (by decide +kernel)
set_option maxRecDepth 20000 in
theorem gX11_least_X11_looksAtNumber : GoodIn wsX11_least (wsV RX11 110 RX11 yX11_looksAtNumber wsX11_looksAtNumber) := goodIn_app (goodIn_of _ (by decide +kernel)) ggX11_least_X11_looksAtNumber
set_option maxRecDepth 20000 in
theorem ggX11_least_X11_tiesTold : GoodIn wsX11_least wsX11_tiesTold := goodIn_r _ [26, 22, 73, 74, 75, 76, 77, 78, 79, 80] (by decide +kernel) (by decide +kernel)
set_option maxRecDepth 20000 in
theorem gX11_least_X11_tiesTold : GoodIn wsX11_least (wsV RX11 117 RX11 yX11_tiesTold wsX11_tiesTold) := goodIn_app (goodIn_of _ (by decide +kernel)) ggX11_least_X11_tiesTold
set_option maxRecDepth 20000 in
theorem ggX11_least_X11_endsOf : GoodIn wsX11_least wsX11_endsOf := goodIn_r _ [30, 31, 32, 33, 34, 3, 35, 22, 36, 37, 38, 39, 40, 41, 42, 43, 44, 45, 46, 47, 48, 49, 50, 51, 52, 53, 54, 55, 56, 57, 58, 59, 60, 21, 61, 62, 63, 64, 65, 66, 67, 68, 69, 70, 71, 72, 73, 74, 75, 76, 77, 78, 79, 80] (by decide +kernel) (by decide +kernel)
set_option maxRecDepth 20000 in
theorem gX11_least_X11_endsOf : GoodIn wsX11_least (wsV RX11 100 RX11 yX11_endsOf wsX11_endsOf) := goodIn_app (goodIn_of _ (by decide +kernel)) ggX11_least_X11_endsOf
theorem dX11_least_0 : decode cX11_least 0 = .ok (.iload_n 1, 1) := by decide +kernel
theorem dX11_least_1 : decode cX11_least 1 = .ok (.iload_n 2, 1) := by decide +kernel
theorem dX11_least_2 : decode cX11_least 2 = .ok (.invokestatic 114, 3) := by decide +kernel
theorem dX11_least_5 : decode cX11_least 5 = .ok (.ifCond .eq 18, 3) := by decide +kernel
theorem dX11_least_8 : decode cX11_least 8 = .ok (.iload_n 3, 1) := by decide +kernel
theorem dX11_least_9 : decode cX11_least 9 = .ok (.invokestatic 59, 3) := by decide +kernel
theorem dX11_least_12 : decode cX11_least 12 = .ok (.ifCond .eq 11, 3) := by decide +kernel
theorem dX11_least_15 : decode cX11_least 15 = .ok (.iload 4, 2) := by decide +kernel
theorem dX11_least_17 : decode cX11_least 17 = .ok (.invokestatic 33, 3) := by decide +kernel
theorem dX11_least_20 : decode cX11_least 20 = .ok (.ifCond .ne 6, 3) := by decide +kernel
theorem dX11_least_23 : decode cX11_least 23 = .ok (.bipush (-2), 2) := by decide +kernel
theorem dX11_least_25 : decode cX11_least 25 = .ok (.ireturn, 1) := by decide +kernel
theorem dX11_least_26 : decode cX11_least 26 = .ok (.iconst (-1), 1) := by decide +kernel
theorem dX11_least_27 : decode cX11_least 27 = .ok (.istore 5, 2) := by decide +kernel
theorem dX11_least_29 : decode cX11_least 29 = .ok (.iconst 0, 1) := by decide +kernel
theorem dX11_least_30 : decode cX11_least 30 = .ok (.istore 6, 2) := by decide +kernel
theorem dX11_least_32 : decode cX11_least 32 = .ok (.iconst 0, 1) := by decide +kernel
theorem dX11_least_33 : decode cX11_least 33 = .ok (.istore 7, 2) := by decide +kernel
theorem dX11_least_35 : decode cX11_least 35 = .ok (.iload 7, 2) := by decide +kernel
theorem dX11_least_37 : decode cX11_least 37 = .ok (.sipush 15625, 3) := by decide +kernel
theorem dX11_least_40 : decode cX11_least 40 = .ok (.if_icmp .ge 57, 3) := by decide +kernel
theorem dX11_least_43 : decode cX11_least 43 = .ok (.aload_n 0, 1) := by decide +kernel
theorem dX11_least_44 : decode cX11_least 44 = .ok (.iload 7, 2) := by decide +kernel
theorem dX11_least_46 : decode cX11_least 46 = .ok (.iload 4, 2) := by decide +kernel
theorem dX11_least_48 : decode cX11_least 48 = .ok (.invokevirtual 110, 3) := by decide +kernel
theorem dX11_least_51 : decode cX11_least 51 = .ok (.iload 5, 2) := by decide +kernel
theorem dX11_least_53 : decode cX11_least 53 = .ok (.iconst (-1), 1) := by decide +kernel
theorem dX11_least_54 : decode cX11_least 54 = .ok (.if_icmp .eq 12, 3) := by decide +kernel
theorem dX11_least_57 : decode cX11_least 57 = .ok (.aload_n 0, 1) := by decide +kernel
theorem dX11_least_58 : decode cX11_least 58 = .ok (.invokevirtual 117, 3) := by decide +kernel
theorem dX11_least_61 : decode cX11_least 61 = .ok (.iload 6, 2) := by decide +kernel
theorem dX11_least_63 : decode cX11_least 63 = .ok (.if_icmp .ge 28, 3) := by decide +kernel
theorem dX11_least_66 : decode cX11_least 66 = .ok (.aload_n 0, 1) := by decide +kernel
theorem dX11_least_67 : decode cX11_least 67 = .ok (.iload_n 1, 1) := by decide +kernel
theorem dX11_least_68 : decode cX11_least 68 = .ok (.iload_n 3, 1) := by decide +kernel
theorem dX11_least_69 : decode cX11_least 69 = .ok (.invokevirtual 100, 3) := by decide +kernel
theorem dX11_least_72 : decode cX11_least 72 = .ok (.aload_n 0, 1) := by decide +kernel
theorem dX11_least_73 : decode cX11_least 73 = .ok (.iload_n 2, 1) := by decide +kernel
theorem dX11_least_74 : decode cX11_least 74 = .ok (.iload_n 3, 1) := by decide +kernel
theorem dX11_least_75 : decode cX11_least 75 = .ok (.invokevirtual 100, 3) := by decide +kernel
theorem dX11_least_78 : decode cX11_least 78 = .ok (.if_icmp .eq 13, 3) := by decide +kernel
theorem dX11_least_81 : decode cX11_least 81 = .ok (.iload 7, 2) := by decide +kernel
theorem dX11_least_83 : decode cX11_least 83 = .ok (.istore 5, 2) := by decide +kernel
theorem dX11_least_85 : decode cX11_least 85 = .ok (.aload_n 0, 1) := by decide +kernel
theorem dX11_least_86 : decode cX11_least 86 = .ok (.invokevirtual 117, 3) := by decide +kernel
theorem dX11_least_89 : decode cX11_least 89 = .ok (.istore 6, 2) := by decide +kernel
theorem dX11_least_91 : decode cX11_least 91 = .ok (.iinc 7 1, 3) := by decide +kernel
theorem dX11_least_94 : decode cX11_least 94 = .ok (.goto (-59), 3) := by decide +kernel
theorem dX11_least_97 : decode cX11_least 97 = .ok (.iload 5, 2) := by decide +kernel
theorem dX11_least_99 : decode cX11_least 99 = .ok (.ireturn, 1) := by decide +kernel
set_option maxRecDepth 20000 in
theorem ggX11_reached_X11_isLand : GoodIn wsX11_reached wsX11_isLand := goodIn_r _ [4, 5, 6, 3, 7] (by decide +kernel) (by decide +kernel)
set_option maxRecDepth 20000 in
theorem gX11_reached_X11_isLand : GoodIn wsX11_reached (va_wsS RX11 56 yX11_isLand wsX11_isLand) := goodIn_app (goodIn_of _ (by decide +kernel)) ggX11_reached_X11_isLand
set_option maxRecDepth 20000 in
theorem ggX11_reached_X11_isKind : GoodIn wsX11_reached wsX11_isKind := goodIn_r _ [10, 5, 6, 3, 7] (by decide +kernel) (by decide +kernel)
set_option maxRecDepth 20000 in
theorem gX11_reached_X11_isKind : GoodIn wsX11_reached (va_wsS RX11 59 yX11_isKind wsX11_isKind) := goodIn_app (goodIn_of _ (by decide +kernel)) ggX11_reached_X11_isKind
set_option maxRecDepth 20000 in
theorem ggX11_reached_X11_isDay : GoodIn wsX11_reached wsX11_isDay := goodIn_r _ [13, 5, 6, 3, 7] (by decide +kernel) (by decide +kernel)
set_option maxRecDepth 20000 in
theorem gX11_reached_X11_isDay : GoodIn wsX11_reached (va_wsS RX11 33 yX11_isDay wsX11_isDay) := goodIn_app (goodIn_of _ (by decide +kernel)) ggX11_reached_X11_isDay
set_option maxRecDepth 20000 in
theorem ggX11_reached_X11_looksAtNumber : GoodIn wsX11_reached wsX11_looksAtNumber := goodIn_r _ [17, 18, 19, 66, 67, 68, 69, 70, 71, 72, 73] (by decide +kernel) (by decide +kernel)
set_option maxRecDepth 20000 in
theorem gX11_reached_X11_looksAtNumber : GoodIn wsX11_reached (wsV RX11 110 RX11 yX11_looksAtNumber wsX11_looksAtNumber) := goodIn_app (goodIn_of _ (by decide +kernel)) ggX11_reached_X11_looksAtNumber
set_option maxRecDepth 20000 in
theorem ggX11_reached_X11_endsOf : GoodIn wsX11_reached wsX11_endsOf := goodIn_r _ [23, 24, 25, 26, 27, 3, 28, 19, 29, 30, 31, 32, 33, 34, 35, 36, 37, 38, 39, 40, 41, 42, 43, 44, 45, 46, 47, 48, 49, 50, 51, 52, 53, 18, 54, 55, 56, 57, 58, 59, 60, 61, 62, 63, 64, 65, 66, 67, 68, 69, 70, 71, 72, 73] (by decide +kernel) (by decide +kernel)
set_option maxRecDepth 20000 in
theorem gX11_reached_X11_endsOf : GoodIn wsX11_reached (wsV RX11 100 RX11 yX11_endsOf wsX11_endsOf) := goodIn_app (goodIn_of _ (by decide +kernel)) ggX11_reached_X11_endsOf
theorem dX11_reached_0 : decode cX11_reached 0 = .ok (.iload_n 1, 1) := by decide +kernel
theorem dX11_reached_1 : decode cX11_reached 1 = .ok (.invokestatic 56, 3) := by decide +kernel
theorem dX11_reached_4 : decode cX11_reached 4 = .ok (.ifCond .eq 17, 3) := by decide +kernel
theorem dX11_reached_7 : decode cX11_reached 7 = .ok (.iload_n 2, 1) := by decide +kernel
theorem dX11_reached_8 : decode cX11_reached 8 = .ok (.invokestatic 59, 3) := by decide +kernel
theorem dX11_reached_11 : decode cX11_reached 11 = .ok (.ifCond .eq 10, 3) := by decide +kernel
theorem dX11_reached_14 : decode cX11_reached 14 = .ok (.iload_n 3, 1) := by decide +kernel
theorem dX11_reached_15 : decode cX11_reached 15 = .ok (.invokestatic 33, 3) := by decide +kernel
theorem dX11_reached_18 : decode cX11_reached 18 = .ok (.ifCond .ne 6, 3) := by decide +kernel
theorem dX11_reached_21 : decode cX11_reached 21 = .ok (.bipush (-2), 2) := by decide +kernel
theorem dX11_reached_23 : decode cX11_reached 23 = .ok (.ireturn, 1) := by decide +kernel
theorem dX11_reached_24 : decode cX11_reached 24 = .ok (.iconst 0, 1) := by decide +kernel
theorem dX11_reached_25 : decode cX11_reached 25 = .ok (.istore 4, 2) := by decide +kernel
theorem dX11_reached_27 : decode cX11_reached 27 = .ok (.iconst 0, 1) := by decide +kernel
theorem dX11_reached_28 : decode cX11_reached 28 = .ok (.istore 5, 2) := by decide +kernel
theorem dX11_reached_30 : decode cX11_reached 30 = .ok (.iload 5, 2) := by decide +kernel
theorem dX11_reached_32 : decode cX11_reached 32 = .ok (.sipush 15625, 3) := by decide +kernel
theorem dX11_reached_35 : decode cX11_reached 35 = .ok (.if_icmp .ge 45, 3) := by decide +kernel
theorem dX11_reached_38 : decode cX11_reached 38 = .ok (.aload_n 0, 1) := by decide +kernel
theorem dX11_reached_39 : decode cX11_reached 39 = .ok (.iload 5, 2) := by decide +kernel
theorem dX11_reached_41 : decode cX11_reached 41 = .ok (.iload_n 3, 1) := by decide +kernel
theorem dX11_reached_42 : decode cX11_reached 42 = .ok (.invokevirtual 110, 3) := by decide +kernel
theorem dX11_reached_45 : decode cX11_reached 45 = .ok (.aload_n 0, 1) := by decide +kernel
theorem dX11_reached_46 : decode cX11_reached 46 = .ok (.iload_n 1, 1) := by decide +kernel
theorem dX11_reached_47 : decode cX11_reached 47 = .ok (.iload_n 2, 1) := by decide +kernel
theorem dX11_reached_48 : decode cX11_reached 48 = .ok (.invokevirtual 100, 3) := by decide +kernel
theorem dX11_reached_51 : decode cX11_reached 51 = .ok (.istore 6, 2) := by decide +kernel
theorem dX11_reached_53 : decode cX11_reached 53 = .ok (.iload 4, 2) := by decide +kernel
theorem dX11_reached_55 : decode cX11_reached 55 = .ok (.iload 6, 2) := by decide +kernel
theorem dX11_reached_57 : decode cX11_reached 57 = .ok (.bipush (-5), 2) := by decide +kernel
theorem dX11_reached_59 : decode cX11_reached 59 = .ok (.if_icmp .ne 8, 3) := by decide +kernel
theorem dX11_reached_62 : decode cX11_reached 62 = .ok (.bipush 16, 2) := by decide +kernel
theorem dX11_reached_64 : decode cX11_reached 64 = .ok (.goto 7, 3) := by decide +kernel
theorem dX11_reached_67 : decode cX11_reached 67 = .ok (.iconst 1, 1) := by decide +kernel
theorem dX11_reached_68 : decode cX11_reached 68 = .ok (.iload 6, 2) := by decide +kernel
theorem dX11_reached_70 : decode cX11_reached 70 = .ok (.ishl, 1) := by decide +kernel
theorem dX11_reached_71 : decode cX11_reached 71 = .ok (.ior, 1) := by decide +kernel
theorem dX11_reached_72 : decode cX11_reached 72 = .ok (.istore 4, 2) := by decide +kernel
theorem dX11_reached_74 : decode cX11_reached 74 = .ok (.iinc 5 1, 3) := by decide +kernel
theorem dX11_reached_77 : decode cX11_reached 77 = .ok (.goto (-47), 3) := by decide +kernel
theorem dX11_reached_80 : decode cX11_reached 80 = .ok (.iload 4, 2) := by decide +kernel
theorem dX11_reached_82 : decode cX11_reached 82 = .ok (.ireturn, 1) := by decide +kernel
set_option maxRecDepth 20000 in
theorem ggX11_areAlike_X11_endsOf : GoodIn wsX11_areAlike wsX11_endsOf := goodIn_r _ [5, 6, 7, 8, 9, 4, 10, 11, 12, 13, 14, 15, 16, 17, 18, 19, 20, 21, 22, 23, 24, 25, 26, 27, 28, 29, 30, 31, 32, 33, 34, 35, 36, 37, 38, 39, 40, 41, 42, 43, 44, 45, 46, 47, 48, 49, 50, 51, 52, 53, 54, 55, 56, 57] (by decide +kernel) (by decide +kernel)
set_option maxRecDepth 20000 in
theorem gX11_areAlike_X11_endsOf : GoodIn wsX11_areAlike (wsV RX11 100 RX11 yX11_endsOf wsX11_endsOf) := goodIn_app (goodIn_of _ (by decide +kernel)) ggX11_areAlike_X11_endsOf
theorem dX11_areAlike_0 : decode cX11_areAlike 0 = .ok (.aload_n 0, 1) := by decide +kernel
theorem dX11_areAlike_1 : decode cX11_areAlike 1 = .ok (.iconst 0, 1) := by decide +kernel
theorem dX11_areAlike_2 : decode cX11_areAlike 2 = .ok (.iload_n 1, 1) := by decide +kernel
theorem dX11_areAlike_3 : decode cX11_areAlike 3 = .ok (.invokevirtual 100, 3) := by decide +kernel
theorem dX11_areAlike_6 : decode cX11_areAlike 6 = .ok (.istore_n 2, 1) := by decide +kernel
theorem dX11_areAlike_7 : decode cX11_areAlike 7 = .ok (.aload_n 0, 1) := by decide +kernel
theorem dX11_areAlike_8 : decode cX11_areAlike 8 = .ok (.iconst 1, 1) := by decide +kernel
theorem dX11_areAlike_9 : decode cX11_areAlike 9 = .ok (.iload_n 1, 1) := by decide +kernel
theorem dX11_areAlike_10 : decode cX11_areAlike 10 = .ok (.invokevirtual 100, 3) := by decide +kernel
theorem dX11_areAlike_13 : decode cX11_areAlike 13 = .ok (.iload_n 2, 1) := by decide +kernel
theorem dX11_areAlike_14 : decode cX11_areAlike 14 = .ok (.if_icmp .ne 27, 3) := by decide +kernel
theorem dX11_areAlike_17 : decode cX11_areAlike 17 = .ok (.aload_n 0, 1) := by decide +kernel
theorem dX11_areAlike_18 : decode cX11_areAlike 18 = .ok (.iconst 2, 1) := by decide +kernel
theorem dX11_areAlike_19 : decode cX11_areAlike 19 = .ok (.iload_n 1, 1) := by decide +kernel
theorem dX11_areAlike_20 : decode cX11_areAlike 20 = .ok (.invokevirtual 100, 3) := by decide +kernel
theorem dX11_areAlike_23 : decode cX11_areAlike 23 = .ok (.iload_n 2, 1) := by decide +kernel
theorem dX11_areAlike_24 : decode cX11_areAlike 24 = .ok (.if_icmp .ne 17, 3) := by decide +kernel
theorem dX11_areAlike_27 : decode cX11_areAlike 27 = .ok (.aload_n 0, 1) := by decide +kernel
theorem dX11_areAlike_28 : decode cX11_areAlike 28 = .ok (.iconst 3, 1) := by decide +kernel
theorem dX11_areAlike_29 : decode cX11_areAlike 29 = .ok (.iload_n 1, 1) := by decide +kernel
theorem dX11_areAlike_30 : decode cX11_areAlike 30 = .ok (.invokevirtual 100, 3) := by decide +kernel
theorem dX11_areAlike_33 : decode cX11_areAlike 33 = .ok (.iload_n 2, 1) := by decide +kernel
theorem dX11_areAlike_34 : decode cX11_areAlike 34 = .ok (.if_icmp .ne 7, 3) := by decide +kernel
theorem dX11_areAlike_37 : decode cX11_areAlike 37 = .ok (.iconst 1, 1) := by decide +kernel
theorem dX11_areAlike_38 : decode cX11_areAlike 38 = .ok (.goto 4, 3) := by decide +kernel
theorem dX11_areAlike_41 : decode cX11_areAlike 41 = .ok (.iconst 0, 1) := by decide +kernel
theorem dX11_areAlike_42 : decode cX11_areAlike 42 = .ok (.ireturn, 1) := by decide +kernel
set_option maxRecDepth 20000 in
theorem ggX11_same_X11_isKind : GoodIn wsX11_same wsX11_isKind := goodIn_r _ [4, 5, 6, 3, 7] (by decide +kernel) (by decide +kernel)
set_option maxRecDepth 20000 in
theorem gX11_same_X11_isKind : GoodIn wsX11_same (va_wsS RX11 59 yX11_isKind wsX11_isKind) := goodIn_app (goodIn_of _ (by decide +kernel)) ggX11_same_X11_isKind
set_option maxRecDepth 20000 in
theorem ggX11_same_X11_isDay : GoodIn wsX11_same wsX11_isDay := goodIn_r _ [10, 5, 6, 3, 7] (by decide +kernel) (by decide +kernel)
set_option maxRecDepth 20000 in
theorem gX11_same_X11_isDay : GoodIn wsX11_same (va_wsS RX11 33 yX11_isDay wsX11_isDay) := goodIn_app (goodIn_of _ (by decide +kernel)) ggX11_same_X11_isDay
set_option maxRecDepth 20000 in
theorem ggX11_same_X11_looksAtNumber : GoodIn wsX11_same wsX11_looksAtNumber := goodIn_r _ [14, 15, 16, 67, 68, 69, 70, 71, 72, 73, 74] (by decide +kernel) (by decide +kernel)
set_option maxRecDepth 20000 in
theorem gX11_same_X11_looksAtNumber : GoodIn wsX11_same (wsV RX11 110 RX11 yX11_looksAtNumber wsX11_looksAtNumber) := goodIn_app (goodIn_of _ (by decide +kernel)) ggX11_same_X11_looksAtNumber
set_option maxRecDepth 20000 in
theorem ggX11_same_X11_areAlike : GoodIn wsX11_same wsX11_areAlike := goodIn_r _ [20, 21, 22, 23, 3, 24, 25, 26, 27, 28, 29, 16, 30, 31, 32, 33, 34, 35, 36, 37, 38, 39, 40, 41, 42, 43, 44, 45, 46, 47, 48, 49, 50, 51, 52, 53, 54, 15, 55, 56, 57, 58, 59, 60, 61, 62, 63, 64, 65, 66, 67, 68, 69, 70, 71, 72, 73, 74] (by decide +kernel) (by decide +kernel)
set_option maxRecDepth 20000 in
theorem gX11_same_X11_areAlike : GoodIn wsX11_same (wsV RX11 121 RX11 yX11_areAlike wsX11_areAlike) := goodIn_app (goodIn_of _ (by decide +kernel)) ggX11_same_X11_areAlike
theorem dX11_same_0 : decode cX11_same 0 = .ok (.iload_n 1, 1) := by decide +kernel
theorem dX11_same_1 : decode cX11_same 1 = .ok (.invokestatic 59, 3) := by decide +kernel
theorem dX11_same_4 : decode cX11_same 4 = .ok (.ifCond .eq 10, 3) := by decide +kernel
theorem dX11_same_7 : decode cX11_same 7 = .ok (.iload_n 2, 1) := by decide +kernel
theorem dX11_same_8 : decode cX11_same 8 = .ok (.invokestatic 33, 3) := by decide +kernel
theorem dX11_same_11 : decode cX11_same 11 = .ok (.ifCond .ne 6, 3) := by decide +kernel
theorem dX11_same_14 : decode cX11_same 14 = .ok (.bipush (-2), 2) := by decide +kernel
theorem dX11_same_16 : decode cX11_same 16 = .ok (.ireturn, 1) := by decide +kernel
theorem dX11_same_17 : decode cX11_same 17 = .ok (.iconst 0, 1) := by decide +kernel
theorem dX11_same_18 : decode cX11_same 18 = .ok (.istore_n 3, 1) := by decide +kernel
theorem dX11_same_19 : decode cX11_same 19 = .ok (.iconst 0, 1) := by decide +kernel
theorem dX11_same_20 : decode cX11_same 20 = .ok (.istore 4, 2) := by decide +kernel
theorem dX11_same_22 : decode cX11_same 22 = .ok (.iload 4, 2) := by decide +kernel
theorem dX11_same_24 : decode cX11_same 24 = .ok (.sipush 15625, 3) := by decide +kernel
theorem dX11_same_27 : decode cX11_same 27 = .ok (.if_icmp .ge 32, 3) := by decide +kernel
theorem dX11_same_30 : decode cX11_same 30 = .ok (.aload_n 0, 1) := by decide +kernel
theorem dX11_same_31 : decode cX11_same 31 = .ok (.iload 4, 2) := by decide +kernel
theorem dX11_same_33 : decode cX11_same 33 = .ok (.iload_n 2, 1) := by decide +kernel
theorem dX11_same_34 : decode cX11_same 34 = .ok (.invokevirtual 110, 3) := by decide +kernel
theorem dX11_same_37 : decode cX11_same 37 = .ok (.iload_n 3, 1) := by decide +kernel
theorem dX11_same_38 : decode cX11_same 38 = .ok (.aload_n 0, 1) := by decide +kernel
theorem dX11_same_39 : decode cX11_same 39 = .ok (.iload_n 1, 1) := by decide +kernel
theorem dX11_same_40 : decode cX11_same 40 = .ok (.invokevirtual 121, 3) := by decide +kernel
theorem dX11_same_43 : decode cX11_same 43 = .ok (.ifCond .eq 7, 3) := by decide +kernel
theorem dX11_same_46 : decode cX11_same 46 = .ok (.iconst 1, 1) := by decide +kernel
theorem dX11_same_47 : decode cX11_same 47 = .ok (.goto 4, 3) := by decide +kernel
theorem dX11_same_50 : decode cX11_same 50 = .ok (.iconst 0, 1) := by decide +kernel
theorem dX11_same_51 : decode cX11_same 51 = .ok (.iadd, 1) := by decide +kernel
theorem dX11_same_52 : decode cX11_same 52 = .ok (.istore_n 3, 1) := by decide +kernel
theorem dX11_same_53 : decode cX11_same 53 = .ok (.iinc 4 1, 3) := by decide +kernel
theorem dX11_same_56 : decode cX11_same 56 = .ok (.goto (-34), 3) := by decide +kernel
theorem dX11_same_59 : decode cX11_same 59 = .ok (.iload_n 3, 1) := by decide +kernel
theorem dX11_same_60 : decode cX11_same 60 = .ok (.ireturn, 1) := by decide +kernel
set_option maxRecDepth 20000 in
theorem ggX11_dead_X11_isLand : GoodIn wsX11_dead wsX11_isLand := goodIn_r _ [6, 7, 8, 5, 9] (by decide +kernel) (by decide +kernel)
set_option maxRecDepth 20000 in
theorem gX11_dead_X11_isLand : GoodIn wsX11_dead (va_wsS RX11 56 yX11_isLand wsX11_isLand) := goodIn_app (goodIn_of _ (by decide +kernel)) ggX11_dead_X11_isLand
set_option maxRecDepth 20000 in
theorem ggX11_dead_X11_isDay : GoodIn wsX11_dead wsX11_isDay := goodIn_r _ [12, 7, 8, 5, 9] (by decide +kernel) (by decide +kernel)
set_option maxRecDepth 20000 in
theorem gX11_dead_X11_isDay : GoodIn wsX11_dead (va_wsS RX11 33 yX11_isDay wsX11_isDay) := goodIn_app (goodIn_of _ (by decide +kernel)) ggX11_dead_X11_isDay
set_option maxRecDepth 20000 in
theorem ggX11_dead_X11_looksAtNumber : GoodIn wsX11_dead wsX11_looksAtNumber := goodIn_r _ [16, 17, 18, 48, 49, 50, 51, 52, 53, 54, 55] (by decide +kernel) (by decide +kernel)
set_option maxRecDepth 20000 in
theorem gX11_dead_X11_looksAtNumber : GoodIn wsX11_dead (wsV RX11 110 RX11 yX11_looksAtNumber wsX11_looksAtNumber) := goodIn_app (goodIn_of _ (by decide +kernel)) ggX11_dead_X11_looksAtNumber
set_option maxRecDepth 20000 in
theorem ggX11_dead_X11_ruleBy : GoodIn wsX11_dead wsX11_ruleBy := goodIn_r _ [22, 2, 23, 24, 25, 5, 26, 27, 28, 29, 30, 31, 32, 33, 34, 35, 36, 37, 38, 39, 17, 40, 41, 42, 43, 18, 44, 45, 46, 47, 48, 49, 50, 51, 52, 53, 54, 55] (by decide +kernel) (by decide +kernel)
set_option maxRecDepth 20000 in
theorem gX11_dead_X11_ruleBy : GoodIn wsX11_dead (wsV RX11 84 RX11 yX11_ruleBy wsX11_ruleBy) := goodIn_app (goodIn_of _ (by decide +kernel)) ggX11_dead_X11_ruleBy
set_option maxRecDepth 20000 in
theorem ggX11_dead_X11_ruleOf : GoodIn wsX11_dead wsX11_ruleOf := goodIn_r _ [31, 2, 48, 49, 50, 51, 52, 53, 54, 55] (by decide +kernel) (by decide +kernel)
set_option maxRecDepth 20000 in
theorem gX11_dead_X11_ruleOf : GoodIn wsX11_dead (wsV RX11 62 RX11 yX11_ruleOf wsX11_ruleOf) := goodIn_app (goodIn_of _ (by decide +kernel)) ggX11_dead_X11_ruleOf
set_option maxRecDepth 20000 in
theorem ggX11_dead_X11_stands : GoodIn wsX11_dead wsX11_stands := goodIn_r _ [39, 17, 28, 29, 30, 5, 31, 2, 48, 49, 50, 51, 52, 53, 54, 55] (by decide +kernel) (by decide +kernel)
set_option maxRecDepth 20000 in
theorem gX11_dead_X11_stands : GoodIn wsX11_dead (wsV RX11 69 RX11 yX11_stands wsX11_stands) := goodIn_app (goodIn_of _ (by decide +kernel)) ggX11_dead_X11_stands
theorem dX11_dead_0 : decode cX11_dead 0 = .ok (.iload_n 1, 1) := by decide +kernel
theorem dX11_dead_1 : decode cX11_dead 1 = .ok (.invokestatic 56, 3) := by decide +kernel
theorem dX11_dead_4 : decode cX11_dead 4 = .ok (.ifCond .eq 10, 3) := by decide +kernel
theorem dX11_dead_7 : decode cX11_dead 7 = .ok (.iload_n 2, 1) := by decide +kernel
theorem dX11_dead_8 : decode cX11_dead 8 = .ok (.invokestatic 33, 3) := by decide +kernel
theorem dX11_dead_11 : decode cX11_dead 11 = .ok (.ifCond .ne 6, 3) := by decide +kernel
theorem dX11_dead_14 : decode cX11_dead 14 = .ok (.bipush (-2), 2) := by decide +kernel
theorem dX11_dead_16 : decode cX11_dead 16 = .ok (.ireturn, 1) := by decide +kernel
theorem dX11_dead_17 : decode cX11_dead 17 = .ok (.iconst 0, 1) := by decide +kernel
theorem dX11_dead_18 : decode cX11_dead 18 = .ok (.istore_n 3, 1) := by decide +kernel
theorem dX11_dead_19 : decode cX11_dead 19 = .ok (.iload_n 3, 1) := by decide +kernel
theorem dX11_dead_20 : decode cX11_dead 20 = .ok (.bipush 60, 2) := by decide +kernel
theorem dX11_dead_22 : decode cX11_dead 22 = .ok (.if_icmp .ge 16, 3) := by decide +kernel
theorem dX11_dead_25 : decode cX11_dead 25 = .ok (.aload_n 0, 1) := by decide +kernel
theorem dX11_dead_26 : decode cX11_dead 26 = .ok (.getfield 23, 3) := by decide +kernel
theorem dX11_dead_29 : decode cX11_dead 29 = .ok (.iload_n 3, 1) := by decide +kernel
theorem dX11_dead_30 : decode cX11_dead 30 = .ok (.iconst 0, 1) := by decide +kernel
theorem dX11_dead_31 : decode cX11_dead 31 = .ok (.bastore, 1) := by decide +kernel
theorem dX11_dead_32 : decode cX11_dead 32 = .ok (.iinc 3 1, 3) := by decide +kernel
theorem dX11_dead_35 : decode cX11_dead 35 = .ok (.goto (-16), 3) := by decide +kernel
theorem dX11_dead_38 : decode cX11_dead 38 = .ok (.iconst 0, 1) := by decide +kernel
theorem dX11_dead_39 : decode cX11_dead 39 = .ok (.istore_n 3, 1) := by decide +kernel
theorem dX11_dead_40 : decode cX11_dead 40 = .ok (.iload_n 3, 1) := by decide +kernel
theorem dX11_dead_41 : decode cX11_dead 41 = .ok (.sipush 15625, 3) := by decide +kernel
theorem dX11_dead_44 : decode cX11_dead 44 = .ok (.if_icmp .ge 53, 3) := by decide +kernel
theorem dX11_dead_47 : decode cX11_dead 47 = .ok (.aload_n 0, 1) := by decide +kernel
theorem dX11_dead_48 : decode cX11_dead 48 = .ok (.iload_n 3, 1) := by decide +kernel
theorem dX11_dead_49 : decode cX11_dead 49 = .ok (.iload_n 2, 1) := by decide +kernel
theorem dX11_dead_50 : decode cX11_dead 50 = .ok (.invokevirtual 110, 3) := by decide +kernel
theorem dX11_dead_53 : decode cX11_dead 53 = .ok (.iconst 0, 1) := by decide +kernel
theorem dX11_dead_54 : decode cX11_dead 54 = .ok (.istore 4, 2) := by decide +kernel
theorem dX11_dead_56 : decode cX11_dead 56 = .ok (.iload 4, 2) := by decide +kernel
theorem dX11_dead_58 : decode cX11_dead 58 = .ok (.iconst 3, 1) := by decide +kernel
theorem dX11_dead_59 : decode cX11_dead 59 = .ok (.if_icmp .ge 32, 3) := by decide +kernel
theorem dX11_dead_62 : decode cX11_dead 62 = .ok (.aload_n 0, 1) := by decide +kernel
theorem dX11_dead_63 : decode cX11_dead 63 = .ok (.iload_n 1, 1) := by decide +kernel
theorem dX11_dead_64 : decode cX11_dead 64 = .ok (.iload 4, 2) := by decide +kernel
theorem dX11_dead_66 : decode cX11_dead 66 = .ok (.invokevirtual 84, 3) := by decide +kernel
theorem dX11_dead_69 : decode cX11_dead 69 = .ok (.istore 5, 2) := by decide +kernel
theorem dX11_dead_71 : decode cX11_dead 71 = .ok (.iload 5, 2) := by decide +kernel
theorem dX11_dead_73 : decode cX11_dead 73 = .ok (.iconst (-1), 1) := by decide +kernel
theorem dX11_dead_74 : decode cX11_dead 74 = .ok (.if_icmp .eq 11, 3) := by decide +kernel
theorem dX11_dead_77 : decode cX11_dead 77 = .ok (.aload_n 0, 1) := by decide +kernel
theorem dX11_dead_78 : decode cX11_dead 78 = .ok (.getfield 23, 3) := by decide +kernel
theorem dX11_dead_81 : decode cX11_dead 81 = .ok (.iload 5, 2) := by decide +kernel
theorem dX11_dead_83 : decode cX11_dead 83 = .ok (.iconst 1, 1) := by decide +kernel
theorem dX11_dead_84 : decode cX11_dead 84 = .ok (.bastore, 1) := by decide +kernel
theorem dX11_dead_85 : decode cX11_dead 85 = .ok (.iinc 4 1, 3) := by decide +kernel
theorem dX11_dead_88 : decode cX11_dead 88 = .ok (.goto (-32), 3) := by decide +kernel
theorem dX11_dead_91 : decode cX11_dead 91 = .ok (.iinc 3 1, 3) := by decide +kernel
theorem dX11_dead_94 : decode cX11_dead 94 = .ok (.goto (-54), 3) := by decide +kernel
theorem dX11_dead_97 : decode cX11_dead 97 = .ok (.iconst 0, 1) := by decide +kernel
theorem dX11_dead_98 : decode cX11_dead 98 = .ok (.istore_n 3, 1) := by decide +kernel
theorem dX11_dead_99 : decode cX11_dead 99 = .ok (.iconst 0, 1) := by decide +kernel
theorem dX11_dead_100 : decode cX11_dead 100 = .ok (.istore 4, 2) := by decide +kernel
theorem dX11_dead_102 : decode cX11_dead 102 = .ok (.iconst 0, 1) := by decide +kernel
theorem dX11_dead_103 : decode cX11_dead 103 = .ok (.istore 5, 2) := by decide +kernel
theorem dX11_dead_105 : decode cX11_dead 105 = .ok (.iload 5, 2) := by decide +kernel
theorem dX11_dead_107 : decode cX11_dead 107 = .ok (.aload_n 0, 1) := by decide +kernel
theorem dX11_dead_108 : decode cX11_dead 108 = .ok (.getfield 7, 3) := by decide +kernel
theorem dX11_dead_111 : decode cX11_dead 111 = .ok (.iconst 2, 1) := by decide +kernel
theorem dX11_dead_112 : decode cX11_dead 112 = .ok (.iaload, 1) := by decide +kernel
theorem dX11_dead_113 : decode cX11_dead 113 = .ok (.if_icmp .ge 60, 3) := by decide +kernel
theorem dX11_dead_116 : decode cX11_dead 116 = .ok (.iload 4, 2) := by decide +kernel
theorem dX11_dead_118 : decode cX11_dead 118 = .ok (.bipush 30, 2) := by decide +kernel
theorem dX11_dead_120 : decode cX11_dead 120 = .ok (.if_icmp .ge 53, 3) := by decide +kernel
theorem dX11_dead_123 : decode cX11_dead 123 = .ok (.aload_n 0, 1) := by decide +kernel
theorem dX11_dead_124 : decode cX11_dead 124 = .ok (.iload 5, 2) := by decide +kernel
theorem dX11_dead_126 : decode cX11_dead 126 = .ok (.iconst 0, 1) := by decide +kernel
theorem dX11_dead_127 : decode cX11_dead 127 = .ok (.invokevirtual 62, 3) := by decide +kernel
theorem dX11_dead_130 : decode cX11_dead 130 = .ok (.iload_n 1, 1) := by decide +kernel
theorem dX11_dead_131 : decode cX11_dead 131 = .ok (.if_icmp .ne 36, 3) := by decide +kernel
theorem dX11_dead_134 : decode cX11_dead 134 = .ok (.aload_n 0, 1) := by decide +kernel
theorem dX11_dead_135 : decode cX11_dead 135 = .ok (.iload 5, 2) := by decide +kernel
theorem dX11_dead_137 : decode cX11_dead 137 = .ok (.invokevirtual 69, 3) := by decide +kernel
theorem dX11_dead_140 : decode cX11_dead 140 = .ok (.ifCond .eq 27, 3) := by decide +kernel
theorem dX11_dead_143 : decode cX11_dead 143 = .ok (.iload_n 3, 1) := by decide +kernel
theorem dX11_dead_144 : decode cX11_dead 144 = .ok (.aload_n 0, 1) := by decide +kernel
theorem dX11_dead_145 : decode cX11_dead 145 = .ok (.getfield 23, 3) := by decide +kernel
theorem dX11_dead_148 : decode cX11_dead 148 = .ok (.iload 5, 2) := by decide +kernel
theorem dX11_dead_150 : decode cX11_dead 150 = .ok (.baload, 1) := by decide +kernel
theorem dX11_dead_151 : decode cX11_dead 151 = .ok (.ifCond .eq 7, 3) := by decide +kernel
theorem dX11_dead_154 : decode cX11_dead 154 = .ok (.iconst 0, 1) := by decide +kernel
theorem dX11_dead_155 : decode cX11_dead 155 = .ok (.goto 7, 3) := by decide +kernel
theorem dX11_dead_158 : decode cX11_dead 158 = .ok (.iconst 1, 1) := by decide +kernel
theorem dX11_dead_159 : decode cX11_dead 159 = .ok (.iload 4, 2) := by decide +kernel
theorem dX11_dead_161 : decode cX11_dead 161 = .ok (.ishl, 1) := by decide +kernel
theorem dX11_dead_162 : decode cX11_dead 162 = .ok (.ior, 1) := by decide +kernel
theorem dX11_dead_163 : decode cX11_dead 163 = .ok (.istore_n 3, 1) := by decide +kernel
theorem dX11_dead_164 : decode cX11_dead 164 = .ok (.iinc 4 1, 3) := by decide +kernel
theorem dX11_dead_167 : decode cX11_dead 167 = .ok (.iinc 5 1, 3) := by decide +kernel
theorem dX11_dead_170 : decode cX11_dead 170 = .ok (.goto (-65), 3) := by decide +kernel
theorem dX11_dead_173 : decode cX11_dead 173 = .ok (.iload_n 3, 1) := by decide +kernel
theorem dX11_dead_174 : decode cX11_dead 174 = .ok (.ireturn, 1) := by decide +kernel
set_option maxRecDepth 20000 in
theorem ggX11_trial_X11_is : GoodIn wsX11_trial wsX11_is := goodIn_r _ [6, 1, 7, 8, 5, 9, 14, 15, 16, 17, 18, 19, 20, 21] (by decide +kernel) (by decide +kernel)
set_option maxRecDepth 20000 in
theorem gX11_trial_X11_is : GoodIn wsX11_trial (wsV RX11 41 RX11 yX11_is wsX11_is) := goodIn_app (goodIn_of _ (by decide +kernel)) ggX11_trial_X11_is
set_option maxRecDepth 20000 in
theorem ggX11_trial_X11_one : GoodIn wsX11_trial wsX11_one := goodIn_r _ [13, 1, 14, 15, 16, 17, 18, 19, 20, 21] (by decide +kernel) (by decide +kernel)
set_option maxRecDepth 20000 in
theorem gX11_trial_X11_one : GoodIn wsX11_trial (wsV RX11 37 RX11 yX11_one wsX11_one) := goodIn_app (goodIn_of _ (by decide +kernel)) ggX11_trial_X11_one
theorem dX11_trial_0 : decode cX11_trial 0 = .ok (.aload_n 0, 1) := by decide +kernel
theorem dX11_trial_1 : decode cX11_trial 1 = .ok (.iconst 2, 1) := by decide +kernel
theorem dX11_trial_2 : decode cX11_trial 2 = .ok (.iload_n 1, 1) := by decide +kernel
theorem dX11_trial_3 : decode cX11_trial 3 = .ok (.invokevirtual 41, 3) := by decide +kernel
theorem dX11_trial_6 : decode cX11_trial 6 = .ok (.ifCond .ne 6, 3) := by decide +kernel
theorem dX11_trial_9 : decode cX11_trial 9 = .ok (.bipush (-2), 2) := by decide +kernel
theorem dX11_trial_11 : decode cX11_trial 11 = .ok (.ireturn, 1) := by decide +kernel
theorem dX11_trial_12 : decode cX11_trial 12 = .ok (.iconst 0, 1) := by decide +kernel
theorem dX11_trial_13 : decode cX11_trial 13 = .ok (.istore_n 2, 1) := by decide +kernel
theorem dX11_trial_14 : decode cX11_trial 14 = .ok (.iload_n 2, 1) := by decide +kernel
theorem dX11_trial_15 : decode cX11_trial 15 = .ok (.aload_n 0, 1) := by decide +kernel
theorem dX11_trial_16 : decode cX11_trial 16 = .ok (.getfield 7, 3) := by decide +kernel
theorem dX11_trial_19 : decode cX11_trial 19 = .ok (.iconst 4, 1) := by decide +kernel
theorem dX11_trial_20 : decode cX11_trial 20 = .ok (.iaload, 1) := by decide +kernel
theorem dX11_trial_21 : decode cX11_trial 21 = .ok (.if_icmp .ge 26, 3) := by decide +kernel
theorem dX11_trial_24 : decode cX11_trial 24 = .ok (.aload_n 0, 1) := by decide +kernel
theorem dX11_trial_25 : decode cX11_trial 25 = .ok (.getfield 7, 3) := by decide +kernel
theorem dX11_trial_28 : decode cX11_trial 28 = .ok (.sipush 982, 3) := by decide +kernel
theorem dX11_trial_31 : decode cX11_trial 31 = .ok (.iload_n 2, 1) := by decide +kernel
theorem dX11_trial_32 : decode cX11_trial 32 = .ok (.iadd, 1) := by decide +kernel
theorem dX11_trial_33 : decode cX11_trial 33 = .ok (.iaload, 1) := by decide +kernel
theorem dX11_trial_34 : decode cX11_trial 34 = .ok (.iload_n 1, 1) := by decide +kernel
theorem dX11_trial_35 : decode cX11_trial 35 = .ok (.if_icmp .ne 6, 3) := by decide +kernel
theorem dX11_trial_38 : decode cX11_trial 38 = .ok (.bipush (-2), 2) := by decide +kernel
theorem dX11_trial_40 : decode cX11_trial 40 = .ok (.ireturn, 1) := by decide +kernel
theorem dX11_trial_41 : decode cX11_trial 41 = .ok (.iinc 2 1, 3) := by decide +kernel
theorem dX11_trial_44 : decode cX11_trial 44 = .ok (.goto (-30), 3) := by decide +kernel
theorem dX11_trial_47 : decode cX11_trial 47 = .ok (.aload_n 0, 1) := by decide +kernel
theorem dX11_trial_48 : decode cX11_trial 48 = .ok (.getfield 7, 3) := by decide +kernel
theorem dX11_trial_51 : decode cX11_trial 51 = .ok (.iconst 4, 1) := by decide +kernel
theorem dX11_trial_52 : decode cX11_trial 52 = .ok (.iaload, 1) := by decide +kernel
theorem dX11_trial_53 : decode cX11_trial 53 = .ok (.bipush 12, 2) := by decide +kernel
theorem dX11_trial_55 : decode cX11_trial 55 = .ok (.if_icmp .ne 6, 3) := by decide +kernel
theorem dX11_trial_58 : decode cX11_trial 58 = .ok (.bipush (-4), 2) := by decide +kernel
theorem dX11_trial_60 : decode cX11_trial 60 = .ok (.ireturn, 1) := by decide +kernel
theorem dX11_trial_61 : decode cX11_trial 61 = .ok (.aload_n 0, 1) := by decide +kernel
theorem dX11_trial_62 : decode cX11_trial 62 = .ok (.getfield 7, 3) := by decide +kernel
theorem dX11_trial_65 : decode cX11_trial 65 = .ok (.sipush 982, 3) := by decide +kernel
theorem dX11_trial_68 : decode cX11_trial 68 = .ok (.aload_n 0, 1) := by decide +kernel
theorem dX11_trial_69 : decode cX11_trial 69 = .ok (.getfield 7, 3) := by decide +kernel
theorem dX11_trial_72 : decode cX11_trial 72 = .ok (.iconst 4, 1) := by decide +kernel
theorem dX11_trial_73 : decode cX11_trial 73 = .ok (.iaload, 1) := by decide +kernel
theorem dX11_trial_74 : decode cX11_trial 74 = .ok (.iadd, 1) := by decide +kernel
theorem dX11_trial_75 : decode cX11_trial 75 = .ok (.iload_n 1, 1) := by decide +kernel
theorem dX11_trial_76 : decode cX11_trial 76 = .ok (.iastore, 1) := by decide +kernel
theorem dX11_trial_77 : decode cX11_trial 77 = .ok (.aload_n 0, 1) := by decide +kernel
theorem dX11_trial_78 : decode cX11_trial 78 = .ok (.iconst 4, 1) := by decide +kernel
theorem dX11_trial_79 : decode cX11_trial 79 = .ok (.invokevirtual 37, 3) := by decide +kernel
theorem dX11_trial_82 : decode cX11_trial 82 = .ok (.iconst 1, 1) := by decide +kernel
theorem dX11_trial_83 : decode cX11_trial 83 = .ok (.iadd, 1) := by decide +kernel
theorem dX11_trial_84 : decode cX11_trial 84 = .ok (.ireturn, 1) := by decide +kernel
set_option maxRecDepth 20000 in
theorem ggX11_untry_X11_puts : GoodIn wsX11_untry wsX11_puts := goodIn_r _ [5, 6, 7, 8, 9, 10, 11, 12, 13, 14] (by decide +kernel) (by decide +kernel)
set_option maxRecDepth 20000 in
theorem gX11_untry_X11_puts : GoodIn wsX11_untry (wsV RX11 66 RX11 yX11_puts wsX11_puts) := goodIn_app (goodIn_of _ (by decide +kernel)) ggX11_untry_X11_puts
theorem dX11_untry_0 : decode cX11_untry 0 = .ok (.aload_n 0, 1) := by decide +kernel
theorem dX11_untry_1 : decode cX11_untry 1 = .ok (.iconst 4, 1) := by decide +kernel
theorem dX11_untry_2 : decode cX11_untry 2 = .ok (.iconst 0, 1) := by decide +kernel
theorem dX11_untry_3 : decode cX11_untry 3 = .ok (.invokevirtual 66, 3) := by decide +kernel
theorem dX11_untry_6 : decode cX11_untry 6 = .ok (.ireturn, 1) := by decide +kernel
set_option maxRecDepth 20000 in
theorem ggX11_kindOf_X11_is : GoodIn wsX11_kindOf wsX11_is := goodIn_r _ [5, 6, 7, 8, 4, 9, 17, 18, 19, 20, 21, 22, 23, 24] (by decide +kernel) (by decide +kernel)
set_option maxRecDepth 20000 in
theorem gX11_kindOf_X11_is : GoodIn wsX11_kindOf (wsV RX11 41 RX11 yX11_is wsX11_is) := goodIn_app (goodIn_of _ (by decide +kernel)) ggX11_kindOf_X11_is
set_option maxRecDepth 20000 in
theorem ggX11_kindOf_X11_isKind : GoodIn wsX11_kindOf wsX11_isKind := goodIn_r _ [12, 7, 8, 4, 9] (by decide +kernel) (by decide +kernel)
set_option maxRecDepth 20000 in
theorem gX11_kindOf_X11_isKind : GoodIn wsX11_kindOf (va_wsS RX11 59 yX11_isKind wsX11_isKind) := goodIn_app (goodIn_of _ (by decide +kernel)) ggX11_kindOf_X11_isKind
set_option maxRecDepth 20000 in
theorem ggX11_kindOf_X11_puts : GoodIn wsX11_kindOf wsX11_puts := goodIn_r _ [16, 6, 17, 18, 19, 20, 21, 22, 23, 24] (by decide +kernel) (by decide +kernel)
set_option maxRecDepth 20000 in
theorem gX11_kindOf_X11_puts : GoodIn wsX11_kindOf (wsV RX11 66 RX11 yX11_puts wsX11_puts) := goodIn_app (goodIn_of _ (by decide +kernel)) ggX11_kindOf_X11_puts
theorem dX11_kindOf_0 : decode cX11_kindOf 0 = .ok (.aload_n 0, 1) := by decide +kernel
theorem dX11_kindOf_1 : decode cX11_kindOf 1 = .ok (.iconst 0, 1) := by decide +kernel
theorem dX11_kindOf_2 : decode cX11_kindOf 2 = .ok (.iload_n 1, 1) := by decide +kernel
theorem dX11_kindOf_3 : decode cX11_kindOf 3 = .ok (.invokevirtual 41, 3) := by decide +kernel
theorem dX11_kindOf_6 : decode cX11_kindOf 6 = .ok (.ifCond .eq 26, 3) := by decide +kernel
theorem dX11_kindOf_9 : decode cX11_kindOf 9 = .ok (.iload_n 2, 1) := by decide +kernel
theorem dX11_kindOf_10 : decode cX11_kindOf 10 = .ok (.invokestatic 59, 3) := by decide +kernel
theorem dX11_kindOf_13 : decode cX11_kindOf 13 = .ok (.ifCond .eq 19, 3) := by decide +kernel
theorem dX11_kindOf_16 : decode cX11_kindOf 16 = .ok (.aload_n 0, 1) := by decide +kernel
theorem dX11_kindOf_17 : decode cX11_kindOf 17 = .ok (.bipush 10, 2) := by decide +kernel
theorem dX11_kindOf_19 : decode cX11_kindOf 19 = .ok (.iconst 2, 1) := by decide +kernel
theorem dX11_kindOf_20 : decode cX11_kindOf 20 = .ok (.iload_n 1, 1) := by decide +kernel
theorem dX11_kindOf_21 : decode cX11_kindOf 21 = .ok (.imul, 1) := by decide +kernel
theorem dX11_kindOf_22 : decode cX11_kindOf 22 = .ok (.iadd, 1) := by decide +kernel
theorem dX11_kindOf_23 : decode cX11_kindOf 23 = .ok (.iconst 1, 1) := by decide +kernel
theorem dX11_kindOf_24 : decode cX11_kindOf 24 = .ok (.iadd, 1) := by decide +kernel
theorem dX11_kindOf_25 : decode cX11_kindOf 25 = .ok (.iload_n 2, 1) := by decide +kernel
theorem dX11_kindOf_26 : decode cX11_kindOf 26 = .ok (.invokevirtual 66, 3) := by decide +kernel
theorem dX11_kindOf_29 : decode cX11_kindOf 29 = .ok (.goto 5, 3) := by decide +kernel
theorem dX11_kindOf_32 : decode cX11_kindOf 32 = .ok (.bipush (-2), 2) := by decide +kernel
theorem dX11_kindOf_34 : decode cX11_kindOf 34 = .ok (.ireturn, 1) := by decide +kernel
theorem dX11_sizeOf_0 : decode cX11_sizeOf 0 = .ok (.iconst 0, 1) := by decide +kernel
theorem dX11_sizeOf_1 : decode cX11_sizeOf 1 = .ok (.istore_n 1, 1) := by decide +kernel
theorem dX11_sizeOf_2 : decode cX11_sizeOf 2 = .ok (.iload_n 0, 1) := by decide +kernel
theorem dX11_sizeOf_3 : decode cX11_sizeOf 3 = .ok (.istore_n 2, 1) := by decide +kernel
theorem dX11_sizeOf_4 : decode cX11_sizeOf 4 = .ok (.iload_n 2, 1) := by decide +kernel
theorem dX11_sizeOf_5 : decode cX11_sizeOf 5 = .ok (.ifCond .le 16, 3) := by decide +kernel
theorem dX11_sizeOf_8 : decode cX11_sizeOf 8 = .ok (.iload_n 1, 1) := by decide +kernel
theorem dX11_sizeOf_9 : decode cX11_sizeOf 9 = .ok (.iload_n 2, 1) := by decide +kernel
theorem dX11_sizeOf_10 : decode cX11_sizeOf 10 = .ok (.iconst 1, 1) := by decide +kernel
theorem dX11_sizeOf_11 : decode cX11_sizeOf 11 = .ok (.iand, 1) := by decide +kernel
theorem dX11_sizeOf_12 : decode cX11_sizeOf 12 = .ok (.iadd, 1) := by decide +kernel
theorem dX11_sizeOf_13 : decode cX11_sizeOf 13 = .ok (.istore_n 1, 1) := by decide +kernel
theorem dX11_sizeOf_14 : decode cX11_sizeOf 14 = .ok (.iload_n 2, 1) := by decide +kernel
theorem dX11_sizeOf_15 : decode cX11_sizeOf 15 = .ok (.iconst 1, 1) := by decide +kernel
theorem dX11_sizeOf_16 : decode cX11_sizeOf 16 = .ok (.ishr, 1) := by decide +kernel
theorem dX11_sizeOf_17 : decode cX11_sizeOf 17 = .ok (.istore_n 2, 1) := by decide +kernel
theorem dX11_sizeOf_18 : decode cX11_sizeOf 18 = .ok (.goto (-14), 3) := by decide +kernel
theorem dX11_sizeOf_21 : decode cX11_sizeOf 21 = .ok (.iload_n 1, 1) := by decide +kernel
theorem dX11_sizeOf_22 : decode cX11_sizeOf 22 = .ok (.ireturn, 1) := by decide +kernel
set_option maxRecDepth 20000 in
theorem ggX11_allAlike_X11_looksAt : GoodIn wsX11_allAlike wsX11_looksAt := goodIn_r _ [7, 1, 8, 9, 58, 59, 60, 61, 62, 63, 64, 65] (by decide +kernel) (by decide +kernel)
set_option maxRecDepth 20000 in
theorem gX11_allAlike_X11_looksAt : GoodIn wsX11_allAlike (wsV RX11 52 RX11 yX11_looksAt wsX11_looksAt) := goodIn_app (goodIn_of _ (by decide +kernel)) ggX11_allAlike_X11_looksAt
set_option maxRecDepth 20000 in
theorem ggX11_allAlike_X11_areAlike : GoodIn wsX11_allAlike wsX11_areAlike := goodIn_r _ [13, 14, 15, 16, 6, 17, 1, 18, 19, 20, 21, 9, 22, 23, 24, 25, 26, 27, 28, 29, 30, 31, 32, 33, 2, 34, 35, 36, 37, 38, 39, 40, 41, 42, 43, 44, 45, 8, 46, 47, 48, 49, 50, 51, 52, 53, 54, 55, 56, 57, 58, 59, 60, 61, 62, 63, 64, 65] (by decide +kernel) (by decide +kernel)
set_option maxRecDepth 20000 in
theorem gX11_allAlike_X11_areAlike : GoodIn wsX11_allAlike (wsV RX11 121 RX11 yX11_areAlike wsX11_areAlike) := goodIn_app (goodIn_of _ (by decide +kernel)) ggX11_allAlike_X11_areAlike
theorem dX11_allAlike_0 : decode cX11_allAlike 0 = .ok (.iconst 0, 1) := by decide +kernel
theorem dX11_allAlike_1 : decode cX11_allAlike 1 = .ok (.istore_n 2, 1) := by decide +kernel
theorem dX11_allAlike_2 : decode cX11_allAlike 2 = .ok (.iload_n 2, 1) := by decide +kernel
theorem dX11_allAlike_3 : decode cX11_allAlike 3 = .ok (.aload_n 0, 1) := by decide +kernel
theorem dX11_allAlike_4 : decode cX11_allAlike 4 = .ok (.getfield 7, 3) := by decide +kernel
theorem dX11_allAlike_7 : decode cX11_allAlike 7 = .ok (.iconst 4, 1) := by decide +kernel
theorem dX11_allAlike_8 : decode cX11_allAlike 8 = .ok (.iaload, 1) := by decide +kernel
theorem dX11_allAlike_9 : decode cX11_allAlike 9 = .ok (.if_icmp .ge 38, 3) := by decide +kernel
theorem dX11_allAlike_12 : decode cX11_allAlike 12 = .ok (.aload_n 0, 1) := by decide +kernel
theorem dX11_allAlike_13 : decode cX11_allAlike 13 = .ok (.getfield 16, 3) := by decide +kernel
theorem dX11_allAlike_16 : decode cX11_allAlike 16 = .ok (.aload_n 0, 1) := by decide +kernel
theorem dX11_allAlike_17 : decode cX11_allAlike 17 = .ok (.getfield 7, 3) := by decide +kernel
theorem dX11_allAlike_20 : decode cX11_allAlike 20 = .ok (.sipush 982, 3) := by decide +kernel
theorem dX11_allAlike_23 : decode cX11_allAlike 23 = .ok (.iload_n 2, 1) := by decide +kernel
theorem dX11_allAlike_24 : decode cX11_allAlike 24 = .ok (.iadd, 1) := by decide +kernel
theorem dX11_allAlike_25 : decode cX11_allAlike 25 = .ok (.iaload, 1) := by decide +kernel
theorem dX11_allAlike_26 : decode cX11_allAlike 26 = .ok (.iload_n 1, 1) := by decide +kernel
theorem dX11_allAlike_27 : decode cX11_allAlike 27 = .ok (.iload_n 2, 1) := by decide +kernel
theorem dX11_allAlike_28 : decode cX11_allAlike 28 = .ok (.ishr, 1) := by decide +kernel
theorem dX11_allAlike_29 : decode cX11_allAlike 29 = .ok (.iconst 1, 1) := by decide +kernel
theorem dX11_allAlike_30 : decode cX11_allAlike 30 = .ok (.iand, 1) := by decide +kernel
theorem dX11_allAlike_31 : decode cX11_allAlike 31 = .ok (.iconst 1, 1) := by decide +kernel
theorem dX11_allAlike_32 : decode cX11_allAlike 32 = .ok (.if_icmp .ne 7, 3) := by decide +kernel
theorem dX11_allAlike_35 : decode cX11_allAlike 35 = .ok (.iconst 1, 1) := by decide +kernel
theorem dX11_allAlike_36 : decode cX11_allAlike 36 = .ok (.goto 4, 3) := by decide +kernel
theorem dX11_allAlike_39 : decode cX11_allAlike 39 = .ok (.iconst 0, 1) := by decide +kernel
theorem dX11_allAlike_40 : decode cX11_allAlike 40 = .ok (.bastore, 1) := by decide +kernel
theorem dX11_allAlike_41 : decode cX11_allAlike 41 = .ok (.iinc 2 1, 3) := by decide +kernel
theorem dX11_allAlike_44 : decode cX11_allAlike 44 = .ok (.goto (-42), 3) := by decide +kernel
theorem dX11_allAlike_47 : decode cX11_allAlike 47 = .ok (.iconst 1, 1) := by decide +kernel
theorem dX11_allAlike_48 : decode cX11_allAlike 48 = .ok (.istore_n 2, 1) := by decide +kernel
theorem dX11_allAlike_49 : decode cX11_allAlike 49 = .ok (.iconst 0, 1) := by decide +kernel
theorem dX11_allAlike_50 : decode cX11_allAlike 50 = .ok (.istore_n 3, 1) := by decide +kernel
theorem dX11_allAlike_51 : decode cX11_allAlike 51 = .ok (.iload_n 3, 1) := by decide +kernel
theorem dX11_allAlike_52 : decode cX11_allAlike 52 = .ok (.aload_n 0, 1) := by decide +kernel
theorem dX11_allAlike_53 : decode cX11_allAlike 53 = .ok (.getfield 7, 3) := by decide +kernel
theorem dX11_allAlike_56 : decode cX11_allAlike 56 = .ok (.iconst 0, 1) := by decide +kernel
theorem dX11_allAlike_57 : decode cX11_allAlike 57 = .ok (.iaload, 1) := by decide +kernel
theorem dX11_allAlike_58 : decode cX11_allAlike 58 = .ok (.if_icmp .ge 36, 3) := by decide +kernel
theorem dX11_allAlike_61 : decode cX11_allAlike 61 = .ok (.iload_n 2, 1) := by decide +kernel
theorem dX11_allAlike_62 : decode cX11_allAlike 62 = .ok (.ifCond .eq 32, 3) := by decide +kernel
theorem dX11_allAlike_65 : decode cX11_allAlike 65 = .ok (.aload_n 0, 1) := by decide +kernel
theorem dX11_allAlike_66 : decode cX11_allAlike 66 = .ok (.iload_n 3, 1) := by decide +kernel
theorem dX11_allAlike_67 : decode cX11_allAlike 67 = .ok (.invokevirtual 52, 3) := by decide +kernel
theorem dX11_allAlike_70 : decode cX11_allAlike 70 = .ok (.aload_n 0, 1) := by decide +kernel
theorem dX11_allAlike_71 : decode cX11_allAlike 71 = .ok (.aload_n 0, 1) := by decide +kernel
theorem dX11_allAlike_72 : decode cX11_allAlike 72 = .ok (.getfield 7, 3) := by decide +kernel
theorem dX11_allAlike_75 : decode cX11_allAlike 75 = .ok (.bipush 10, 2) := by decide +kernel
theorem dX11_allAlike_77 : decode cX11_allAlike 77 = .ok (.iconst 2, 1) := by decide +kernel
theorem dX11_allAlike_78 : decode cX11_allAlike 78 = .ok (.iload_n 3, 1) := by decide +kernel
theorem dX11_allAlike_79 : decode cX11_allAlike 79 = .ok (.imul, 1) := by decide +kernel
theorem dX11_allAlike_80 : decode cX11_allAlike 80 = .ok (.iadd, 1) := by decide +kernel
theorem dX11_allAlike_81 : decode cX11_allAlike 81 = .ok (.iconst 1, 1) := by decide +kernel
theorem dX11_allAlike_82 : decode cX11_allAlike 82 = .ok (.iadd, 1) := by decide +kernel
theorem dX11_allAlike_83 : decode cX11_allAlike 83 = .ok (.iaload, 1) := by decide +kernel
theorem dX11_allAlike_84 : decode cX11_allAlike 84 = .ok (.invokevirtual 121, 3) := by decide +kernel
theorem dX11_allAlike_87 : decode cX11_allAlike 87 = .ok (.istore_n 2, 1) := by decide +kernel
theorem dX11_allAlike_88 : decode cX11_allAlike 88 = .ok (.iinc 3 1, 3) := by decide +kernel
theorem dX11_allAlike_91 : decode cX11_allAlike 91 = .ok (.goto (-40), 3) := by decide +kernel
theorem dX11_allAlike_94 : decode cX11_allAlike 94 = .ok (.iconst 0, 1) := by decide +kernel
theorem dX11_allAlike_95 : decode cX11_allAlike 95 = .ok (.istore_n 3, 1) := by decide +kernel
theorem dX11_allAlike_96 : decode cX11_allAlike 96 = .ok (.iload_n 3, 1) := by decide +kernel
theorem dX11_allAlike_97 : decode cX11_allAlike 97 = .ok (.aload_n 0, 1) := by decide +kernel
theorem dX11_allAlike_98 : decode cX11_allAlike 98 = .ok (.getfield 7, 3) := by decide +kernel
theorem dX11_allAlike_101 : decode cX11_allAlike 101 = .ok (.iconst 4, 1) := by decide +kernel
theorem dX11_allAlike_102 : decode cX11_allAlike 102 = .ok (.iaload, 1) := by decide +kernel
theorem dX11_allAlike_103 : decode cX11_allAlike 103 = .ok (.if_icmp .ge 25, 3) := by decide +kernel
theorem dX11_allAlike_106 : decode cX11_allAlike 106 = .ok (.aload_n 0, 1) := by decide +kernel
theorem dX11_allAlike_107 : decode cX11_allAlike 107 = .ok (.getfield 16, 3) := by decide +kernel
theorem dX11_allAlike_110 : decode cX11_allAlike 110 = .ok (.aload_n 0, 1) := by decide +kernel
theorem dX11_allAlike_111 : decode cX11_allAlike 111 = .ok (.getfield 7, 3) := by decide +kernel
theorem dX11_allAlike_114 : decode cX11_allAlike 114 = .ok (.sipush 982, 3) := by decide +kernel
theorem dX11_allAlike_117 : decode cX11_allAlike 117 = .ok (.iload_n 3, 1) := by decide +kernel
theorem dX11_allAlike_118 : decode cX11_allAlike 118 = .ok (.iadd, 1) := by decide +kernel
theorem dX11_allAlike_119 : decode cX11_allAlike 119 = .ok (.iaload, 1) := by decide +kernel
theorem dX11_allAlike_120 : decode cX11_allAlike 120 = .ok (.iconst 0, 1) := by decide +kernel
theorem dX11_allAlike_121 : decode cX11_allAlike 121 = .ok (.bastore, 1) := by decide +kernel
theorem dX11_allAlike_122 : decode cX11_allAlike 122 = .ok (.iinc 3 1, 3) := by decide +kernel
theorem dX11_allAlike_125 : decode cX11_allAlike 125 = .ok (.goto (-29), 3) := by decide +kernel
theorem dX11_allAlike_128 : decode cX11_allAlike 128 = .ok (.iload_n 2, 1) := by decide +kernel
theorem dX11_allAlike_129 : decode cX11_allAlike 129 = .ok (.ireturn, 1) := by decide +kernel
set_option maxRecDepth 20000 in
theorem ggX11_fewest_X11_sizeOf : GoodIn wsX11_fewest wsX11_sizeOf := goodIn_r _ [5] (by decide +kernel) (by decide +kernel)
set_option maxRecDepth 20000 in
theorem gX11_fewest_X11_sizeOf : GoodIn wsX11_fewest (va_wsS RX11 124 yX11_sizeOf wsX11_sizeOf) := goodIn_app (goodIn_of _ (by decide +kernel)) ggX11_fewest_X11_sizeOf
set_option maxRecDepth 20000 in
theorem ggX11_fewest_X11_allAlike : GoodIn wsX11_fewest wsX11_allAlike := goodIn_r _ [9, 1, 10, 11, 12, 13, 4, 14, 15, 16, 17, 18, 19, 20, 21, 22, 23, 24, 25, 26, 27, 28, 29, 30, 31, 32, 33, 34, 35, 36, 37, 38, 39, 40, 41, 42, 43, 44, 45, 46, 47, 48, 49, 50, 51, 52, 53, 54, 55, 56, 57, 58, 59, 60, 61, 62, 63, 64, 65, 66, 67, 68, 69, 70, 71, 72] (by decide +kernel) (by decide +kernel)
set_option maxRecDepth 20000 in
theorem gX11_fewest_X11_allAlike : GoodIn wsX11_fewest (wsV RX11 127 RX11 yX11_allAlike wsX11_allAlike) := goodIn_app (goodIn_of _ (by decide +kernel)) ggX11_fewest_X11_allAlike
theorem dX11_fewest_0 : decode cX11_fewest 0 = .ok (.aload_n 0, 1) := by decide +kernel
theorem dX11_fewest_1 : decode cX11_fewest 1 = .ok (.getfield 7, 3) := by decide +kernel
theorem dX11_fewest_4 : decode cX11_fewest 4 = .ok (.iconst 0, 1) := by decide +kernel
theorem dX11_fewest_5 : decode cX11_fewest 5 = .ok (.iaload, 1) := by decide +kernel
theorem dX11_fewest_6 : decode cX11_fewest 6 = .ok (.ifCond .ne 6, 3) := by decide +kernel
theorem dX11_fewest_9 : decode cX11_fewest 9 = .ok (.bipush (-3), 2) := by decide +kernel
theorem dX11_fewest_11 : decode cX11_fewest 11 = .ok (.ireturn, 1) := by decide +kernel
theorem dX11_fewest_12 : decode cX11_fewest 12 = .ok (.iconst (-1), 1) := by decide +kernel
theorem dX11_fewest_13 : decode cX11_fewest 13 = .ok (.istore_n 1, 1) := by decide +kernel
theorem dX11_fewest_14 : decode cX11_fewest 14 = .ok (.iconst 0, 1) := by decide +kernel
theorem dX11_fewest_15 : decode cX11_fewest 15 = .ok (.istore_n 2, 1) := by decide +kernel
theorem dX11_fewest_16 : decode cX11_fewest 16 = .ok (.iload_n 2, 1) := by decide +kernel
theorem dX11_fewest_17 : decode cX11_fewest 17 = .ok (.iconst 1, 1) := by decide +kernel
theorem dX11_fewest_18 : decode cX11_fewest 18 = .ok (.aload_n 0, 1) := by decide +kernel
theorem dX11_fewest_19 : decode cX11_fewest 19 = .ok (.getfield 7, 3) := by decide +kernel
theorem dX11_fewest_22 : decode cX11_fewest 22 = .ok (.iconst 4, 1) := by decide +kernel
theorem dX11_fewest_23 : decode cX11_fewest 23 = .ok (.iaload, 1) := by decide +kernel
theorem dX11_fewest_24 : decode cX11_fewest 24 = .ok (.ishl, 1) := by decide +kernel
theorem dX11_fewest_25 : decode cX11_fewest 25 = .ok (.if_icmp .ge 35, 3) := by decide +kernel
theorem dX11_fewest_28 : decode cX11_fewest 28 = .ok (.iload_n 1, 1) := by decide +kernel
theorem dX11_fewest_29 : decode cX11_fewest 29 = .ok (.iconst (-1), 1) := by decide +kernel
theorem dX11_fewest_30 : decode cX11_fewest 30 = .ok (.if_icmp .eq 14, 3) := by decide +kernel
theorem dX11_fewest_33 : decode cX11_fewest 33 = .ok (.iload_n 2, 1) := by decide +kernel
theorem dX11_fewest_34 : decode cX11_fewest 34 = .ok (.invokestatic 124, 3) := by decide +kernel
theorem dX11_fewest_37 : decode cX11_fewest 37 = .ok (.iload_n 1, 1) := by decide +kernel
theorem dX11_fewest_38 : decode cX11_fewest 38 = .ok (.invokestatic 124, 3) := by decide +kernel
theorem dX11_fewest_41 : decode cX11_fewest 41 = .ok (.if_icmp .ge 13, 3) := by decide +kernel
theorem dX11_fewest_44 : decode cX11_fewest 44 = .ok (.aload_n 0, 1) := by decide +kernel
theorem dX11_fewest_45 : decode cX11_fewest 45 = .ok (.iload_n 2, 1) := by decide +kernel
theorem dX11_fewest_46 : decode cX11_fewest 46 = .ok (.invokevirtual 127, 3) := by decide +kernel
theorem dX11_fewest_49 : decode cX11_fewest 49 = .ok (.ifCond .eq 5, 3) := by decide +kernel
theorem dX11_fewest_52 : decode cX11_fewest 52 = .ok (.iload_n 2, 1) := by decide +kernel
theorem dX11_fewest_53 : decode cX11_fewest 53 = .ok (.istore_n 1, 1) := by decide +kernel
theorem dX11_fewest_54 : decode cX11_fewest 54 = .ok (.iinc 2 1, 3) := by decide +kernel
theorem dX11_fewest_57 : decode cX11_fewest 57 = .ok (.goto (-41), 3) := by decide +kernel
theorem dX11_fewest_60 : decode cX11_fewest 60 = .ok (.iload_n 1, 1) := by decide +kernel
theorem dX11_fewest_61 : decode cX11_fewest 61 = .ok (.ireturn, 1) := by decide +kernel
theorem dX11_other_0 : decode cX11_other 0 = .ok (.iconst 0, 1) := by decide +kernel
theorem dX11_other_1 : decode cX11_other 1 = .ok (.istore_n 2, 1) := by decide +kernel
theorem dX11_other_2 : decode cX11_other 2 = .ok (.iconst 0, 1) := by decide +kernel
theorem dX11_other_3 : decode cX11_other 3 = .ok (.istore_n 3, 1) := by decide +kernel
theorem dX11_other_4 : decode cX11_other 4 = .ok (.iload_n 3, 1) := by decide +kernel
theorem dX11_other_5 : decode cX11_other 5 = .ok (.bipush 6, 2) := by decide +kernel
theorem dX11_other_7 : decode cX11_other 7 = .ok (.if_icmp .ge 47, 3) := by decide +kernel
theorem dX11_other_10 : decode cX11_other 10 = .ok (.aload_n 0, 1) := by decide +kernel
theorem dX11_other_11 : decode cX11_other 11 = .ok (.getfield 13, 3) := by decide +kernel
theorem dX11_other_14 : decode cX11_other 14 = .ok (.iload_n 3, 1) := by decide +kernel
theorem dX11_other_15 : decode cX11_other 15 = .ok (.iaload, 1) := by decide +kernel
theorem dX11_other_16 : decode cX11_other 16 = .ok (.aload_n 0, 1) := by decide +kernel
theorem dX11_other_17 : decode cX11_other 17 = .ok (.getfield 26, 3) := by decide +kernel
theorem dX11_other_20 : decode cX11_other 20 = .ok (.iload_n 3, 1) := by decide +kernel
theorem dX11_other_21 : decode cX11_other 21 = .ok (.iaload, 1) := by decide +kernel
theorem dX11_other_22 : decode cX11_other 22 = .ok (.if_icmp .eq 26, 3) := by decide +kernel
theorem dX11_other_25 : decode cX11_other 25 = .ok (.aload_n 0, 1) := by decide +kernel
theorem dX11_other_26 : decode cX11_other 26 = .ok (.getfield 13, 3) := by decide +kernel
theorem dX11_other_29 : decode cX11_other 29 = .ok (.iload_n 3, 1) := by decide +kernel
theorem dX11_other_30 : decode cX11_other 30 = .ok (.iaload, 1) := by decide +kernel
theorem dX11_other_31 : decode cX11_other 31 = .ok (.iconst (-1), 1) := by decide +kernel
theorem dX11_other_32 : decode cX11_other 32 = .ok (.if_icmp .eq 11, 3) := by decide +kernel
theorem dX11_other_35 : decode cX11_other 35 = .ok (.iload_n 1, 1) := by decide +kernel
theorem dX11_other_36 : decode cX11_other 36 = .ok (.iload_n 3, 1) := by decide +kernel
theorem dX11_other_37 : decode cX11_other 37 = .ok (.ishr, 1) := by decide +kernel
theorem dX11_other_38 : decode cX11_other 38 = .ok (.iconst 1, 1) := by decide +kernel
theorem dX11_other_39 : decode cX11_other 39 = .ok (.iand, 1) := by decide +kernel
theorem dX11_other_40 : decode cX11_other 40 = .ok (.ifCond .ne 5, 3) := by decide +kernel
theorem dX11_other_43 : decode cX11_other 43 = .ok (.iconst (-1), 1) := by decide +kernel
theorem dX11_other_44 : decode cX11_other 44 = .ok (.ireturn, 1) := by decide +kernel
theorem dX11_other_45 : decode cX11_other 45 = .ok (.iinc 2 1, 3) := by decide +kernel
theorem dX11_other_48 : decode cX11_other 48 = .ok (.iinc 3 1, 3) := by decide +kernel
theorem dX11_other_51 : decode cX11_other 51 = .ok (.goto (-47), 3) := by decide +kernel
theorem dX11_other_54 : decode cX11_other 54 = .ok (.iload_n 2, 1) := by decide +kernel
theorem dX11_other_55 : decode cX11_other 55 = .ok (.ireturn, 1) := by decide +kernel
set_option maxRecDepth 20000 in
theorem ggX11_ask_X11_is : GoodIn wsX11_ask wsX11_is := goodIn_r _ [8, 3, 9, 10, 7, 11, 76, 77, 78, 79, 80, 81, 82, 83] (by decide +kernel) (by decide +kernel)
set_option maxRecDepth 20000 in
theorem gX11_ask_X11_is : GoodIn wsX11_ask (wsV RX11 41 RX11 yX11_is wsX11_is) := goodIn_app (goodIn_of _ (by decide +kernel)) ggX11_ask_X11_is
set_option maxRecDepth 20000 in
theorem ggX11_ask_X11_isKind : GoodIn wsX11_ask wsX11_isKind := goodIn_r _ [14, 9, 10, 7, 11] (by decide +kernel) (by decide +kernel)
set_option maxRecDepth 20000 in
theorem gX11_ask_X11_isKind : GoodIn wsX11_ask (va_wsS RX11 59 yX11_isKind wsX11_isKind) := goodIn_app (goodIn_of _ (by decide +kernel)) ggX11_ask_X11_isKind
set_option maxRecDepth 20000 in
theorem ggX11_ask_X11_isLand : GoodIn wsX11_ask wsX11_isLand := goodIn_r _ [17, 9, 10, 7, 11] (by decide +kernel) (by decide +kernel)
set_option maxRecDepth 20000 in
theorem gX11_ask_X11_isLand : GoodIn wsX11_ask (va_wsS RX11 56 yX11_isLand wsX11_isLand) := goodIn_app (goodIn_of _ (by decide +kernel)) ggX11_ask_X11_isLand
set_option maxRecDepth 20000 in
theorem ggX11_ask_X11_in : GoodIn wsX11_ask wsX11_in := goodIn_r _ [11] (by decide +kernel) (by decide +kernel)
set_option maxRecDepth 20000 in
theorem gX11_ask_X11_in : GoodIn wsX11_ask (va_wsS RX11 29 yX11_in wsX11_in) := goodIn_app (goodIn_of _ (by decide +kernel)) ggX11_ask_X11_in
set_option maxRecDepth 20000 in
theorem ggX11_ask_X11_looksAt : GoodIn wsX11_ask wsX11_looksAt := goodIn_r _ [21, 3, 22, 2, 76, 77, 78, 79, 80, 81, 82, 83] (by decide +kernel) (by decide +kernel)
set_option maxRecDepth 20000 in
theorem gX11_ask_X11_looksAt : GoodIn wsX11_ask (wsV RX11 52 RX11 yX11_looksAt wsX11_looksAt) := goodIn_app (goodIn_of _ (by decide +kernel)) ggX11_ask_X11_looksAt
set_option maxRecDepth 20000 in
theorem ggX11_ask_X11_looksAtNumber : GoodIn wsX11_ask wsX11_looksAtNumber := goodIn_r _ [26, 22, 2, 76, 77, 78, 79, 80, 81, 82, 83] (by decide +kernel) (by decide +kernel)
set_option maxRecDepth 20000 in
theorem gX11_ask_X11_looksAtNumber : GoodIn wsX11_ask (wsV RX11 110 RX11 yX11_looksAtNumber wsX11_looksAtNumber) := goodIn_app (goodIn_of _ (by decide +kernel)) ggX11_ask_X11_looksAtNumber
set_option maxRecDepth 20000 in
theorem ggX11_ask_X11_other : GoodIn wsX11_ask wsX11_other := goodIn_r _ [30, 2, 1, 76, 77, 78, 79, 80, 81, 82, 83] (by decide +kernel) (by decide +kernel)
set_option maxRecDepth 20000 in
theorem gX11_ask_X11_other : GoodIn wsX11_ask (wsV RX11 130 RX11 yX11_other wsX11_other) := goodIn_app (goodIn_of _ (by decide +kernel)) ggX11_ask_X11_other
set_option maxRecDepth 20000 in
theorem ggX11_ask_X11_endsOf : GoodIn wsX11_ask wsX11_endsOf := goodIn_r _ [34, 3, 35, 36, 37, 7, 38, 2, 39, 40, 41, 42, 43, 44, 45, 46, 47, 48, 49, 50, 51, 52, 53, 54, 55, 56, 57, 58, 59, 60, 61, 62, 63, 22, 64, 65, 66, 67, 68, 69, 70, 71, 72, 73, 74, 75, 76, 77, 78, 79, 80, 81, 82, 83] (by decide +kernel) (by decide +kernel)
set_option maxRecDepth 20000 in
theorem gX11_ask_X11_endsOf : GoodIn wsX11_ask (wsV RX11 100 RX11 yX11_endsOf wsX11_endsOf) := goodIn_app (goodIn_of _ (by decide +kernel)) ggX11_ask_X11_endsOf
theorem dX11_ask_0 : decode cX11_ask 0 = .ok (.aload_n 0, 1) := by decide +kernel
theorem dX11_ask_1 : decode cX11_ask 1 = .ok (.iconst 0, 1) := by decide +kernel
theorem dX11_ask_2 : decode cX11_ask 2 = .ok (.iload_n 1, 1) := by decide +kernel
theorem dX11_ask_3 : decode cX11_ask 3 = .ok (.invokevirtual 41, 3) := by decide +kernel
theorem dX11_ask_6 : decode cX11_ask 6 = .ok (.ifCond .eq 38, 3) := by decide +kernel
theorem dX11_ask_9 : decode cX11_ask 9 = .ok (.iload_n 2, 1) := by decide +kernel
theorem dX11_ask_10 : decode cX11_ask 10 = .ok (.invokestatic 59, 3) := by decide +kernel
theorem dX11_ask_13 : decode cX11_ask 13 = .ok (.ifCond .eq 31, 3) := by decide +kernel
theorem dX11_ask_16 : decode cX11_ask 16 = .ok (.iload_n 3, 1) := by decide +kernel
theorem dX11_ask_17 : decode cX11_ask 17 = .ok (.invokestatic 56, 3) := by decide +kernel
theorem dX11_ask_20 : decode cX11_ask 20 = .ok (.ifCond .eq 24, 3) := by decide +kernel
theorem dX11_ask_23 : decode cX11_ask 23 = .ok (.iload 4, 2) := by decide +kernel
theorem dX11_ask_25 : decode cX11_ask 25 = .ok (.iconst 0, 1) := by decide +kernel
theorem dX11_ask_26 : decode cX11_ask 26 = .ok (.bipush 63, 2) := by decide +kernel
theorem dX11_ask_28 : decode cX11_ask 28 = .ok (.invokestatic 29, 3) := by decide +kernel
theorem dX11_ask_31 : decode cX11_ask 31 = .ok (.ifCond .eq 13, 3) := by decide +kernel
theorem dX11_ask_34 : decode cX11_ask 34 = .ok (.iload 5, 2) := by decide +kernel
