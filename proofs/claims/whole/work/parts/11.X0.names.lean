set_option maxRecDepth 20000 in
theorem ggX0_init_X2_init : GoodIn wsX0_init wsX2_init := goodIn_r _ [9, 10, 2, 3, 11, 12, 13, 14, 15, 16, 17, 18, 19] (by decide +kernel) (by decide +kernel)
set_option maxRecDepth 20000 in
theorem gX0_init_X2_init_n11 : GoodIn wsX0_init (wsX2_init) := ggX0_init_X2_init
theorem dX0_init_0 : decode cX0_init 0 = .ok (.aload_n 0, 1) := by decide +kernel
theorem dX0_init_1 : decode cX0_init 1 = .ok (.invokespecial 3, 3) := by decide +kernel
theorem dX0_init_4 : decode cX0_init 4 = .ok (.aload_n 0, 1) := by decide +kernel
theorem dX0_init_5 : decode cX0_init 5 = .ok (.new 9, 3) := by decide +kernel
theorem dX0_init_8 : decode cX0_init 8 = .ok (.dup, 1) := by decide +kernel
theorem dX0_init_9 : decode cX0_init 9 = .ok (.invokespecial 11, 3) := by decide +kernel
theorem dX0_init_12 : decode cX0_init 12 = .ok (.putfield 12, 3) := by decide +kernel
theorem dX0_init_15 : decode cX0_init 15 = .ok (.return_, 1) := by decide +kernel
set_option maxRecDepth 20000 in
theorem ggX0_goOn_X0_passTick : GoodIn wsX0_goOn wsX0_passTick := goodIn_r _ [6, 7, 1, 8, 9, 10, 11, 12, 13, 14, 15, 16, 17, 18, 19, 20, 21, 22, 5, 23, 24, 25, 26, 27, 28, 29, 30, 31, 32, 33, 34, 35, 36, 37, 38, 39, 40, 41, 42, 43, 44, 45, 46, 47, 48, 49, 50, 51, 52, 53, 54, 55, 56, 57, 58, 59, 60, 61, 62, 63, 64, 65, 66, 67, 68, 69, 70, 71, 72, 73, 74, 75, 76, 77, 78, 79, 80, 81, 82, 83, 84, 85, 86, 87, 88, 89, 90, 91, 92, 93, 94, 95, 96, 97, 98, 99, 100, 101, 102, 103, 104, 105, 106, 107, 108, 109, 110, 111, 112, 113, 114, 115] (by decide +kernel) (by decide +kernel)
set_option maxRecDepth 20000 in
theorem gX0_goOn_X0_passTick : GoodIn wsX0_goOn (wsV RX0 24 RX0 yX0_passTick wsX0_passTick) := goodIn_app (goodIn_of _ (by decide +kernel)) ggX0_goOn_X0_passTick
theorem dX0_goOn_0 : decode cX0_goOn 0 = .ok (.aload_n 1, 1) := by decide +kernel
theorem dX0_goOn_1 : decode cX0_goOn 1 = .ok (.iconst 0, 1) := by decide +kernel
theorem dX0_goOn_2 : decode cX0_goOn 2 = .ok (.putfield 18, 3) := by decide +kernel
theorem dX0_goOn_5 : decode cX0_goOn 5 = .ok (.iconst 1, 1) := by decide +kernel
theorem dX0_goOn_6 : decode cX0_goOn 6 = .ok (.istore 4, 2) := by decide +kernel
theorem dX0_goOn_8 : decode cX0_goOn 8 = .ok (.iconst 0, 1) := by decide +kernel
theorem dX0_goOn_9 : decode cX0_goOn 9 = .ok (.istore 5, 2) := by decide +kernel
theorem dX0_goOn_11 : decode cX0_goOn 11 = .ok (.iload 5, 2) := by decide +kernel
theorem dX0_goOn_13 : decode cX0_goOn 13 = .ok (.sipush 300, 3) := by decide +kernel
theorem dX0_goOn_16 : decode cX0_goOn 16 = .ok (.if_icmp .gt 22, 3) := by decide +kernel
theorem dX0_goOn_19 : decode cX0_goOn 19 = .ok (.iload 4, 2) := by decide +kernel
theorem dX0_goOn_21 : decode cX0_goOn 21 = .ok (.ifCond .eq 17, 3) := by decide +kernel
theorem dX0_goOn_24 : decode cX0_goOn 24 = .ok (.aload_n 0, 1) := by decide +kernel
theorem dX0_goOn_25 : decode cX0_goOn 25 = .ok (.aload_n 1, 1) := by decide +kernel
theorem dX0_goOn_26 : decode cX0_goOn 26 = .ok (.lload_n 2, 1) := by decide +kernel
theorem dX0_goOn_27 : decode cX0_goOn 27 = .ok (.invokevirtual 24, 3) := by decide +kernel
theorem dX0_goOn_30 : decode cX0_goOn 30 = .ok (.istore 4, 2) := by decide +kernel
theorem dX0_goOn_32 : decode cX0_goOn 32 = .ok (.iinc 5 1, 3) := by decide +kernel
theorem dX0_goOn_35 : decode cX0_goOn 35 = .ok (.goto (-24), 3) := by decide +kernel
theorem dX0_goOn_38 : decode cX0_goOn 38 = .ok (.return_, 1) := by decide +kernel
set_option maxRecDepth 20000 in
theorem ggX0_passTick_X4_leastTick : GoodIn wsX0_passTick wsX4_leastTick := goodIn_r _ [10, 11, 12, 13, 14, 99, 100, 101, 102, 103, 104, 105, 106] (by decide +kernel) (by decide +kernel)
set_option maxRecDepth 20000 in
theorem gX0_passTick_X4_leastTick : GoodIn wsX0_passTick (wsV RX0 28 RX4 yX4_leastTick wsX4_leastTick) := goodIn_app (goodIn_of _ (by decide +kernel)) ggX0_passTick_X4_leastTick
set_option maxRecDepth 20000 in
theorem ggX0_passTick_X0_moveTime : GoodIn wsX0_passTick wsX0_moveTime := goodIn_r _ [19, 20, 21, 22, 1, 23, 24, 25, 26, 27, 28, 29, 30, 99, 100, 101, 102, 103, 104, 105, 106] (by decide +kernel) (by decide +kernel)
set_option maxRecDepth 20000 in
theorem gX0_passTick_X0_moveTime : GoodIn wsX0_passTick (wsV RX0 34 RX0 yX0_moveTime wsX0_moveTime) := goodIn_app (goodIn_of _ (by decide +kernel)) ggX0_passTick_X0_moveTime
set_option maxRecDepth 20000 in
theorem ggX0_passTick_X0_findGoers : GoodIn wsX0_passTick wsX0_findGoers := goodIn_r _ [34, 3, 4, 21, 22, 35, 36, 37, 18, 38, 39, 40, 41, 42, 43, 44, 45, 46, 47, 48, 49, 50, 51, 52, 53, 54, 55, 56, 57, 58, 59, 60, 61, 107, 108, 109, 110, 111, 99, 100, 101, 102, 103, 104, 105, 106] (by decide +kernel) (by decide +kernel)
set_option maxRecDepth 20000 in
theorem gX0_passTick_X0_findGoers : GoodIn wsX0_passTick (wsV RX0 38 RX0 yX0_findGoers wsX0_findGoers) := goodIn_app (goodIn_of _ (by decide +kernel)) ggX0_passTick_X0_findGoers
set_option maxRecDepth 20000 in
theorem ggX0_passTick_X0_letGo : GoodIn wsX0_passTick wsX0_letGo := goodIn_r _ [65, 2, 66, 20, 22, 67, 68, 69, 70, 9, 71, 12, 13, 14, 72, 73, 74, 75, 76, 11, 77, 78, 79, 80, 81, 82, 83, 18, 84, 1, 85, 86, 87, 88, 89, 90, 91, 92, 93, 94, 95, 96, 97, 98, 99, 100, 101, 102, 103, 104, 105, 106] (by decide +kernel) (by decide +kernel)
set_option maxRecDepth 20000 in
theorem gX0_passTick_X0_letGo : GoodIn wsX0_passTick (wsV RX0 48 RX0 yX0_letGo wsX0_letGo) := goodIn_app (goodIn_of _ (by decide +kernel)) ggX0_passTick_X0_letGo
theorem dX0_passTick_0 : decode cX0_passTick 0 = .ok (.aload_n 1, 1) := by decide +kernel
theorem dX0_passTick_1 : decode cX0_passTick 1 = .ok (.invokevirtual 28, 3) := by decide +kernel
theorem dX0_passTick_4 : decode cX0_passTick 4 = .ok (.lstore 4, 2) := by decide +kernel
theorem dX0_passTick_6 : decode cX0_passTick 6 = .ok (.lload 4, 2) := by decide +kernel
theorem dX0_passTick_8 : decode cX0_passTick 8 = .ok (.ldc2_w 32, 3) := by decide +kernel
theorem dX0_passTick_11 : decode cX0_passTick 11 = .ok (.lcmp, 1) := by decide +kernel
theorem dX0_passTick_12 : decode cX0_passTick 12 = .ok (.ifCond .eq 10, 3) := by decide +kernel
theorem dX0_passTick_15 : decode cX0_passTick 15 = .ok (.lload 4, 2) := by decide +kernel
theorem dX0_passTick_17 : decode cX0_passTick 17 = .ok (.lload_n 2, 1) := by decide +kernel
theorem dX0_passTick_18 : decode cX0_passTick 18 = .ok (.lcmp, 1) := by decide +kernel
theorem dX0_passTick_19 : decode cX0_passTick 19 = .ok (.ifCond .le 11, 3) := by decide +kernel
theorem dX0_passTick_22 : decode cX0_passTick 22 = .ok (.aload_n 0, 1) := by decide +kernel
theorem dX0_passTick_23 : decode cX0_passTick 23 = .ok (.aload_n 1, 1) := by decide +kernel
theorem dX0_passTick_24 : decode cX0_passTick 24 = .ok (.lload_n 2, 1) := by decide +kernel
theorem dX0_passTick_25 : decode cX0_passTick 25 = .ok (.invokevirtual 34, 3) := by decide +kernel
theorem dX0_passTick_28 : decode cX0_passTick 28 = .ok (.iconst 0, 1) := by decide +kernel
theorem dX0_passTick_29 : decode cX0_passTick 29 = .ok (.ireturn, 1) := by decide +kernel
theorem dX0_passTick_30 : decode cX0_passTick 30 = .ok (.aload_n 0, 1) := by decide +kernel
theorem dX0_passTick_31 : decode cX0_passTick 31 = .ok (.aload_n 1, 1) := by decide +kernel
theorem dX0_passTick_32 : decode cX0_passTick 32 = .ok (.lload 4, 2) := by decide +kernel
theorem dX0_passTick_34 : decode cX0_passTick 34 = .ok (.invokevirtual 38, 3) := by decide +kernel
theorem dX0_passTick_37 : decode cX0_passTick 37 = .ok (.aload_n 1, 1) := by decide +kernel
theorem dX0_passTick_38 : decode cX0_passTick 38 = .ok (.getfield 18, 3) := by decide +kernel
theorem dX0_passTick_41 : decode cX0_passTick 41 = .ok (.aload_n 0, 1) := by decide +kernel
theorem dX0_passTick_42 : decode cX0_passTick 42 = .ok (.getfield 12, 3) := by decide +kernel
theorem dX0_passTick_45 : decode cX0_passTick 45 = .ok (.getfield 41, 3) := by decide +kernel
theorem dX0_passTick_48 : decode cX0_passTick 48 = .ok (.iadd, 1) := by decide +kernel
theorem dX0_passTick_49 : decode cX0_passTick 49 = .ok (.sipush 300, 3) := by decide +kernel
theorem dX0_passTick_52 : decode cX0_passTick 52 = .ok (.if_icmp .le 14, 3) := by decide +kernel
theorem dX0_passTick_55 : decode cX0_passTick 55 = .ok (.aload_n 0, 1) := by decide +kernel
theorem dX0_passTick_56 : decode cX0_passTick 56 = .ok (.aload_n 1, 1) := by decide +kernel
theorem dX0_passTick_57 : decode cX0_passTick 57 = .ok (.lload 4, 2) := by decide +kernel
theorem dX0_passTick_59 : decode cX0_passTick 59 = .ok (.lconst 1, 1) := by decide +kernel
theorem dX0_passTick_60 : decode cX0_passTick 60 = .ok (.lsub, 1) := by decide +kernel
theorem dX0_passTick_61 : decode cX0_passTick 61 = .ok (.invokevirtual 34, 3) := by decide +kernel
theorem dX0_passTick_64 : decode cX0_passTick 64 = .ok (.iconst 0, 1) := by decide +kernel
theorem dX0_passTick_65 : decode cX0_passTick 65 = .ok (.ireturn, 1) := by decide +kernel
theorem dX0_passTick_66 : decode cX0_passTick 66 = .ok (.aload_n 0, 1) := by decide +kernel
theorem dX0_passTick_67 : decode cX0_passTick 67 = .ok (.aload_n 1, 1) := by decide +kernel
theorem dX0_passTick_68 : decode cX0_passTick 68 = .ok (.lload 4, 2) := by decide +kernel
theorem dX0_passTick_70 : decode cX0_passTick 70 = .ok (.invokevirtual 34, 3) := by decide +kernel
theorem dX0_passTick_73 : decode cX0_passTick 73 = .ok (.iconst 0, 1) := by decide +kernel
theorem dX0_passTick_74 : decode cX0_passTick 74 = .ok (.istore 6, 2) := by decide +kernel
theorem dX0_passTick_76 : decode cX0_passTick 76 = .ok (.iload 6, 2) := by decide +kernel
theorem dX0_passTick_78 : decode cX0_passTick 78 = .ok (.aload_n 0, 1) := by decide +kernel
theorem dX0_passTick_79 : decode cX0_passTick 79 = .ok (.getfield 12, 3) := by decide +kernel
theorem dX0_passTick_82 : decode cX0_passTick 82 = .ok (.getfield 41, 3) := by decide +kernel
theorem dX0_passTick_85 : decode cX0_passTick 85 = .ok (.if_icmp .ge 24, 3) := by decide +kernel
theorem dX0_passTick_88 : decode cX0_passTick 88 = .ok (.aload_n 0, 1) := by decide +kernel
theorem dX0_passTick_89 : decode cX0_passTick 89 = .ok (.aload_n 1, 1) := by decide +kernel
theorem dX0_passTick_90 : decode cX0_passTick 90 = .ok (.aload_n 0, 1) := by decide +kernel
theorem dX0_passTick_91 : decode cX0_passTick 91 = .ok (.getfield 12, 3) := by decide +kernel
theorem dX0_passTick_94 : decode cX0_passTick 94 = .ok (.getfield 44, 3) := by decide +kernel
theorem dX0_passTick_97 : decode cX0_passTick 97 = .ok (.iload 6, 2) := by decide +kernel
theorem dX0_passTick_99 : decode cX0_passTick 99 = .ok (.iaload, 1) := by decide +kernel
theorem dX0_passTick_100 : decode cX0_passTick 100 = .ok (.invokevirtual 48, 3) := by decide +kernel
theorem dX0_passTick_103 : decode cX0_passTick 103 = .ok (.iinc 6 1, 3) := by decide +kernel
theorem dX0_passTick_106 : decode cX0_passTick 106 = .ok (.goto (-30), 3) := by decide +kernel
theorem dX0_passTick_109 : decode cX0_passTick 109 = .ok (.iconst 1, 1) := by decide +kernel
theorem dX0_passTick_110 : decode cX0_passTick 110 = .ok (.ireturn, 1) := by decide +kernel
set_option maxRecDepth 20000 in
theorem ggX0_moveTime_X5_movesDown : GoodIn wsX0_moveTime wsX5_movesDown := goodIn_r _ [9, 10, 11, 8, 12] (by decide +kernel) (by decide +kernel)
set_option maxRecDepth 20000 in
theorem gX0_moveTime_X5_movesDown : GoodIn wsX0_moveTime (va_wsS RX0 62 yX5_movesDown wsX5_movesDown) := goodIn_app (goodIn_of _ (by decide +kernel)) ggX0_moveTime_X5_movesDown
theorem dX0_moveTime_0 : decode cX0_moveTime 0 = .ok (.aload_n 1, 1) := by decide +kernel
theorem dX0_moveTime_1 : decode cX0_moveTime 1 = .ok (.getfield 52, 3) := by decide +kernel
theorem dX0_moveTime_4 : decode cX0_moveTime 4 = .ok (.bipush 6, 2) := by decide +kernel
theorem dX0_moveTime_6 : decode cX0_moveTime 6 = .ok (.lshr, 1) := by decide +kernel
theorem dX0_moveTime_7 : decode cX0_moveTime 7 = .ok (.lload_n 2, 1) := by decide +kernel
theorem dX0_moveTime_8 : decode cX0_moveTime 8 = .ok (.bipush 6, 2) := by decide +kernel
theorem dX0_moveTime_10 : decode cX0_moveTime 10 = .ok (.lshr, 1) := by decide +kernel
theorem dX0_moveTime_11 : decode cX0_moveTime 11 = .ok (.lcmp, 1) := by decide +kernel
theorem dX0_moveTime_12 : decode cX0_moveTime 12 = .ok (.ifCond .eq 81, 3) := by decide +kernel
theorem dX0_moveTime_15 : decode cX0_moveTime 15 = .ok (.iconst 0, 1) := by decide +kernel
theorem dX0_moveTime_16 : decode cX0_moveTime 16 = .ok (.istore 4, 2) := by decide +kernel
theorem dX0_moveTime_18 : decode cX0_moveTime 18 = .ok (.iload 4, 2) := by decide +kernel
theorem dX0_moveTime_20 : decode cX0_moveTime 20 = .ok (.aload_n 1, 1) := by decide +kernel
theorem dX0_moveTime_21 : decode cX0_moveTime 21 = .ok (.getfield 56, 3) := by decide +kernel
theorem dX0_moveTime_24 : decode cX0_moveTime 24 = .ok (.if_icmp .ge 69, 3) := by decide +kernel
theorem dX0_moveTime_27 : decode cX0_moveTime 27 = .ok (.aload_n 1, 1) := by decide +kernel
theorem dX0_moveTime_28 : decode cX0_moveTime 28 = .ok (.getfield 59, 3) := by decide +kernel
theorem dX0_moveTime_31 : decode cX0_moveTime 31 = .ok (.iconst 2, 1) := by decide +kernel
theorem dX0_moveTime_32 : decode cX0_moveTime 32 = .ok (.aaload, 1) := by decide +kernel
theorem dX0_moveTime_33 : decode cX0_moveTime 33 = .ok (.iload 4, 2) := by decide +kernel
theorem dX0_moveTime_35 : decode cX0_moveTime 35 = .ok (.laload, 1) := by decide +kernel
theorem dX0_moveTime_36 : decode cX0_moveTime 36 = .ok (.lstore 5, 2) := by decide +kernel
theorem dX0_moveTime_38 : decode cX0_moveTime 38 = .ok (.lload 5, 2) := by decide +kernel
theorem dX0_moveTime_40 : decode cX0_moveTime 40 = .ok (.ldc2_w 32, 3) := by decide +kernel
theorem dX0_moveTime_43 : decode cX0_moveTime 43 = .ok (.lcmp, 1) := by decide +kernel
theorem dX0_moveTime_44 : decode cX0_moveTime 44 = .ok (.ifCond .eq 43, 3) := by decide +kernel
theorem dX0_moveTime_47 : decode cX0_moveTime 47 = .ok (.aload_n 1, 1) := by decide +kernel
theorem dX0_moveTime_48 : decode cX0_moveTime 48 = .ok (.getfield 52, 3) := by decide +kernel
theorem dX0_moveTime_51 : decode cX0_moveTime 51 = .ok (.lload_n 2, 1) := by decide +kernel
theorem dX0_moveTime_52 : decode cX0_moveTime 52 = .ok (.lload 5, 2) := by decide +kernel
theorem dX0_moveTime_54 : decode cX0_moveTime 54 = .ok (.invokestatic 62, 3) := by decide +kernel
theorem dX0_moveTime_57 : decode cX0_moveTime 57 = .ok (.istore 7, 2) := by decide +kernel
theorem dX0_moveTime_59 : decode cX0_moveTime 59 = .ok (.aload_n 1, 1) := by decide +kernel
theorem dX0_moveTime_60 : decode cX0_moveTime 60 = .ok (.getfield 59, 3) := by decide +kernel
theorem dX0_moveTime_63 : decode cX0_moveTime 63 = .ok (.bipush 11, 2) := by decide +kernel
theorem dX0_moveTime_65 : decode cX0_moveTime 65 = .ok (.aaload, 1) := by decide +kernel
theorem dX0_moveTime_66 : decode cX0_moveTime 66 = .ok (.iload 4, 2) := by decide +kernel
theorem dX0_moveTime_68 : decode cX0_moveTime 68 = .ok (.dup2, 1) := by decide +kernel
theorem dX0_moveTime_69 : decode cX0_moveTime 69 = .ok (.laload, 1) := by decide +kernel
theorem dX0_moveTime_70 : decode cX0_moveTime 70 = .ok (.iload 7, 2) := by decide +kernel
theorem dX0_moveTime_72 : decode cX0_moveTime 72 = .ok (.i2l, 1) := by decide +kernel
theorem dX0_moveTime_73 : decode cX0_moveTime 73 = .ok (.ladd, 1) := by decide +kernel
theorem dX0_moveTime_74 : decode cX0_moveTime 74 = .ok (.lastore, 1) := by decide +kernel
theorem dX0_moveTime_75 : decode cX0_moveTime 75 = .ok (.aload_n 1, 1) := by decide +kernel
theorem dX0_moveTime_76 : decode cX0_moveTime 76 = .ok (.dup, 1) := by decide +kernel
theorem dX0_moveTime_77 : decode cX0_moveTime 77 = .ok (.getfield 68, 3) := by decide +kernel
theorem dX0_moveTime_80 : decode cX0_moveTime 80 = .ok (.iload 7, 2) := by decide +kernel
theorem dX0_moveTime_82 : decode cX0_moveTime 82 = .ok (.i2l, 1) := by decide +kernel
theorem dX0_moveTime_83 : decode cX0_moveTime 83 = .ok (.ladd, 1) := by decide +kernel
theorem dX0_moveTime_84 : decode cX0_moveTime 84 = .ok (.putfield 68, 3) := by decide +kernel
theorem dX0_moveTime_87 : decode cX0_moveTime 87 = .ok (.iinc 4 1, 3) := by decide +kernel
theorem dX0_moveTime_90 : decode cX0_moveTime 90 = .ok (.goto (-72), 3) := by decide +kernel
theorem dX0_moveTime_93 : decode cX0_moveTime 93 = .ok (.aload_n 1, 1) := by decide +kernel
theorem dX0_moveTime_94 : decode cX0_moveTime 94 = .ok (.lload_n 2, 1) := by decide +kernel
theorem dX0_moveTime_95 : decode cX0_moveTime 95 = .ok (.putfield 52, 3) := by decide +kernel
theorem dX0_moveTime_98 : decode cX0_moveTime 98 = .ok (.return_, 1) := by decide +kernel
set_option maxRecDepth 20000 in
theorem ggX0_findGoers_X0_isFast : GoodIn wsX0_findGoers wsX0_isFast := goodIn_r _ [9, 3, 4, 10, 38, 39, 40, 41, 42, 43, 44, 45] (by decide +kernel) (by decide +kernel)
set_option maxRecDepth 20000 in
theorem gX0_findGoers_X0_isFast : GoodIn wsX0_findGoers (wsV RX0 71 RX0 yX0_isFast wsX0_isFast) := goodIn_app (goodIn_of _ (by decide +kernel)) ggX0_findGoers_X0_isFast
set_option maxRecDepth 20000 in
theorem ggX0_findGoers_X0_isLooseFrom : GoodIn wsX0_findGoers wsX0_isLooseFrom := goodIn_r _ [14, 4, 10, 38, 39, 40, 41, 42, 43, 44, 45] (by decide +kernel) (by decide +kernel)
set_option maxRecDepth 20000 in
theorem gX0_findGoers_X0_isLooseFrom : GoodIn wsX0_findGoers (wsV RX0 74 RX0 yX0_isLooseFrom wsX0_isLooseFrom) := goodIn_app (goodIn_of _ (by decide +kernel)) ggX0_findGoers_X0_isLooseFrom
set_option maxRecDepth 20000 in
theorem ggX0_findGoers_X0_rankOf : GoodIn wsX0_findGoers wsX0_rankOf := goodIn_r _ [18, 10, 19] (by decide +kernel) (by decide +kernel)
set_option maxRecDepth 20000 in
theorem gX0_findGoers_X0_rankOf : GoodIn wsX0_findGoers (wsV RX0 78 RX0 yX0_rankOf wsX0_rankOf) := goodIn_app (goodIn_of _ (by decide +kernel)) ggX0_findGoers_X0_rankOf
set_option maxRecDepth 20000 in
theorem ggX0_findGoers_X2_add : GoodIn wsX0_findGoers wsX2_add := goodIn_r _ [24, 25, 26, 27, 28, 29, 30, 31, 23, 32, 34, 35, 36, 37] (by decide +kernel) (by decide +kernel)
set_option maxRecDepth 20000 in
theorem gX0_findGoers_X2_add : GoodIn wsX0_findGoers (wsV RX0 82 RX2 yX2_add wsX2_add) := goodIn_app (goodIn_of _ (by decide +kernel)) ggX0_findGoers_X2_add
theorem dX0_findGoers_0 : decode cX0_findGoers 0 = .ok (.aload_n 0, 1) := by decide +kernel
theorem dX0_findGoers_1 : decode cX0_findGoers 1 = .ok (.aload_n 1, 1) := by decide +kernel
theorem dX0_findGoers_2 : decode cX0_findGoers 2 = .ok (.lload_n 2, 1) := by decide +kernel
theorem dX0_findGoers_3 : decode cX0_findGoers 3 = .ok (.invokevirtual 71, 3) := by decide +kernel
theorem dX0_findGoers_6 : decode cX0_findGoers 6 = .ok (.istore 4, 2) := by decide +kernel
theorem dX0_findGoers_8 : decode cX0_findGoers 8 = .ok (.aload_n 0, 1) := by decide +kernel
theorem dX0_findGoers_9 : decode cX0_findGoers 9 = .ok (.getfield 12, 3) := by decide +kernel
theorem dX0_findGoers_12 : decode cX0_findGoers 12 = .ok (.iconst 0, 1) := by decide +kernel
theorem dX0_findGoers_13 : decode cX0_findGoers 13 = .ok (.putfield 41, 3) := by decide +kernel
theorem dX0_findGoers_16 : decode cX0_findGoers 16 = .ok (.iconst 0, 1) := by decide +kernel
theorem dX0_findGoers_17 : decode cX0_findGoers 17 = .ok (.istore 5, 2) := by decide +kernel
theorem dX0_findGoers_19 : decode cX0_findGoers 19 = .ok (.iload 5, 2) := by decide +kernel
theorem dX0_findGoers_21 : decode cX0_findGoers 21 = .ok (.aload_n 1, 1) := by decide +kernel
theorem dX0_findGoers_22 : decode cX0_findGoers 22 = .ok (.getfield 56, 3) := by decide +kernel
theorem dX0_findGoers_25 : decode cX0_findGoers 25 = .ok (.if_icmp .ge 71, 3) := by decide +kernel
theorem dX0_findGoers_28 : decode cX0_findGoers 28 = .ok (.aload_n 1, 1) := by decide +kernel
theorem dX0_findGoers_29 : decode cX0_findGoers 29 = .ok (.getfield 59, 3) := by decide +kernel
theorem dX0_findGoers_32 : decode cX0_findGoers 32 = .ok (.iconst 2, 1) := by decide +kernel
theorem dX0_findGoers_33 : decode cX0_findGoers 33 = .ok (.aaload, 1) := by decide +kernel
theorem dX0_findGoers_34 : decode cX0_findGoers 34 = .ok (.iload 5, 2) := by decide +kernel
theorem dX0_findGoers_36 : decode cX0_findGoers 36 = .ok (.laload, 1) := by decide +kernel
theorem dX0_findGoers_37 : decode cX0_findGoers 37 = .ok (.lload_n 2, 1) := by decide +kernel
theorem dX0_findGoers_38 : decode cX0_findGoers 38 = .ok (.lcmp, 1) := by decide +kernel
theorem dX0_findGoers_39 : decode cX0_findGoers 39 = .ok (.ifCond .eq 19, 3) := by decide +kernel
theorem dX0_findGoers_42 : decode cX0_findGoers 42 = .ok (.iload 4, 2) := by decide +kernel
theorem dX0_findGoers_44 : decode cX0_findGoers 44 = .ok (.ifCond .eq 46, 3) := by decide +kernel
theorem dX0_findGoers_47 : decode cX0_findGoers 47 = .ok (.aload_n 0, 1) := by decide +kernel
theorem dX0_findGoers_48 : decode cX0_findGoers 48 = .ok (.aload_n 1, 1) := by decide +kernel
theorem dX0_findGoers_49 : decode cX0_findGoers 49 = .ok (.iload 5, 2) := by decide +kernel
theorem dX0_findGoers_51 : decode cX0_findGoers 51 = .ok (.lload_n 2, 1) := by decide +kernel
theorem dX0_findGoers_52 : decode cX0_findGoers 52 = .ok (.invokevirtual 74, 3) := by decide +kernel
theorem dX0_findGoers_55 : decode cX0_findGoers 55 = .ok (.ifCond .eq 35, 3) := by decide +kernel
theorem dX0_findGoers_58 : decode cX0_findGoers 58 = .ok (.aload_n 0, 1) := by decide +kernel
theorem dX0_findGoers_59 : decode cX0_findGoers 59 = .ok (.getfield 12, 3) := by decide +kernel
theorem dX0_findGoers_62 : decode cX0_findGoers 62 = .ok (.iload 5, 2) := by decide +kernel
theorem dX0_findGoers_64 : decode cX0_findGoers 64 = .ok (.aload_n 0, 1) := by decide +kernel
theorem dX0_findGoers_65 : decode cX0_findGoers 65 = .ok (.aload_n 1, 1) := by decide +kernel
theorem dX0_findGoers_66 : decode cX0_findGoers 66 = .ok (.getfield 59, 3) := by decide +kernel
theorem dX0_findGoers_69 : decode cX0_findGoers 69 = .ok (.iconst 0, 1) := by decide +kernel
theorem dX0_findGoers_70 : decode cX0_findGoers 70 = .ok (.aaload, 1) := by decide +kernel
theorem dX0_findGoers_71 : decode cX0_findGoers 71 = .ok (.iload 5, 2) := by decide +kernel
theorem dX0_findGoers_73 : decode cX0_findGoers 73 = .ok (.laload, 1) := by decide +kernel
theorem dX0_findGoers_74 : decode cX0_findGoers 74 = .ok (.invokevirtual 78, 3) := by decide +kernel
theorem dX0_findGoers_77 : decode cX0_findGoers 77 = .ok (.aload_n 1, 1) := by decide +kernel
theorem dX0_findGoers_78 : decode cX0_findGoers 78 = .ok (.getfield 59, 3) := by decide +kernel
theorem dX0_findGoers_81 : decode cX0_findGoers 81 = .ok (.bipush 8, 2) := by decide +kernel
theorem dX0_findGoers_83 : decode cX0_findGoers 83 = .ok (.aaload, 1) := by decide +kernel
theorem dX0_findGoers_84 : decode cX0_findGoers 84 = .ok (.iload 5, 2) := by decide +kernel
theorem dX0_findGoers_86 : decode cX0_findGoers 86 = .ok (.laload, 1) := by decide +kernel
theorem dX0_findGoers_87 : decode cX0_findGoers 87 = .ok (.invokevirtual 82, 3) := by decide +kernel
theorem dX0_findGoers_90 : decode cX0_findGoers 90 = .ok (.iinc 5 1, 3) := by decide +kernel
theorem dX0_findGoers_93 : decode cX0_findGoers 93 = .ok (.goto (-74), 3) := by decide +kernel
theorem dX0_findGoers_96 : decode cX0_findGoers 96 = .ok (.return_, 1) := by decide +kernel
theorem dX0_isFast_0 : decode cX0_isFast 0 = .ok (.iconst 0, 1) := by decide +kernel
theorem dX0_isFast_1 : decode cX0_isFast 1 = .ok (.istore 4, 2) := by decide +kernel
theorem dX0_isFast_3 : decode cX0_isFast 3 = .ok (.iload 4, 2) := by decide +kernel
theorem dX0_isFast_5 : decode cX0_isFast 5 = .ok (.aload_n 1, 1) := by decide +kernel
theorem dX0_isFast_6 : decode cX0_isFast 6 = .ok (.getfield 56, 3) := by decide +kernel
theorem dX0_isFast_9 : decode cX0_isFast 9 = .ok (.if_icmp .ge 41, 3) := by decide +kernel
theorem dX0_isFast_12 : decode cX0_isFast 12 = .ok (.aload_n 1, 1) := by decide +kernel
theorem dX0_isFast_13 : decode cX0_isFast 13 = .ok (.getfield 59, 3) := by decide +kernel
theorem dX0_isFast_16 : decode cX0_isFast 16 = .ok (.iconst 2, 1) := by decide +kernel
theorem dX0_isFast_17 : decode cX0_isFast 17 = .ok (.aaload, 1) := by decide +kernel
theorem dX0_isFast_18 : decode cX0_isFast 18 = .ok (.iload 4, 2) := by decide +kernel
theorem dX0_isFast_20 : decode cX0_isFast 20 = .ok (.laload, 1) := by decide +kernel
theorem dX0_isFast_21 : decode cX0_isFast 21 = .ok (.lload_n 2, 1) := by decide +kernel
theorem dX0_isFast_22 : decode cX0_isFast 22 = .ok (.lcmp, 1) := by decide +kernel
theorem dX0_isFast_23 : decode cX0_isFast 23 = .ok (.ifCond .ne 21, 3) := by decide +kernel
theorem dX0_isFast_26 : decode cX0_isFast 26 = .ok (.aload_n 1, 1) := by decide +kernel
theorem dX0_isFast_27 : decode cX0_isFast 27 = .ok (.getfield 59, 3) := by decide +kernel
theorem dX0_isFast_30 : decode cX0_isFast 30 = .ok (.iconst 0, 1) := by decide +kernel
theorem dX0_isFast_31 : decode cX0_isFast 31 = .ok (.aaload, 1) := by decide +kernel
theorem dX0_isFast_32 : decode cX0_isFast 32 = .ok (.iload 4, 2) := by decide +kernel
theorem dX0_isFast_34 : decode cX0_isFast 34 = .ok (.laload, 1) := by decide +kernel
theorem dX0_isFast_35 : decode cX0_isFast 35 = .ok (.ldc2_w 86, 3) := by decide +kernel
theorem dX0_isFast_38 : decode cX0_isFast 38 = .ok (.lcmp, 1) := by decide +kernel
theorem dX0_isFast_39 : decode cX0_isFast 39 = .ok (.ifCond .eq 5, 3) := by decide +kernel
theorem dX0_isFast_42 : decode cX0_isFast 42 = .ok (.iconst 1, 1) := by decide +kernel
theorem dX0_isFast_43 : decode cX0_isFast 43 = .ok (.ireturn, 1) := by decide +kernel
theorem dX0_isFast_44 : decode cX0_isFast 44 = .ok (.iinc 4 1, 3) := by decide +kernel
theorem dX0_isFast_47 : decode cX0_isFast 47 = .ok (.goto (-44), 3) := by decide +kernel
theorem dX0_isFast_50 : decode cX0_isFast 50 = .ok (.iconst 0, 1) := by decide +kernel
theorem dX0_isFast_51 : decode cX0_isFast 51 = .ok (.ireturn, 1) := by decide +kernel
theorem dX0_isLooseFrom_0 : decode cX0_isLooseFrom 0 = .ok (.aload_n 1, 1) := by decide +kernel
theorem dX0_isLooseFrom_1 : decode cX0_isLooseFrom 1 = .ok (.getfield 59, 3) := by decide +kernel
theorem dX0_isLooseFrom_4 : decode cX0_isLooseFrom 4 = .ok (.iconst 0, 1) := by decide +kernel
theorem dX0_isLooseFrom_5 : decode cX0_isLooseFrom 5 = .ok (.aaload, 1) := by decide +kernel
theorem dX0_isLooseFrom_6 : decode cX0_isLooseFrom 6 = .ok (.iload_n 2, 1) := by decide +kernel
theorem dX0_isLooseFrom_7 : decode cX0_isLooseFrom 7 = .ok (.laload, 1) := by decide +kernel
theorem dX0_isLooseFrom_8 : decode cX0_isLooseFrom 8 = .ok (.ldc2_w 86, 3) := by decide +kernel
theorem dX0_isLooseFrom_11 : decode cX0_isLooseFrom 11 = .ok (.lcmp, 1) := by decide +kernel
theorem dX0_isLooseFrom_12 : decode cX0_isLooseFrom 12 = .ok (.ifCond .ne 20, 3) := by decide +kernel
theorem dX0_isLooseFrom_15 : decode cX0_isLooseFrom 15 = .ok (.aload_n 1, 1) := by decide +kernel
theorem dX0_isLooseFrom_16 : decode cX0_isLooseFrom 16 = .ok (.getfield 59, 3) := by decide +kernel
theorem dX0_isLooseFrom_19 : decode cX0_isLooseFrom 19 = .ok (.iconst 3, 1) := by decide +kernel
theorem dX0_isLooseFrom_20 : decode cX0_isLooseFrom 20 = .ok (.aaload, 1) := by decide +kernel
theorem dX0_isLooseFrom_21 : decode cX0_isLooseFrom 21 = .ok (.iload_n 2, 1) := by decide +kernel
theorem dX0_isLooseFrom_22 : decode cX0_isLooseFrom 22 = .ok (.laload, 1) := by decide +kernel
theorem dX0_isLooseFrom_23 : decode cX0_isLooseFrom 23 = .ok (.lload_n 3, 1) := by decide +kernel
theorem dX0_isLooseFrom_24 : decode cX0_isLooseFrom 24 = .ok (.lcmp, 1) := by decide +kernel
theorem dX0_isLooseFrom_25 : decode cX0_isLooseFrom 25 = .ok (.ifCond .gt 7, 3) := by decide +kernel
theorem dX0_isLooseFrom_28 : decode cX0_isLooseFrom 28 = .ok (.iconst 1, 1) := by decide +kernel
theorem dX0_isLooseFrom_29 : decode cX0_isLooseFrom 29 = .ok (.goto 4, 3) := by decide +kernel
theorem dX0_isLooseFrom_32 : decode cX0_isLooseFrom 32 = .ok (.iconst 0, 1) := by decide +kernel
theorem dX0_isLooseFrom_33 : decode cX0_isLooseFrom 33 = .ok (.ireturn, 1) := by decide +kernel
theorem dX0_rankOf_0 : decode cX0_rankOf 0 = .ok (.lload_n 1, 1) := by decide +kernel
theorem dX0_rankOf_1 : decode cX0_rankOf 1 = .ok (.ldc2_w 86, 3) := by decide +kernel
theorem dX0_rankOf_4 : decode cX0_rankOf 4 = .ok (.lcmp, 1) := by decide +kernel
theorem dX0_rankOf_5 : decode cX0_rankOf 5 = .ok (.ifCond .ne 9, 3) := by decide +kernel
theorem dX0_rankOf_8 : decode cX0_rankOf 8 = .ok (.ldc2_w 88, 3) := by decide +kernel
theorem dX0_rankOf_11 : decode cX0_rankOf 11 = .ok (.goto 4, 3) := by decide +kernel
theorem dX0_rankOf_14 : decode cX0_rankOf 14 = .ok (.lload_n 1, 1) := by decide +kernel
theorem dX0_rankOf_15 : decode cX0_rankOf 15 = .ok (.lreturn, 1) := by decide +kernel
set_option maxRecDepth 20000 in
theorem ggX0_letGo_X4_tellGone : GoodIn wsX0_letGo wsX4_tellGone := goodIn_r _ [10, 11, 12, 13, 14, 15, 16, 17, 9, 18, 19, 20, 21, 22, 23, 44, 45, 46, 47, 48, 49, 50, 51] (by decide +kernel) (by decide +kernel)
set_option maxRecDepth 20000 in
theorem gX0_letGo_X4_tellGone : GoodIn wsX0_letGo (wsV RX0 96 RX4 yX4_tellGone wsX4_tellGone) := goodIn_app (goodIn_of _ (by decide +kernel)) ggX0_letGo_X4_tellGone
set_option maxRecDepth 20000 in
theorem ggX0_letGo_X0_goesAgain : GoodIn wsX0_letGo wsX0_goesAgain := goodIn_r _ [28, 4, 29, 3, 30, 44, 45, 46, 47, 48, 49, 50, 51] (by decide +kernel) (by decide +kernel)
set_option maxRecDepth 20000 in
theorem gX0_letGo_X0_goesAgain : GoodIn wsX0_letGo (wsV RX0 100 RX0 yX0_goesAgain wsX0_goesAgain) := goodIn_app (goodIn_of _ (by decide +kernel)) ggX0_letGo_X0_goesAgain
set_option maxRecDepth 20000 in
theorem ggX0_letGo_X0_setAgain : GoodIn wsX0_letGo wsX0_setAgain := goodIn_r _ [34, 4, 3, 35, 16, 17, 9, 18, 12, 19, 20, 21, 22, 23, 44, 45, 46, 47, 48, 49, 50, 51] (by decide +kernel) (by decide +kernel)
set_option maxRecDepth 20000 in
theorem gX0_letGo_X0_setAgain : GoodIn wsX0_letGo (wsV RX0 104 RX0 yX0_setAgain wsX0_setAgain) := goodIn_app (goodIn_of _ (by decide +kernel)) ggX0_letGo_X0_setAgain
set_option maxRecDepth 20000 in
theorem ggX0_letGo_X4_close : GoodIn wsX0_letGo wsX4_close := goodIn_r _ [39, 11, 12, 13, 40, 41, 42, 9, 43, 44, 45, 46, 47, 48, 49, 50, 51] (by decide +kernel) (by decide +kernel)
set_option maxRecDepth 20000 in
theorem gX0_letGo_X4_close : GoodIn wsX0_letGo (wsV RX0 107 RX4 yX4_close wsX4_close) := goodIn_app (goodIn_of _ (by decide +kernel)) ggX0_letGo_X4_close
theorem dX0_letGo_0 : decode cX0_letGo 0 = .ok (.aload_n 1, 1) := by decide +kernel
theorem dX0_letGo_1 : decode cX0_letGo 1 = .ok (.getfield 18, 3) := by decide +kernel
theorem dX0_letGo_4 : decode cX0_letGo 4 = .ok (.sipush 300, 3) := by decide +kernel
theorem dX0_letGo_7 : decode cX0_letGo 7 = .ok (.if_icmp .lt 4, 3) := by decide +kernel
theorem dX0_letGo_10 : decode cX0_letGo 10 = .ok (.return_, 1) := by decide +kernel
theorem dX0_letGo_11 : decode cX0_letGo 11 = .ok (.aload_n 1, 1) := by decide +kernel
theorem dX0_letGo_12 : decode cX0_letGo 12 = .ok (.getfield 90, 3) := by decide +kernel
theorem dX0_letGo_15 : decode cX0_letGo 15 = .ok (.iconst 0, 1) := by decide +kernel
theorem dX0_letGo_16 : decode cX0_letGo 16 = .ok (.aaload, 1) := by decide +kernel
theorem dX0_letGo_17 : decode cX0_letGo 17 = .ok (.aload_n 1, 1) := by decide +kernel
theorem dX0_letGo_18 : decode cX0_letGo 18 = .ok (.getfield 18, 3) := by decide +kernel
theorem dX0_letGo_21 : decode cX0_letGo 21 = .ok (.iload_n 2, 1) := by decide +kernel
theorem dX0_letGo_22 : decode cX0_letGo 22 = .ok (.i2l, 1) := by decide +kernel
theorem dX0_letGo_23 : decode cX0_letGo 23 = .ok (.lastore, 1) := by decide +kernel
theorem dX0_letGo_24 : decode cX0_letGo 24 = .ok (.aload_n 1, 1) := by decide +kernel
theorem dX0_letGo_25 : decode cX0_letGo 25 = .ok (.getfield 90, 3) := by decide +kernel
theorem dX0_letGo_28 : decode cX0_letGo 28 = .ok (.iconst 1, 1) := by decide +kernel
theorem dX0_letGo_29 : decode cX0_letGo 29 = .ok (.aaload, 1) := by decide +kernel
theorem dX0_letGo_30 : decode cX0_letGo 30 = .ok (.aload_n 1, 1) := by decide +kernel
theorem dX0_letGo_31 : decode cX0_letGo 31 = .ok (.getfield 18, 3) := by decide +kernel
theorem dX0_letGo_34 : decode cX0_letGo 34 = .ok (.aload_n 1, 1) := by decide +kernel
theorem dX0_letGo_35 : decode cX0_letGo 35 = .ok (.getfield 52, 3) := by decide +kernel
theorem dX0_letGo_38 : decode cX0_letGo 38 = .ok (.lastore, 1) := by decide +kernel
theorem dX0_letGo_39 : decode cX0_letGo 39 = .ok (.aload_n 1, 1) := by decide +kernel
theorem dX0_letGo_40 : decode cX0_letGo 40 = .ok (.getfield 90, 3) := by decide +kernel
theorem dX0_letGo_43 : decode cX0_letGo 43 = .ok (.iconst 2, 1) := by decide +kernel
theorem dX0_letGo_44 : decode cX0_letGo 44 = .ok (.aaload, 1) := by decide +kernel
theorem dX0_letGo_45 : decode cX0_letGo 45 = .ok (.aload_n 1, 1) := by decide +kernel
theorem dX0_letGo_46 : decode cX0_letGo 46 = .ok (.getfield 18, 3) := by decide +kernel
theorem dX0_letGo_49 : decode cX0_letGo 49 = .ok (.aload_n 1, 1) := by decide +kernel
theorem dX0_letGo_50 : decode cX0_letGo 50 = .ok (.getfield 59, 3) := by decide +kernel
theorem dX0_letGo_53 : decode cX0_letGo 53 = .ok (.iconst 1, 1) := by decide +kernel
theorem dX0_letGo_54 : decode cX0_letGo 54 = .ok (.aaload, 1) := by decide +kernel
theorem dX0_letGo_55 : decode cX0_letGo 55 = .ok (.iload_n 2, 1) := by decide +kernel
theorem dX0_letGo_56 : decode cX0_letGo 56 = .ok (.laload, 1) := by decide +kernel
theorem dX0_letGo_57 : decode cX0_letGo 57 = .ok (.lastore, 1) := by decide +kernel
theorem dX0_letGo_58 : decode cX0_letGo 58 = .ok (.aload_n 1, 1) := by decide +kernel
theorem dX0_letGo_59 : decode cX0_letGo 59 = .ok (.dup, 1) := by decide +kernel
theorem dX0_letGo_60 : decode cX0_letGo 60 = .ok (.getfield 18, 3) := by decide +kernel
theorem dX0_letGo_63 : decode cX0_letGo 63 = .ok (.iconst 1, 1) := by decide +kernel
theorem dX0_letGo_64 : decode cX0_letGo 64 = .ok (.iadd, 1) := by decide +kernel
theorem dX0_letGo_65 : decode cX0_letGo 65 = .ok (.putfield 18, 3) := by decide +kernel
theorem dX0_letGo_68 : decode cX0_letGo 68 = .ok (.aload_n 1, 1) := by decide +kernel
theorem dX0_letGo_69 : decode cX0_letGo 69 = .ok (.dup, 1) := by decide +kernel
theorem dX0_letGo_70 : decode cX0_letGo 70 = .ok (.getfield 93, 3) := by decide +kernel
theorem dX0_letGo_73 : decode cX0_letGo 73 = .ok (.lconst 1, 1) := by decide +kernel
theorem dX0_letGo_74 : decode cX0_letGo 74 = .ok (.ladd, 1) := by decide +kernel
theorem dX0_letGo_75 : decode cX0_letGo 75 = .ok (.putfield 93, 3) := by decide +kernel
theorem dX0_letGo_78 : decode cX0_letGo 78 = .ok (.aload_n 1, 1) := by decide +kernel
theorem dX0_letGo_79 : decode cX0_letGo 79 = .ok (.iload_n 2, 1) := by decide +kernel
theorem dX0_letGo_80 : decode cX0_letGo 80 = .ok (.invokevirtual 96, 3) := by decide +kernel
theorem dX0_letGo_83 : decode cX0_letGo 83 = .ok (.aload_n 0, 1) := by decide +kernel
theorem dX0_letGo_84 : decode cX0_letGo 84 = .ok (.aload_n 1, 1) := by decide +kernel
theorem dX0_letGo_85 : decode cX0_letGo 85 = .ok (.iload_n 2, 1) := by decide +kernel
theorem dX0_letGo_86 : decode cX0_letGo 86 = .ok (.invokevirtual 100, 3) := by decide +kernel
theorem dX0_letGo_89 : decode cX0_letGo 89 = .ok (.ifCond .eq 12, 3) := by decide +kernel
theorem dX0_letGo_92 : decode cX0_letGo 92 = .ok (.aload_n 0, 1) := by decide +kernel
theorem dX0_letGo_93 : decode cX0_letGo 93 = .ok (.aload_n 1, 1) := by decide +kernel
theorem dX0_letGo_94 : decode cX0_letGo 94 = .ok (.iload_n 2, 1) := by decide +kernel
theorem dX0_letGo_95 : decode cX0_letGo 95 = .ok (.invokevirtual 104, 3) := by decide +kernel
theorem dX0_letGo_98 : decode cX0_letGo 98 = .ok (.goto 8, 3) := by decide +kernel
theorem dX0_letGo_101 : decode cX0_letGo 101 = .ok (.aload_n 1, 1) := by decide +kernel
theorem dX0_letGo_102 : decode cX0_letGo 102 = .ok (.iload_n 2, 1) := by decide +kernel
theorem dX0_letGo_103 : decode cX0_letGo 103 = .ok (.invokevirtual 107, 3) := by decide +kernel
theorem dX0_letGo_106 : decode cX0_letGo 106 = .ok (.return_, 1) := by decide +kernel
theorem dX0_goesAgain_0 : decode cX0_goesAgain 0 = .ok (.aload_n 1, 1) := by decide +kernel
theorem dX0_goesAgain_1 : decode cX0_goesAgain 1 = .ok (.getfield 59, 3) := by decide +kernel
theorem dX0_goesAgain_4 : decode cX0_goesAgain 4 = .ok (.iconst 4, 1) := by decide +kernel
theorem dX0_goesAgain_5 : decode cX0_goesAgain 5 = .ok (.aaload, 1) := by decide +kernel
theorem dX0_goesAgain_6 : decode cX0_goesAgain 6 = .ok (.iload_n 2, 1) := by decide +kernel
theorem dX0_goesAgain_7 : decode cX0_goesAgain 7 = .ok (.laload, 1) := by decide +kernel
theorem dX0_goesAgain_8 : decode cX0_goesAgain 8 = .ok (.lstore_n 3, 1) := by decide +kernel
theorem dX0_goesAgain_9 : decode cX0_goesAgain 9 = .ok (.lload_n 3, 1) := by decide +kernel
theorem dX0_goesAgain_10 : decode cX0_goesAgain 10 = .ok (.ldc2_w 32, 3) := by decide +kernel
theorem dX0_goesAgain_13 : decode cX0_goesAgain 13 = .ok (.lcmp, 1) := by decide +kernel
theorem dX0_goesAgain_14 : decode cX0_goesAgain 14 = .ok (.ifCond .eq 33, 3) := by decide +kernel
theorem dX0_goesAgain_17 : decode cX0_goesAgain 17 = .ok (.aload_n 1, 1) := by decide +kernel
theorem dX0_goesAgain_18 : decode cX0_goesAgain 18 = .ok (.getfield 59, 3) := by decide +kernel
theorem dX0_goesAgain_21 : decode cX0_goesAgain 21 = .ok (.iconst 5, 1) := by decide +kernel
theorem dX0_goesAgain_22 : decode cX0_goesAgain 22 = .ok (.aaload, 1) := by decide +kernel
theorem dX0_goesAgain_23 : decode cX0_goesAgain 23 = .ok (.iload_n 2, 1) := by decide +kernel
theorem dX0_goesAgain_24 : decode cX0_goesAgain 24 = .ok (.laload, 1) := by decide +kernel
theorem dX0_goesAgain_25 : decode cX0_goesAgain 25 = .ok (.lconst 1, 1) := by decide +kernel
theorem dX0_goesAgain_26 : decode cX0_goesAgain 26 = .ok (.lcmp, 1) := by decide +kernel
theorem dX0_goesAgain_27 : decode cX0_goesAgain 27 = .ok (.ifCond .eq 20, 3) := by decide +kernel
theorem dX0_goesAgain_30 : decode cX0_goesAgain 30 = .ok (.aload_n 1, 1) := by decide +kernel
theorem dX0_goesAgain_31 : decode cX0_goesAgain 31 = .ok (.getfield 52, 3) := by decide +kernel
theorem dX0_goesAgain_34 : decode cX0_goesAgain 34 = .ok (.lload_n 3, 1) := by decide +kernel
theorem dX0_goesAgain_35 : decode cX0_goesAgain 35 = .ok (.ladd, 1) := by decide +kernel
theorem dX0_goesAgain_36 : decode cX0_goesAgain 36 = .ok (.ldc2_w 110, 3) := by decide +kernel
theorem dX0_goesAgain_39 : decode cX0_goesAgain 39 = .ok (.lcmp, 1) := by decide +kernel
theorem dX0_goesAgain_40 : decode cX0_goesAgain 40 = .ok (.ifCond .gt 7, 3) := by decide +kernel
theorem dX0_goesAgain_43 : decode cX0_goesAgain 43 = .ok (.iconst 1, 1) := by decide +kernel
theorem dX0_goesAgain_44 : decode cX0_goesAgain 44 = .ok (.goto 4, 3) := by decide +kernel
theorem dX0_goesAgain_47 : decode cX0_goesAgain 47 = .ok (.iconst 0, 1) := by decide +kernel
theorem dX0_goesAgain_48 : decode cX0_goesAgain 48 = .ok (.ireturn, 1) := by decide +kernel
set_option maxRecDepth 20000 in
theorem ggX0_setAgain_X4_setTick : GoodIn wsX0_setAgain wsX4_setTick := goodIn_r _ [7, 8, 9, 10, 11, 12, 13, 14, 15, 16, 17, 18, 19, 20, 21] (by decide +kernel) (by decide +kernel)
set_option maxRecDepth 20000 in
theorem gX0_setAgain_X4_setTick : GoodIn wsX0_setAgain (wsV RX0 112 RX4 yX4_setTick wsX4_setTick) := goodIn_app (goodIn_of _ (by decide +kernel)) ggX0_setAgain_X4_setTick
theorem dX0_setAgain_0 : decode cX0_setAgain 0 = .ok (.aload_n 1, 1) := by decide +kernel
theorem dX0_setAgain_1 : decode cX0_setAgain 1 = .ok (.getfield 59, 3) := by decide +kernel
theorem dX0_setAgain_4 : decode cX0_setAgain 4 = .ok (.iconst 5, 1) := by decide +kernel
theorem dX0_setAgain_5 : decode cX0_setAgain 5 = .ok (.aaload, 1) := by decide +kernel
theorem dX0_setAgain_6 : decode cX0_setAgain 6 = .ok (.iload_n 2, 1) := by decide +kernel
theorem dX0_setAgain_7 : decode cX0_setAgain 7 = .ok (.laload, 1) := by decide +kernel
theorem dX0_setAgain_8 : decode cX0_setAgain 8 = .ok (.lstore_n 3, 1) := by decide +kernel
theorem dX0_setAgain_9 : decode cX0_setAgain 9 = .ok (.lload_n 3, 1) := by decide +kernel
theorem dX0_setAgain_10 : decode cX0_setAgain 10 = .ok (.lconst 0, 1) := by decide +kernel
theorem dX0_setAgain_11 : decode cX0_setAgain 11 = .ok (.lcmp, 1) := by decide +kernel
theorem dX0_setAgain_12 : decode cX0_setAgain 12 = .ok (.ifCond .le 14, 3) := by decide +kernel
theorem dX0_setAgain_15 : decode cX0_setAgain 15 = .ok (.aload_n 1, 1) := by decide +kernel
theorem dX0_setAgain_16 : decode cX0_setAgain 16 = .ok (.getfield 59, 3) := by decide +kernel
theorem dX0_setAgain_19 : decode cX0_setAgain 19 = .ok (.iconst 5, 1) := by decide +kernel
theorem dX0_setAgain_20 : decode cX0_setAgain 20 = .ok (.aaload, 1) := by decide +kernel
theorem dX0_setAgain_21 : decode cX0_setAgain 21 = .ok (.iload_n 2, 1) := by decide +kernel
theorem dX0_setAgain_22 : decode cX0_setAgain 22 = .ok (.lload_n 3, 1) := by decide +kernel
theorem dX0_setAgain_23 : decode cX0_setAgain 23 = .ok (.lconst 1, 1) := by decide +kernel
theorem dX0_setAgain_24 : decode cX0_setAgain 24 = .ok (.lsub, 1) := by decide +kernel
theorem dX0_setAgain_25 : decode cX0_setAgain 25 = .ok (.lastore, 1) := by decide +kernel
theorem dX0_setAgain_26 : decode cX0_setAgain 26 = .ok (.aload_n 1, 1) := by decide +kernel
theorem dX0_setAgain_27 : decode cX0_setAgain 27 = .ok (.iload_n 2, 1) := by decide +kernel
theorem dX0_setAgain_28 : decode cX0_setAgain 28 = .ok (.aload_n 1, 1) := by decide +kernel
theorem dX0_setAgain_29 : decode cX0_setAgain 29 = .ok (.getfield 52, 3) := by decide +kernel
theorem dX0_setAgain_32 : decode cX0_setAgain 32 = .ok (.aload_n 1, 1) := by decide +kernel
theorem dX0_setAgain_33 : decode cX0_setAgain 33 = .ok (.getfield 59, 3) := by decide +kernel
theorem dX0_setAgain_36 : decode cX0_setAgain 36 = .ok (.iconst 4, 1) := by decide +kernel
theorem dX0_setAgain_37 : decode cX0_setAgain 37 = .ok (.aaload, 1) := by decide +kernel
theorem dX0_setAgain_38 : decode cX0_setAgain 38 = .ok (.iload_n 2, 1) := by decide +kernel
theorem dX0_setAgain_39 : decode cX0_setAgain 39 = .ok (.laload, 1) := by decide +kernel
theorem dX0_setAgain_40 : decode cX0_setAgain 40 = .ok (.ladd, 1) := by decide +kernel
theorem dX0_setAgain_41 : decode cX0_setAgain 41 = .ok (.invokevirtual 112, 3) := by decide +kernel
theorem dX0_setAgain_44 : decode cX0_setAgain 44 = .ok (.return_, 1) := by decide +kernel
