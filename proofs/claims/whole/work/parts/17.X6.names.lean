set_option maxRecDepth 20000 in
theorem ggX6_init_X1_init : GoodIn wsX6_init wsX1_init := goodIn_r _ [21, 22, 2, 3, 23, 24, 53, 54, 55] (by decide +kernel) (by decide +kernel)
set_option maxRecDepth 20000 in
theorem gX6_init_X1_init_n9 : GoodIn wsX6_init (wsX1_init) := ggX6_init_X1_init
set_option maxRecDepth 20000 in
theorem ggX6_init_X0_init : GoodIn wsX6_init wsX0_init := goodIn_r _ [26, 27, 2, 3, 28, 29, 30, 31, 32, 33, 34, 35, 36, 37, 38, 39, 73, 74, 75, 76, 60] (by decide +kernel) (by decide +kernel)
set_option maxRecDepth 20000 in
theorem gX6_init_X0_init_n18 : GoodIn wsX6_init (wsX0_init) := ggX6_init_X0_init
set_option maxRecDepth 20000 in
theorem ggX6_init_X3_init : GoodIn wsX6_init wsX3_init := goodIn_r _ [41, 42, 2, 3, 43, 29, 30, 44, 37, 45, 46, 32, 33, 34, 35, 36, 38, 39, 73, 74, 75, 76, 61, 62, 63, 64] (by decide +kernel) (by decide +kernel)
set_option maxRecDepth 20000 in
theorem gX6_init_X3_init_n25 : GoodIn wsX6_init (wsX3_init) := ggX6_init_X3_init
set_option maxRecDepth 20000 in
theorem ggX6_init_X4_init : GoodIn wsX6_init wsX4_init := goodIn_r _ [48, 49, 2, 3, 50, 37, 51, 52, 65, 66, 67, 68, 69, 70, 71, 72] (by decide +kernel) (by decide +kernel)
set_option maxRecDepth 20000 in
theorem gX6_init_X4_init_n32 : GoodIn wsX6_init (wsX4_init) := ggX6_init_X4_init
theorem dX6_init_0 : decode cX6_init 0 = .ok (.aload_n 0, 1) := by decide +kernel
theorem dX6_init_1 : decode cX6_init 1 = .ok (.invokespecial 1, 3) := by decide +kernel
theorem dX6_init_4 : decode cX6_init 4 = .ok (.aload_n 0, 1) := by decide +kernel
theorem dX6_init_5 : decode cX6_init 5 = .ok (.new 7, 3) := by decide +kernel
theorem dX6_init_8 : decode cX6_init 8 = .ok (.dup, 1) := by decide +kernel
theorem dX6_init_9 : decode cX6_init 9 = .ok (.invokespecial 9, 3) := by decide +kernel
theorem dX6_init_12 : decode cX6_init 12 = .ok (.putfield 10, 3) := by decide +kernel
theorem dX6_init_15 : decode cX6_init 15 = .ok (.aload_n 0, 1) := by decide +kernel
theorem dX6_init_16 : decode cX6_init 16 = .ok (.new 16, 3) := by decide +kernel
theorem dX6_init_19 : decode cX6_init 19 = .ok (.dup, 1) := by decide +kernel
theorem dX6_init_20 : decode cX6_init 20 = .ok (.invokespecial 18, 3) := by decide +kernel
theorem dX6_init_23 : decode cX6_init 23 = .ok (.putfield 19, 3) := by decide +kernel
theorem dX6_init_26 : decode cX6_init 26 = .ok (.aload_n 0, 1) := by decide +kernel
theorem dX6_init_27 : decode cX6_init 27 = .ok (.new 23, 3) := by decide +kernel
theorem dX6_init_30 : decode cX6_init 30 = .ok (.dup, 1) := by decide +kernel
theorem dX6_init_31 : decode cX6_init 31 = .ok (.invokespecial 25, 3) := by decide +kernel
theorem dX6_init_34 : decode cX6_init 34 = .ok (.putfield 26, 3) := by decide +kernel
theorem dX6_init_37 : decode cX6_init 37 = .ok (.aload_n 0, 1) := by decide +kernel
theorem dX6_init_38 : decode cX6_init 38 = .ok (.new 30, 3) := by decide +kernel
theorem dX6_init_41 : decode cX6_init 41 = .ok (.dup, 1) := by decide +kernel
theorem dX6_init_42 : decode cX6_init 42 = .ok (.invokespecial 32, 3) := by decide +kernel
theorem dX6_init_45 : decode cX6_init 45 = .ok (.putfield 33, 3) := by decide +kernel
theorem dX6_init_48 : decode cX6_init 48 = .ok (.return_, 1) := by decide +kernel
set_option maxRecDepth 20000 in
theorem ggX6_once_X6_isTickAhead : GoodIn wsX6_once wsX6_isTickAhead := goodIn_r _ [9, 2, 10, 11, 79, 80, 81, 82, 83, 84, 85, 86, 87, 88, 89, 90] (by decide +kernel) (by decide +kernel)
set_option maxRecDepth 20000 in
theorem gX6_once_X6_isTickAhead : GoodIn wsX6_once (wsV RX6 37 RX6 yX6_isTickAhead wsX6_isTickAhead) := goodIn_app (goodIn_of _ (by decide +kernel)) ggX6_once_X6_isTickAhead
set_option maxRecDepth 20000 in
theorem ggX6_once_X4_isFull : GoodIn wsX6_once wsX4_isFull := goodIn_r _ [16, 17, 18, 19, 15, 20, 21, 22, 23, 83, 84, 85, 86, 87, 88, 89, 90] (by decide +kernel) (by decide +kernel)
set_option maxRecDepth 20000 in
theorem gX6_once_X4_isFull : GoodIn wsX6_once (wsV RX6 43 RX4 yX4_isFull wsX4_isFull) := goodIn_app (goodIn_of _ (by decide +kernel)) ggX6_once_X4_isFull
set_option maxRecDepth 20000 in
theorem ggX6_once_X1_keep : GoodIn wsX6_once wsX1_keep := goodIn_r _ [28, 29, 30, 31, 32, 15, 33, 34, 35, 36, 37, 38, 39, 40, 41, 42, 43, 44, 22, 45, 46, 47, 48, 49, 50, 51, 52, 53, 21, 54, 55, 56, 57, 58, 91, 92, 93, 83, 84, 85, 86, 87, 88, 89, 90] (by decide +kernel) (by decide +kernel)
set_option maxRecDepth 20000 in
theorem gX6_once_X1_keep : GoodIn wsX6_once (wsV RX6 49 RX1 yX1_keep wsX1_keep) := goodIn_app (goodIn_of _ (by decide +kernel)) ggX6_once_X1_keep
set_option maxRecDepth 20000 in
theorem ggX6_once_X4_open : GoodIn wsX6_once wsX4_open := goodIn_r _ [62, 21, 22, 17, 18, 19, 15, 20, 23, 63, 64, 65, 66, 67, 68, 69, 70, 51, 83, 84, 85, 86, 87, 88, 89, 90] (by decide +kernel) (by decide +kernel)
set_option maxRecDepth 20000 in
theorem gX6_once_X4_open : GoodIn wsX6_once (wsV RX6 53 RX4 yX4_open wsX4_open) := goodIn_app (goodIn_of _ (by decide +kernel)) ggX6_once_X4_open
set_option maxRecDepth 20000 in
theorem ggX6_once_X4_setTick : GoodIn wsX6_once wsX4_setTick := goodIn_r _ [74, 22, 75, 76, 77, 36, 78, 83, 84, 85, 86, 87, 88, 89, 90] (by decide +kernel) (by decide +kernel)
set_option maxRecDepth 20000 in
theorem gX6_once_X4_setTick : GoodIn wsX6_once (wsV RX6 57 RX4 yX4_setTick wsX4_setTick) := goodIn_app (goodIn_of _ (by decide +kernel)) ggX6_once_X4_setTick
theorem dX6_once_0 : decode cX6_once 0 = .ok (.aload_n 0, 1) := by decide +kernel
theorem dX6_once_1 : decode cX6_once 1 = .ok (.lload_n 1, 1) := by decide +kernel
theorem dX6_once_2 : decode cX6_once 2 = .ok (.invokevirtual 37, 3) := by decide +kernel
theorem dX6_once_5 : decode cX6_once 5 = .ok (.ifCond .ne 7, 3) := by decide +kernel
theorem dX6_once_8 : decode cX6_once 8 = .ok (.ldc2_w 41, 3) := by decide +kernel
theorem dX6_once_11 : decode cX6_once 11 = .ok (.lreturn, 1) := by decide +kernel
theorem dX6_once_12 : decode cX6_once 12 = .ok (.aload_n 0, 1) := by decide +kernel
theorem dX6_once_13 : decode cX6_once 13 = .ok (.getfield 33, 3) := by decide +kernel
theorem dX6_once_16 : decode cX6_once 16 = .ok (.invokevirtual 43, 3) := by decide +kernel
theorem dX6_once_19 : decode cX6_once 19 = .ok (.ifCond .eq 7, 3) := by decide +kernel
theorem dX6_once_22 : decode cX6_once 22 = .ok (.ldc2_w 47, 3) := by decide +kernel
theorem dX6_once_25 : decode cX6_once 25 = .ok (.lreturn, 1) := by decide +kernel
theorem dX6_once_26 : decode cX6_once 26 = .ok (.aload_n 0, 1) := by decide +kernel
theorem dX6_once_27 : decode cX6_once 27 = .ok (.getfield 10, 3) := by decide +kernel
theorem dX6_once_30 : decode cX6_once 30 = .ok (.aload_n 0, 1) := by decide +kernel
theorem dX6_once_31 : decode cX6_once 31 = .ok (.getfield 33, 3) := by decide +kernel
theorem dX6_once_34 : decode cX6_once 34 = .ok (.invokevirtual 49, 3) := by decide +kernel
theorem dX6_once_37 : decode cX6_once 37 = .ok (.aload_n 0, 1) := by decide +kernel
theorem dX6_once_38 : decode cX6_once 38 = .ok (.getfield 33, 3) := by decide +kernel
theorem dX6_once_41 : decode cX6_once 41 = .ok (.iconst 0, 1) := by decide +kernel
theorem dX6_once_42 : decode cX6_once 42 = .ok (.iload_n 3, 1) := by decide +kernel
theorem dX6_once_43 : decode cX6_once 43 = .ok (.invokevirtual 53, 3) := by decide +kernel
theorem dX6_once_46 : decode cX6_once 46 = .ok (.istore 4, 2) := by decide +kernel
theorem dX6_once_48 : decode cX6_once 48 = .ok (.aload_n 0, 1) := by decide +kernel
theorem dX6_once_49 : decode cX6_once 49 = .ok (.getfield 33, 3) := by decide +kernel
theorem dX6_once_52 : decode cX6_once 52 = .ok (.iload 4, 2) := by decide +kernel
theorem dX6_once_54 : decode cX6_once 54 = .ok (.lload_n 1, 1) := by decide +kernel
theorem dX6_once_55 : decode cX6_once 55 = .ok (.invokevirtual 57, 3) := by decide +kernel
theorem dX6_once_58 : decode cX6_once 58 = .ok (.iload 4, 2) := by decide +kernel
theorem dX6_once_60 : decode cX6_once 60 = .ok (.i2l, 1) := by decide +kernel
theorem dX6_once_61 : decode cX6_once 61 = .ok (.lreturn, 1) := by decide +kernel
set_option maxRecDepth 20000 in
theorem ggX6_often_X6_openRepeated : GoodIn wsX6_often wsX6_openRepeated := goodIn_r _ [5, 6, 7, 8, 9, 10, 11, 12, 13, 14, 4, 15, 16, 17, 18, 19, 20, 21, 22, 23, 24, 25, 26, 27, 28, 29, 30, 31, 32, 33, 34, 35, 36, 37, 38, 39, 40, 41, 42, 43, 44, 45, 46, 47, 48, 49, 50, 51, 52, 53, 54, 55, 56, 57, 58, 59, 60, 61, 62, 63, 64, 65, 66, 67, 68, 69, 70, 71, 72, 73, 74, 75, 76, 77, 78, 79, 80, 81, 82, 83, 84, 85, 86, 87, 88, 89, 90, 91, 92, 93, 94, 95, 96, 97, 98, 99, 100, 101, 102] (by decide +kernel) (by decide +kernel)
set_option maxRecDepth 20000 in
theorem gX6_often_X6_openRepeated : GoodIn wsX6_often (wsV RX6 61 RX6 yX6_openRepeated wsX6_openRepeated) := goodIn_app (goodIn_of _ (by decide +kernel)) ggX6_often_X6_openRepeated
theorem dX6_often_0 : decode cX6_often 0 = .ok (.aload_n 0, 1) := by decide +kernel
theorem dX6_often_1 : decode cX6_often 1 = .ok (.iconst 1, 1) := by decide +kernel
theorem dX6_often_2 : decode cX6_often 2 = .ok (.lload_n 1, 1) := by decide +kernel
theorem dX6_often_3 : decode cX6_often 3 = .ok (.lload_n 3, 1) := by decide +kernel
theorem dX6_often_4 : decode cX6_often 4 = .ok (.iload 5, 2) := by decide +kernel
theorem dX6_often_6 : decode cX6_often 6 = .ok (.iload 6, 2) := by decide +kernel
theorem dX6_often_8 : decode cX6_often 8 = .ok (.invokevirtual 61, 3) := by decide +kernel
theorem dX6_often_11 : decode cX6_often 11 = .ok (.lreturn, 1) := by decide +kernel
set_option maxRecDepth 20000 in
theorem ggX6_loose_X6_isTickAhead : GoodIn wsX6_loose wsX6_isTickAhead := goodIn_r _ [10, 2, 11, 12, 80, 81, 82, 83, 84, 85, 86, 87, 88, 89, 90, 91] (by decide +kernel) (by decide +kernel)
set_option maxRecDepth 20000 in
theorem gX6_loose_X6_isTickAhead : GoodIn wsX6_loose (wsV RX6 37 RX6 yX6_isTickAhead wsX6_isTickAhead) := goodIn_app (goodIn_of _ (by decide +kernel)) ggX6_loose_X6_isTickAhead
set_option maxRecDepth 20000 in
theorem ggX6_loose_X4_isFull : GoodIn wsX6_loose wsX4_isFull := goodIn_r _ [17, 18, 19, 20, 16, 21, 22, 23, 24, 84, 85, 86, 87, 88, 89, 90, 91] (by decide +kernel) (by decide +kernel)
set_option maxRecDepth 20000 in
theorem gX6_loose_X4_isFull : GoodIn wsX6_loose (wsV RX6 43 RX4 yX4_isFull wsX4_isFull) := goodIn_app (goodIn_of _ (by decide +kernel)) ggX6_loose_X4_isFull
set_option maxRecDepth 20000 in
theorem ggX6_loose_X1_keep : GoodIn wsX6_loose wsX1_keep := goodIn_r _ [29, 30, 31, 32, 33, 16, 34, 35, 36, 37, 38, 39, 40, 41, 42, 43, 44, 45, 23, 46, 47, 48, 49, 50, 51, 52, 53, 54, 22, 55, 56, 57, 58, 59, 92, 93, 94, 84, 85, 86, 87, 88, 89, 90, 91] (by decide +kernel) (by decide +kernel)
set_option maxRecDepth 20000 in
theorem gX6_loose_X1_keep : GoodIn wsX6_loose (wsV RX6 49 RX1 yX1_keep wsX1_keep) := goodIn_app (goodIn_of _ (by decide +kernel)) ggX6_loose_X1_keep
set_option maxRecDepth 20000 in
theorem ggX6_loose_X4_open : GoodIn wsX6_loose wsX4_open := goodIn_r _ [63, 22, 23, 18, 19, 20, 16, 21, 24, 64, 65, 66, 67, 68, 69, 70, 71, 52, 84, 85, 86, 87, 88, 89, 90, 91] (by decide +kernel) (by decide +kernel)
set_option maxRecDepth 20000 in
theorem gX6_loose_X4_open : GoodIn wsX6_loose (wsV RX6 53 RX4 yX4_open wsX4_open) := goodIn_app (goodIn_of _ (by decide +kernel)) ggX6_loose_X4_open
set_option maxRecDepth 20000 in
theorem ggX6_loose_X4_setTick : GoodIn wsX6_loose wsX4_setTick := goodIn_r _ [75, 23, 76, 77, 78, 37, 79, 84, 85, 86, 87, 88, 89, 90, 91] (by decide +kernel) (by decide +kernel)
set_option maxRecDepth 20000 in
theorem gX6_loose_X4_setTick : GoodIn wsX6_loose (wsV RX6 57 RX4 yX4_setTick wsX4_setTick) := goodIn_app (goodIn_of _ (by decide +kernel)) ggX6_loose_X4_setTick
theorem dX6_loose_0 : decode cX6_loose 0 = .ok (.aload_n 0, 1) := by decide +kernel
theorem dX6_loose_1 : decode cX6_loose 1 = .ok (.lload_n 3, 1) := by decide +kernel
theorem dX6_loose_2 : decode cX6_loose 2 = .ok (.invokevirtual 37, 3) := by decide +kernel
theorem dX6_loose_5 : decode cX6_loose 5 = .ok (.ifCond .eq 15, 3) := by decide +kernel
theorem dX6_loose_8 : decode cX6_loose 8 = .ok (.lload_n 1, 1) := by decide +kernel
theorem dX6_loose_9 : decode cX6_loose 9 = .ok (.lconst 0, 1) := by decide +kernel
theorem dX6_loose_10 : decode cX6_loose 10 = .ok (.lcmp, 1) := by decide +kernel
theorem dX6_loose_11 : decode cX6_loose 11 = .ok (.ifCond .lt 9, 3) := by decide +kernel
theorem dX6_loose_14 : decode cX6_loose 14 = .ok (.lload_n 1, 1) := by decide +kernel
theorem dX6_loose_15 : decode cX6_loose 15 = .ok (.lload_n 3, 1) := by decide +kernel
theorem dX6_loose_16 : decode cX6_loose 16 = .ok (.lcmp, 1) := by decide +kernel
theorem dX6_loose_17 : decode cX6_loose 17 = .ok (.ifCond .le 7, 3) := by decide +kernel
theorem dX6_loose_20 : decode cX6_loose 20 = .ok (.ldc2_w 41, 3) := by decide +kernel
theorem dX6_loose_23 : decode cX6_loose 23 = .ok (.lreturn, 1) := by decide +kernel
theorem dX6_loose_24 : decode cX6_loose 24 = .ok (.aload_n 0, 1) := by decide +kernel
theorem dX6_loose_25 : decode cX6_loose 25 = .ok (.getfield 33, 3) := by decide +kernel
theorem dX6_loose_28 : decode cX6_loose 28 = .ok (.invokevirtual 43, 3) := by decide +kernel
theorem dX6_loose_31 : decode cX6_loose 31 = .ok (.ifCond .eq 7, 3) := by decide +kernel
theorem dX6_loose_34 : decode cX6_loose 34 = .ok (.ldc2_w 47, 3) := by decide +kernel
theorem dX6_loose_37 : decode cX6_loose 37 = .ok (.lreturn, 1) := by decide +kernel
theorem dX6_loose_38 : decode cX6_loose 38 = .ok (.aload_n 0, 1) := by decide +kernel
theorem dX6_loose_39 : decode cX6_loose 39 = .ok (.getfield 10, 3) := by decide +kernel
theorem dX6_loose_42 : decode cX6_loose 42 = .ok (.aload_n 0, 1) := by decide +kernel
theorem dX6_loose_43 : decode cX6_loose 43 = .ok (.getfield 33, 3) := by decide +kernel
theorem dX6_loose_46 : decode cX6_loose 46 = .ok (.invokevirtual 49, 3) := by decide +kernel
theorem dX6_loose_49 : decode cX6_loose 49 = .ok (.aload_n 0, 1) := by decide +kernel
theorem dX6_loose_50 : decode cX6_loose 50 = .ok (.getfield 33, 3) := by decide +kernel
theorem dX6_loose_53 : decode cX6_loose 53 = .ok (.iconst 2, 1) := by decide +kernel
theorem dX6_loose_54 : decode cX6_loose 54 = .ok (.iload 5, 2) := by decide +kernel
theorem dX6_loose_56 : decode cX6_loose 56 = .ok (.invokevirtual 53, 3) := by decide +kernel
theorem dX6_loose_59 : decode cX6_loose 59 = .ok (.istore 6, 2) := by decide +kernel
theorem dX6_loose_61 : decode cX6_loose 61 = .ok (.aload_n 0, 1) := by decide +kernel
theorem dX6_loose_62 : decode cX6_loose 62 = .ok (.getfield 33, 3) := by decide +kernel
theorem dX6_loose_65 : decode cX6_loose 65 = .ok (.getfield 65, 3) := by decide +kernel
theorem dX6_loose_68 : decode cX6_loose 68 = .ok (.iconst 3, 1) := by decide +kernel
theorem dX6_loose_69 : decode cX6_loose 69 = .ok (.aaload, 1) := by decide +kernel
theorem dX6_loose_70 : decode cX6_loose 70 = .ok (.iload 6, 2) := by decide +kernel
theorem dX6_loose_72 : decode cX6_loose 72 = .ok (.lload_n 1, 1) := by decide +kernel
theorem dX6_loose_73 : decode cX6_loose 73 = .ok (.lastore, 1) := by decide +kernel
theorem dX6_loose_74 : decode cX6_loose 74 = .ok (.aload_n 0, 1) := by decide +kernel
theorem dX6_loose_75 : decode cX6_loose 75 = .ok (.getfield 33, 3) := by decide +kernel
theorem dX6_loose_78 : decode cX6_loose 78 = .ok (.iload 6, 2) := by decide +kernel
theorem dX6_loose_80 : decode cX6_loose 80 = .ok (.lload_n 3, 1) := by decide +kernel
theorem dX6_loose_81 : decode cX6_loose 81 = .ok (.invokevirtual 57, 3) := by decide +kernel
theorem dX6_loose_84 : decode cX6_loose 84 = .ok (.iload 6, 2) := by decide +kernel
theorem dX6_loose_86 : decode cX6_loose 86 = .ok (.i2l, 1) := by decide +kernel
theorem dX6_loose_87 : decode cX6_loose 87 = .ok (.lreturn, 1) := by decide +kernel
set_option maxRecDepth 20000 in
theorem ggX6_chained_X4_isDue : GoodIn wsX6_chained wsX4_isDue := goodIn_r _ [11, 12, 13, 14, 78, 79, 80, 81, 82, 83, 84, 85] (by decide +kernel) (by decide +kernel)
set_option maxRecDepth 20000 in
theorem gX6_chained_X4_isDue : GoodIn wsX6_chained (wsV RX6 69 RX4 yX4_isDue wsX4_isDue) := goodIn_app (goodIn_of _ (by decide +kernel)) ggX6_chained_X4_isDue
set_option maxRecDepth 20000 in
theorem ggX6_chained_X6_isSpan : GoodIn wsX6_chained wsX6_isSpan := goodIn_r _ [18, 2] (by decide +kernel) (by decide +kernel)
set_option maxRecDepth 20000 in
theorem gX6_chained_X6_isSpan : GoodIn wsX6_chained (va_wsS RX6 73 yX6_isSpan wsX6_isSpan) := goodIn_app (goodIn_of _ (by decide +kernel)) ggX6_chained_X6_isSpan
set_option maxRecDepth 20000 in
theorem ggX6_chained_X4_isFull : GoodIn wsX6_chained wsX4_isFull := goodIn_r _ [22, 23, 24, 25, 10, 26, 12, 13, 14, 78, 79, 80, 81, 82, 83, 84, 85] (by decide +kernel) (by decide +kernel)
set_option maxRecDepth 20000 in
theorem gX6_chained_X4_isFull : GoodIn wsX6_chained (wsV RX6 43 RX4 yX4_isFull wsX4_isFull) := goodIn_app (goodIn_of _ (by decide +kernel)) ggX6_chained_X4_isFull
set_option maxRecDepth 20000 in
theorem ggX6_chained_X1_keep : GoodIn wsX6_chained wsX1_keep := goodIn_r _ [31, 32, 33, 34, 35, 10, 36, 37, 38, 39, 40, 41, 42, 43, 44, 45, 46, 47, 13, 48, 49, 50, 51, 52, 53, 54, 55, 56, 12, 57, 58, 59, 60, 61, 86, 87, 88, 78, 79, 80, 81, 82, 83, 84, 85] (by decide +kernel) (by decide +kernel)
set_option maxRecDepth 20000 in
theorem gX6_chained_X1_keep : GoodIn wsX6_chained (wsV RX6 49 RX1 yX1_keep wsX1_keep) := goodIn_app (goodIn_of _ (by decide +kernel)) ggX6_chained_X1_keep
set_option maxRecDepth 20000 in
theorem ggX6_chained_X4_open : GoodIn wsX6_chained wsX4_open := goodIn_r _ [65, 12, 13, 23, 24, 25, 10, 26, 14, 66, 67, 68, 69, 70, 71, 72, 73, 54, 78, 79, 80, 81, 82, 83, 84, 85] (by decide +kernel) (by decide +kernel)
set_option maxRecDepth 20000 in
theorem gX6_chained_X4_open : GoodIn wsX6_chained (wsV RX6 53 RX4 yX4_open wsX4_open) := goodIn_app (goodIn_of _ (by decide +kernel)) ggX6_chained_X4_open
theorem dX6_chained_0 : decode cX6_chained 0 = .ok (.aload_n 0, 1) := by decide +kernel
theorem dX6_chained_1 : decode cX6_chained 1 = .ok (.getfield 33, 3) := by decide +kernel
theorem dX6_chained_4 : decode cX6_chained 4 = .ok (.iload_n 1, 1) := by decide +kernel
theorem dX6_chained_5 : decode cX6_chained 5 = .ok (.invokevirtual 69, 3) := by decide +kernel
theorem dX6_chained_8 : decode cX6_chained 8 = .ok (.ifCond .eq 26, 3) := by decide +kernel
theorem dX6_chained_11 : decode cX6_chained 11 = .ok (.lload_n 2, 1) := by decide +kernel
theorem dX6_chained_12 : decode cX6_chained 12 = .ok (.invokestatic 73, 3) := by decide +kernel
theorem dX6_chained_15 : decode cX6_chained 15 = .ok (.ifCond .eq 19, 3) := by decide +kernel
theorem dX6_chained_18 : decode cX6_chained 18 = .ok (.lload 4, 2) := by decide +kernel
theorem dX6_chained_20 : decode cX6_chained 20 = .ok (.lconst 0, 1) := by decide +kernel
theorem dX6_chained_21 : decode cX6_chained 21 = .ok (.lcmp, 1) := by decide +kernel
theorem dX6_chained_22 : decode cX6_chained 22 = .ok (.ifCond .lt 12, 3) := by decide +kernel
theorem dX6_chained_25 : decode cX6_chained 25 = .ok (.lload 4, 2) := by decide +kernel
theorem dX6_chained_27 : decode cX6_chained 27 = .ok (.ldc2_w 76, 3) := by decide +kernel
theorem dX6_chained_30 : decode cX6_chained 30 = .ok (.lcmp, 1) := by decide +kernel
theorem dX6_chained_31 : decode cX6_chained 31 = .ok (.ifCond .le 7, 3) := by decide +kernel
theorem dX6_chained_34 : decode cX6_chained 34 = .ok (.ldc2_w 41, 3) := by decide +kernel
theorem dX6_chained_37 : decode cX6_chained 37 = .ok (.lreturn, 1) := by decide +kernel
theorem dX6_chained_38 : decode cX6_chained 38 = .ok (.aload_n 0, 1) := by decide +kernel
theorem dX6_chained_39 : decode cX6_chained 39 = .ok (.getfield 33, 3) := by decide +kernel
theorem dX6_chained_42 : decode cX6_chained 42 = .ok (.invokevirtual 43, 3) := by decide +kernel
theorem dX6_chained_45 : decode cX6_chained 45 = .ok (.ifCond .eq 7, 3) := by decide +kernel
theorem dX6_chained_48 : decode cX6_chained 48 = .ok (.ldc2_w 47, 3) := by decide +kernel
theorem dX6_chained_51 : decode cX6_chained 51 = .ok (.lreturn, 1) := by decide +kernel
theorem dX6_chained_52 : decode cX6_chained 52 = .ok (.aload_n 0, 1) := by decide +kernel
theorem dX6_chained_53 : decode cX6_chained 53 = .ok (.getfield 10, 3) := by decide +kernel
theorem dX6_chained_56 : decode cX6_chained 56 = .ok (.aload_n 0, 1) := by decide +kernel
theorem dX6_chained_57 : decode cX6_chained 57 = .ok (.getfield 33, 3) := by decide +kernel
theorem dX6_chained_60 : decode cX6_chained 60 = .ok (.invokevirtual 49, 3) := by decide +kernel
theorem dX6_chained_63 : decode cX6_chained 63 = .ok (.aload_n 0, 1) := by decide +kernel
theorem dX6_chained_64 : decode cX6_chained 64 = .ok (.getfield 33, 3) := by decide +kernel
theorem dX6_chained_67 : decode cX6_chained 67 = .ok (.iconst 3, 1) := by decide +kernel
theorem dX6_chained_68 : decode cX6_chained 68 = .ok (.iload 6, 2) := by decide +kernel
theorem dX6_chained_70 : decode cX6_chained 70 = .ok (.invokevirtual 53, 3) := by decide +kernel
theorem dX6_chained_73 : decode cX6_chained 73 = .ok (.istore 7, 2) := by decide +kernel
theorem dX6_chained_75 : decode cX6_chained 75 = .ok (.aload_n 0, 1) := by decide +kernel
theorem dX6_chained_76 : decode cX6_chained 76 = .ok (.getfield 33, 3) := by decide +kernel
theorem dX6_chained_79 : decode cX6_chained 79 = .ok (.getfield 65, 3) := by decide +kernel
theorem dX6_chained_82 : decode cX6_chained 82 = .ok (.bipush 6, 2) := by decide +kernel
theorem dX6_chained_84 : decode cX6_chained 84 = .ok (.aaload, 1) := by decide +kernel
theorem dX6_chained_85 : decode cX6_chained 85 = .ok (.iload 7, 2) := by decide +kernel
theorem dX6_chained_87 : decode cX6_chained 87 = .ok (.iload_n 1, 1) := by decide +kernel
theorem dX6_chained_88 : decode cX6_chained 88 = .ok (.i2l, 1) := by decide +kernel
theorem dX6_chained_89 : decode cX6_chained 89 = .ok (.lastore, 1) := by decide +kernel
theorem dX6_chained_90 : decode cX6_chained 90 = .ok (.aload_n 0, 1) := by decide +kernel
theorem dX6_chained_91 : decode cX6_chained 91 = .ok (.getfield 33, 3) := by decide +kernel
theorem dX6_chained_94 : decode cX6_chained 94 = .ok (.getfield 65, 3) := by decide +kernel
theorem dX6_chained_97 : decode cX6_chained 97 = .ok (.bipush 9, 2) := by decide +kernel
theorem dX6_chained_99 : decode cX6_chained 99 = .ok (.aaload, 1) := by decide +kernel
theorem dX6_chained_100 : decode cX6_chained 100 = .ok (.iload 7, 2) := by decide +kernel
theorem dX6_chained_102 : decode cX6_chained 102 = .ok (.lload_n 2, 1) := by decide +kernel
theorem dX6_chained_103 : decode cX6_chained 103 = .ok (.lastore, 1) := by decide +kernel
theorem dX6_chained_104 : decode cX6_chained 104 = .ok (.aload_n 0, 1) := by decide +kernel
theorem dX6_chained_105 : decode cX6_chained 105 = .ok (.getfield 33, 3) := by decide +kernel
theorem dX6_chained_108 : decode cX6_chained 108 = .ok (.getfield 65, 3) := by decide +kernel
theorem dX6_chained_111 : decode cX6_chained 111 = .ok (.bipush 10, 2) := by decide +kernel
theorem dX6_chained_113 : decode cX6_chained 113 = .ok (.aaload, 1) := by decide +kernel
theorem dX6_chained_114 : decode cX6_chained 114 = .ok (.iload 7, 2) := by decide +kernel
theorem dX6_chained_116 : decode cX6_chained 116 = .ok (.lload 4, 2) := by decide +kernel
theorem dX6_chained_118 : decode cX6_chained 118 = .ok (.lastore, 1) := by decide +kernel
theorem dX6_chained_119 : decode cX6_chained 119 = .ok (.iload 7, 2) := by decide +kernel
theorem dX6_chained_121 : decode cX6_chained 121 = .ok (.i2l, 1) := by decide +kernel
theorem dX6_chained_122 : decode cX6_chained 122 = .ok (.lreturn, 1) := by decide +kernel
set_option maxRecDepth 20000 in
theorem ggX6_resting_X6_openRepeated : GoodIn wsX6_resting wsX6_openRepeated := goodIn_r _ [5, 6, 7, 8, 9, 10, 11, 12, 13, 14, 4, 15, 16, 17, 18, 19, 20, 21, 22, 23, 24, 25, 26, 27, 28, 29, 30, 31, 32, 33, 34, 35, 36, 37, 38, 39, 40, 41, 42, 43, 44, 45, 46, 47, 48, 49, 50, 51, 52, 53, 54, 55, 56, 57, 58, 59, 60, 61, 62, 63, 64, 65, 66, 67, 68, 69, 70, 71, 72, 73, 74, 75, 76, 77, 78, 79, 80, 81, 82, 83, 84, 85, 86, 87, 88, 89, 90, 91, 92, 93, 94, 95, 96, 97, 98, 99, 100, 101, 102] (by decide +kernel) (by decide +kernel)
set_option maxRecDepth 20000 in
theorem gX6_resting_X6_openRepeated : GoodIn wsX6_resting (wsV RX6 61 RX6 yX6_openRepeated wsX6_openRepeated) := goodIn_app (goodIn_of _ (by decide +kernel)) ggX6_resting_X6_openRepeated
theorem dX6_resting_0 : decode cX6_resting 0 = .ok (.aload_n 0, 1) := by decide +kernel
theorem dX6_resting_1 : decode cX6_resting 1 = .ok (.iconst 4, 1) := by decide +kernel
theorem dX6_resting_2 : decode cX6_resting 2 = .ok (.lload_n 1, 1) := by decide +kernel
theorem dX6_resting_3 : decode cX6_resting 3 = .ok (.lload_n 3, 1) := by decide +kernel
theorem dX6_resting_4 : decode cX6_resting 4 = .ok (.iload 5, 2) := by decide +kernel
theorem dX6_resting_6 : decode cX6_resting 6 = .ok (.iload 6, 2) := by decide +kernel
theorem dX6_resting_8 : decode cX6_resting 8 = .ok (.invokevirtual 61, 3) := by decide +kernel
theorem dX6_resting_11 : decode cX6_resting 11 = .ok (.lreturn, 1) := by decide +kernel
set_option maxRecDepth 20000 in
theorem ggX6_drop_X4_isDue : GoodIn wsX6_drop wsX4_isDue := goodIn_r _ [9, 10, 11, 12, 75, 76, 77, 78, 79, 80, 81, 82] (by decide +kernel) (by decide +kernel)
set_option maxRecDepth 20000 in
theorem gX6_drop_X4_isDue : GoodIn wsX6_drop (wsV RX6 69 RX4 yX4_isDue wsX4_isDue) := goodIn_app (goodIn_of _ (by decide +kernel)) ggX6_drop_X4_isDue
set_option maxRecDepth 20000 in
theorem ggX6_drop_X1_keep : GoodIn wsX6_drop wsX1_keep := goodIn_r _ [17, 18, 19, 20, 21, 8, 22, 23, 24, 25, 26, 27, 28, 29, 30, 31, 32, 33, 11, 34, 35, 36, 37, 38, 39, 40, 41, 42, 10, 43, 44, 45, 46, 47, 83, 84, 85, 75, 76, 77, 78, 79, 80, 81, 82] (by decide +kernel) (by decide +kernel)
set_option maxRecDepth 20000 in
theorem gX6_drop_X1_keep : GoodIn wsX6_drop (wsV RX6 49 RX1 yX1_keep wsX1_keep) := goodIn_app (goodIn_of _ (by decide +kernel)) ggX6_drop_X1_keep
set_option maxRecDepth 20000 in
theorem ggX6_drop_X4_tellDropped : GoodIn wsX6_drop wsX4_tellDropped := goodIn_r _ [51, 10, 11, 12, 39, 52, 53, 25, 54, 55, 56, 57, 8, 58, 59, 60, 61, 62, 75, 76, 77, 78, 79, 80, 81, 82] (by decide +kernel) (by decide +kernel)
set_option maxRecDepth 20000 in
theorem gX6_drop_X4_tellDropped : GoodIn wsX6_drop (wsV RX6 78 RX4 yX4_tellDropped wsX4_tellDropped) := goodIn_app (goodIn_of _ (by decide +kernel)) ggX6_drop_X4_tellDropped
set_option maxRecDepth 20000 in
theorem ggX6_drop_X4_close : GoodIn wsX6_drop wsX4_close := goodIn_r _ [66, 10, 11, 12, 67, 68, 69, 8, 70, 75, 76, 77, 78, 79, 80, 81, 82] (by decide +kernel) (by decide +kernel)
set_option maxRecDepth 20000 in
theorem gX6_drop_X4_close : GoodIn wsX6_drop (wsV RX6 82 RX4 yX4_close wsX4_close) := goodIn_app (goodIn_of _ (by decide +kernel)) ggX6_drop_X4_close
theorem dX6_drop_0 : decode cX6_drop 0 = .ok (.aload_n 0, 1) := by decide +kernel
theorem dX6_drop_1 : decode cX6_drop 1 = .ok (.getfield 33, 3) := by decide +kernel
theorem dX6_drop_4 : decode cX6_drop 4 = .ok (.iload_n 1, 1) := by decide +kernel
theorem dX6_drop_5 : decode cX6_drop 5 = .ok (.invokevirtual 69, 3) := by decide +kernel
theorem dX6_drop_8 : decode cX6_drop 8 = .ok (.ifCond .ne 7, 3) := by decide +kernel
theorem dX6_drop_11 : decode cX6_drop 11 = .ok (.ldc2_w 41, 3) := by decide +kernel
theorem dX6_drop_14 : decode cX6_drop 14 = .ok (.lreturn, 1) := by decide +kernel
theorem dX6_drop_15 : decode cX6_drop 15 = .ok (.aload_n 0, 1) := by decide +kernel
theorem dX6_drop_16 : decode cX6_drop 16 = .ok (.getfield 10, 3) := by decide +kernel
theorem dX6_drop_19 : decode cX6_drop 19 = .ok (.aload_n 0, 1) := by decide +kernel
theorem dX6_drop_20 : decode cX6_drop 20 = .ok (.getfield 33, 3) := by decide +kernel
theorem dX6_drop_23 : decode cX6_drop 23 = .ok (.invokevirtual 49, 3) := by decide +kernel
theorem dX6_drop_26 : decode cX6_drop 26 = .ok (.aload_n 0, 1) := by decide +kernel
theorem dX6_drop_27 : decode cX6_drop 27 = .ok (.getfield 33, 3) := by decide +kernel
theorem dX6_drop_30 : decode cX6_drop 30 = .ok (.getfield 65, 3) := by decide +kernel
theorem dX6_drop_33 : decode cX6_drop 33 = .ok (.iconst 1, 1) := by decide +kernel
theorem dX6_drop_34 : decode cX6_drop 34 = .ok (.aaload, 1) := by decide +kernel
theorem dX6_drop_35 : decode cX6_drop 35 = .ok (.iload_n 1, 1) := by decide +kernel
theorem dX6_drop_36 : decode cX6_drop 36 = .ok (.laload, 1) := by decide +kernel
theorem dX6_drop_37 : decode cX6_drop 37 = .ok (.lstore_n 2, 1) := by decide +kernel
theorem dX6_drop_38 : decode cX6_drop 38 = .ok (.aload_n 0, 1) := by decide +kernel
theorem dX6_drop_39 : decode cX6_drop 39 = .ok (.getfield 33, 3) := by decide +kernel
theorem dX6_drop_42 : decode cX6_drop 42 = .ok (.iload_n 1, 1) := by decide +kernel
theorem dX6_drop_43 : decode cX6_drop 43 = .ok (.invokevirtual 78, 3) := by decide +kernel
theorem dX6_drop_46 : decode cX6_drop 46 = .ok (.aload_n 0, 1) := by decide +kernel
theorem dX6_drop_47 : decode cX6_drop 47 = .ok (.getfield 33, 3) := by decide +kernel
theorem dX6_drop_50 : decode cX6_drop 50 = .ok (.iload_n 1, 1) := by decide +kernel
theorem dX6_drop_51 : decode cX6_drop 51 = .ok (.invokevirtual 82, 3) := by decide +kernel
theorem dX6_drop_54 : decode cX6_drop 54 = .ok (.lload_n 2, 1) := by decide +kernel
theorem dX6_drop_55 : decode cX6_drop 55 = .ok (.lreturn, 1) := by decide +kernel
set_option maxRecDepth 20000 in
theorem ggX6_shift_X4_isDue : GoodIn wsX6_shift wsX4_isDue := goodIn_r _ [17, 18, 19, 20, 77, 78, 79, 80, 81, 82, 83, 84] (by decide +kernel) (by decide +kernel)
set_option maxRecDepth 20000 in
theorem gX6_shift_X4_isDue : GoodIn wsX6_shift (wsV RX6 69 RX4 yX4_isDue wsX4_isDue) := goodIn_app (goodIn_of _ (by decide +kernel)) ggX6_shift_X4_isDue
set_option maxRecDepth 20000 in
theorem ggX6_shift_X6_isTickAhead : GoodIn wsX6_shift wsX6_isTickAhead := goodIn_r _ [25, 1, 26, 3, 73, 74, 75, 76, 77, 78, 79, 80, 81, 82, 83, 84] (by decide +kernel) (by decide +kernel)
set_option maxRecDepth 20000 in
theorem gX6_shift_X6_isTickAhead : GoodIn wsX6_shift (wsV RX6 37 RX6 yX6_isTickAhead wsX6_isTickAhead) := goodIn_app (goodIn_of _ (by decide +kernel)) ggX6_shift_X6_isTickAhead
set_option maxRecDepth 20000 in
theorem ggX6_shift_X1_keep : GoodIn wsX6_shift wsX1_keep := goodIn_r _ [31, 32, 33, 34, 35, 16, 36, 37, 38, 11, 39, 40, 41, 42, 43, 44, 45, 46, 19, 47, 48, 49, 50, 51, 52, 53, 54, 55, 18, 56, 57, 58, 59, 60, 85, 86, 87, 77, 78, 79, 80, 81, 82, 83, 84] (by decide +kernel) (by decide +kernel)
set_option maxRecDepth 20000 in
theorem gX6_shift_X1_keep : GoodIn wsX6_shift (wsV RX6 49 RX1 yX1_keep wsX1_keep) := goodIn_app (goodIn_of _ (by decide +kernel)) ggX6_shift_X1_keep
set_option maxRecDepth 20000 in
theorem ggX6_shift_X4_setTick : GoodIn wsX6_shift wsX4_setTick := goodIn_r _ [64, 19, 65, 66, 67, 11, 68, 77, 78, 79, 80, 81, 82, 83, 84] (by decide +kernel) (by decide +kernel)
set_option maxRecDepth 20000 in
theorem gX6_shift_X4_setTick : GoodIn wsX6_shift (wsV RX6 57 RX4 yX4_setTick wsX4_setTick) := goodIn_app (goodIn_of _ (by decide +kernel)) ggX6_shift_X4_setTick
set_option maxRecDepth 20000 in
theorem ggX6_shift_X4_setPlace : GoodIn wsX6_shift wsX4_setPlace := goodIn_r _ [72, 19, 53, 77, 78, 79, 80, 81, 82, 83, 84] (by decide +kernel) (by decide +kernel)
set_option maxRecDepth 20000 in
theorem gX6_shift_X4_setPlace : GoodIn wsX6_shift (wsV RX6 97 RX4 yX4_setPlace wsX4_setPlace) := goodIn_app (goodIn_of _ (by decide +kernel)) ggX6_shift_X4_setPlace
theorem dX6_shift_0 : decode cX6_shift 0 = .ok (.aload_n 0, 1) := by decide +kernel
theorem dX6_shift_1 : decode cX6_shift 1 = .ok (.getfield 33, 3) := by decide +kernel
theorem dX6_shift_4 : decode cX6_shift 4 = .ok (.iload_n 1, 1) := by decide +kernel
theorem dX6_shift_5 : decode cX6_shift 5 = .ok (.invokevirtual 69, 3) := by decide +kernel
theorem dX6_shift_8 : decode cX6_shift 8 = .ok (.ifCond .eq 19, 3) := by decide +kernel
theorem dX6_shift_11 : decode cX6_shift 11 = .ok (.lload_n 2, 1) := by decide +kernel
theorem dX6_shift_12 : decode cX6_shift 12 = .ok (.ldc2_w 85, 3) := by decide +kernel
theorem dX6_shift_15 : decode cX6_shift 15 = .ok (.lcmp, 1) := by decide +kernel
theorem dX6_shift_16 : decode cX6_shift 16 = .ok (.ifCond .lt 11, 3) := by decide +kernel
theorem dX6_shift_19 : decode cX6_shift 19 = .ok (.lload_n 2, 1) := by decide +kernel
theorem dX6_shift_20 : decode cX6_shift 20 = .ok (.ldc2_w 76, 3) := by decide +kernel
theorem dX6_shift_23 : decode cX6_shift 23 = .ok (.lcmp, 1) := by decide +kernel
theorem dX6_shift_24 : decode cX6_shift 24 = .ok (.ifCond .le 7, 3) := by decide +kernel
theorem dX6_shift_27 : decode cX6_shift 27 = .ok (.ldc2_w 41, 3) := by decide +kernel
theorem dX6_shift_30 : decode cX6_shift 30 = .ok (.lreturn, 1) := by decide +kernel
theorem dX6_shift_31 : decode cX6_shift 31 = .ok (.aload_n 0, 1) := by decide +kernel
theorem dX6_shift_32 : decode cX6_shift 32 = .ok (.getfield 33, 3) := by decide +kernel
theorem dX6_shift_35 : decode cX6_shift 35 = .ok (.getfield 65, 3) := by decide +kernel
theorem dX6_shift_38 : decode cX6_shift 38 = .ok (.iconst 2, 1) := by decide +kernel
theorem dX6_shift_39 : decode cX6_shift 39 = .ok (.aaload, 1) := by decide +kernel
theorem dX6_shift_40 : decode cX6_shift 40 = .ok (.iload_n 1, 1) := by decide +kernel
theorem dX6_shift_41 : decode cX6_shift 41 = .ok (.laload, 1) := by decide +kernel
theorem dX6_shift_42 : decode cX6_shift 42 = .ok (.lstore 4, 2) := by decide +kernel
theorem dX6_shift_44 : decode cX6_shift 44 = .ok (.lload 4, 2) := by decide +kernel
theorem dX6_shift_46 : decode cX6_shift 46 = .ok (.ldc2_w 87, 3) := by decide +kernel
theorem dX6_shift_49 : decode cX6_shift 49 = .ok (.lcmp, 1) := by decide +kernel
theorem dX6_shift_50 : decode cX6_shift 50 = .ok (.ifCond .ne 7, 3) := by decide +kernel
theorem dX6_shift_53 : decode cX6_shift 53 = .ok (.ldc2_w 89, 3) := by decide +kernel
theorem dX6_shift_56 : decode cX6_shift 56 = .ok (.lreturn, 1) := by decide +kernel
theorem dX6_shift_57 : decode cX6_shift 57 = .ok (.aload_n 0, 1) := by decide +kernel
theorem dX6_shift_58 : decode cX6_shift 58 = .ok (.lload 4, 2) := by decide +kernel
theorem dX6_shift_60 : decode cX6_shift 60 = .ok (.lload_n 2, 1) := by decide +kernel
theorem dX6_shift_61 : decode cX6_shift 61 = .ok (.ladd, 1) := by decide +kernel
theorem dX6_shift_62 : decode cX6_shift 62 = .ok (.invokevirtual 37, 3) := by decide +kernel
theorem dX6_shift_65 : decode cX6_shift 65 = .ok (.ifCond .ne 7, 3) := by decide +kernel
theorem dX6_shift_68 : decode cX6_shift 68 = .ok (.ldc2_w 41, 3) := by decide +kernel
theorem dX6_shift_71 : decode cX6_shift 71 = .ok (.lreturn, 1) := by decide +kernel
theorem dX6_shift_72 : decode cX6_shift 72 = .ok (.aload_n 0, 1) := by decide +kernel
theorem dX6_shift_73 : decode cX6_shift 73 = .ok (.getfield 10, 3) := by decide +kernel
theorem dX6_shift_76 : decode cX6_shift 76 = .ok (.aload_n 0, 1) := by decide +kernel
theorem dX6_shift_77 : decode cX6_shift 77 = .ok (.getfield 33, 3) := by decide +kernel
theorem dX6_shift_80 : decode cX6_shift 80 = .ok (.invokevirtual 49, 3) := by decide +kernel
theorem dX6_shift_83 : decode cX6_shift 83 = .ok (.aload_n 0, 1) := by decide +kernel
theorem dX6_shift_84 : decode cX6_shift 84 = .ok (.getfield 33, 3) := by decide +kernel
theorem dX6_shift_87 : decode cX6_shift 87 = .ok (.getfield 65, 3) := by decide +kernel
theorem dX6_shift_90 : decode cX6_shift 90 = .ok (.iconst 3, 1) := by decide +kernel
theorem dX6_shift_91 : decode cX6_shift 91 = .ok (.aaload, 1) := by decide +kernel
theorem dX6_shift_92 : decode cX6_shift 92 = .ok (.iload_n 1, 1) := by decide +kernel
theorem dX6_shift_93 : decode cX6_shift 93 = .ok (.laload, 1) := by decide +kernel
theorem dX6_shift_94 : decode cX6_shift 94 = .ok (.lstore 6, 2) := by decide +kernel
theorem dX6_shift_96 : decode cX6_shift 96 = .ok (.lload 6, 2) := by decide +kernel
theorem dX6_shift_98 : decode cX6_shift 98 = .ok (.ldc2_w 87, 3) := by decide +kernel
theorem dX6_shift_101 : decode cX6_shift 101 = .ok (.lcmp, 1) := by decide +kernel
theorem dX6_shift_102 : decode cX6_shift 102 = .ok (.ifCond .eq 22, 3) := by decide +kernel
theorem dX6_shift_105 : decode cX6_shift 105 = .ok (.aload_n 0, 1) := by decide +kernel
theorem dX6_shift_106 : decode cX6_shift 106 = .ok (.getfield 33, 3) := by decide +kernel
theorem dX6_shift_109 : decode cX6_shift 109 = .ok (.getfield 65, 3) := by decide +kernel
theorem dX6_shift_112 : decode cX6_shift 112 = .ok (.iconst 3, 1) := by decide +kernel
theorem dX6_shift_113 : decode cX6_shift 113 = .ok (.aaload, 1) := by decide +kernel
theorem dX6_shift_114 : decode cX6_shift 114 = .ok (.iload_n 1, 1) := by decide +kernel
theorem dX6_shift_115 : decode cX6_shift 115 = .ok (.lload 6, 2) := by decide +kernel
theorem dX6_shift_117 : decode cX6_shift 117 = .ok (.lload_n 2, 1) := by decide +kernel
theorem dX6_shift_118 : decode cX6_shift 118 = .ok (.ladd, 1) := by decide +kernel
theorem dX6_shift_119 : decode cX6_shift 119 = .ok (.lconst 0, 1) := by decide +kernel
theorem dX6_shift_120 : decode cX6_shift 120 = .ok (.invokestatic 91, 3) := by decide +kernel
theorem dX6_shift_123 : decode cX6_shift 123 = .ok (.lastore, 1) := by decide +kernel
theorem dX6_shift_124 : decode cX6_shift 124 = .ok (.aload_n 0, 1) := by decide +kernel
theorem dX6_shift_125 : decode cX6_shift 125 = .ok (.getfield 33, 3) := by decide +kernel
theorem dX6_shift_128 : decode cX6_shift 128 = .ok (.iload_n 1, 1) := by decide +kernel
theorem dX6_shift_129 : decode cX6_shift 129 = .ok (.lload 4, 2) := by decide +kernel
theorem dX6_shift_131 : decode cX6_shift 131 = .ok (.lload_n 2, 1) := by decide +kernel
theorem dX6_shift_132 : decode cX6_shift 132 = .ok (.ladd, 1) := by decide +kernel
theorem dX6_shift_133 : decode cX6_shift 133 = .ok (.invokevirtual 57, 3) := by decide +kernel
theorem dX6_shift_136 : decode cX6_shift 136 = .ok (.aload_n 0, 1) := by decide +kernel
theorem dX6_shift_137 : decode cX6_shift 137 = .ok (.getfield 33, 3) := by decide +kernel
theorem dX6_shift_140 : decode cX6_shift 140 = .ok (.iload_n 1, 1) := by decide +kernel
theorem dX6_shift_141 : decode cX6_shift 141 = .ok (.invokevirtual 97, 3) := by decide +kernel
theorem dX6_shift_144 : decode cX6_shift 144 = .ok (.lload 4, 2) := by decide +kernel
theorem dX6_shift_146 : decode cX6_shift 146 = .ok (.lload_n 2, 1) := by decide +kernel
theorem dX6_shift_147 : decode cX6_shift 147 = .ok (.ladd, 1) := by decide +kernel
theorem dX6_shift_148 : decode cX6_shift 148 = .ok (.lreturn, 1) := by decide +kernel
set_option maxRecDepth 20000 in
theorem ggX6_chain_X4_isDue : GoodIn wsX6_chain wsX4_isDue := goodIn_r _ [12, 13, 14, 15, 59, 60, 61, 62, 63, 64, 65, 66] (by decide +kernel) (by decide +kernel)
set_option maxRecDepth 20000 in
theorem gX6_chain_X4_isDue : GoodIn wsX6_chain (wsV RX6 69 RX4 yX4_isDue wsX4_isDue) := goodIn_app (goodIn_of _ (by decide +kernel)) ggX6_chain_X4_isDue
set_option maxRecDepth 20000 in
theorem ggX6_chain_X4_isBehind : GoodIn wsX6_chain wsX4_isBehind := goodIn_r _ [19, 13, 14, 59, 60, 61, 62, 63, 64, 65, 66] (by decide +kernel) (by decide +kernel)
set_option maxRecDepth 20000 in
theorem gX6_chain_X4_isBehind : GoodIn wsX6_chain (wsV RX6 100 RX4 yX4_isBehind wsX4_isBehind) := goodIn_app (goodIn_of _ (by decide +kernel)) ggX6_chain_X4_isBehind
set_option maxRecDepth 20000 in
theorem ggX6_chain_X1_keep : GoodIn wsX6_chain wsX1_keep := goodIn_r _ [24, 25, 26, 27, 28, 11, 29, 30, 31, 32, 33, 34, 35, 36, 37, 38, 39, 40, 14, 41, 42, 43, 44, 45, 46, 47, 48, 49, 13, 50, 51, 52, 53, 54, 67, 68, 69, 59, 60, 61, 62, 63, 64, 65, 66] (by decide +kernel) (by decide +kernel)
set_option maxRecDepth 20000 in
theorem gX6_chain_X1_keep : GoodIn wsX6_chain (wsV RX6 49 RX1 yX1_keep wsX1_keep) := goodIn_app (goodIn_of _ (by decide +kernel)) ggX6_chain_X1_keep
theorem dX6_chain_0 : decode cX6_chain 0 = .ok (.aload_n 0, 1) := by decide +kernel
theorem dX6_chain_1 : decode cX6_chain 1 = .ok (.getfield 33, 3) := by decide +kernel
theorem dX6_chain_4 : decode cX6_chain 4 = .ok (.iload_n 1, 1) := by decide +kernel
theorem dX6_chain_5 : decode cX6_chain 5 = .ok (.invokevirtual 69, 3) := by decide +kernel
theorem dX6_chain_8 : decode cX6_chain 8 = .ok (.ifCond .eq 14, 3) := by decide +kernel
theorem dX6_chain_11 : decode cX6_chain 11 = .ok (.aload_n 0, 1) := by decide +kernel
theorem dX6_chain_12 : decode cX6_chain 12 = .ok (.getfield 33, 3) := by decide +kernel
theorem dX6_chain_15 : decode cX6_chain 15 = .ok (.iload_n 2, 1) := by decide +kernel
theorem dX6_chain_16 : decode cX6_chain 16 = .ok (.invokevirtual 69, 3) := by decide +kernel
theorem dX6_chain_19 : decode cX6_chain 19 = .ok (.ifCond .ne 7, 3) := by decide +kernel
theorem dX6_chain_22 : decode cX6_chain 22 = .ok (.ldc2_w 41, 3) := by decide +kernel
theorem dX6_chain_25 : decode cX6_chain 25 = .ok (.lreturn, 1) := by decide +kernel
theorem dX6_chain_26 : decode cX6_chain 26 = .ok (.aload_n 0, 1) := by decide +kernel
theorem dX6_chain_27 : decode cX6_chain 27 = .ok (.getfield 33, 3) := by decide +kernel
theorem dX6_chain_30 : decode cX6_chain 30 = .ok (.getfield 65, 3) := by decide +kernel
theorem dX6_chain_33 : decode cX6_chain 33 = .ok (.bipush 6, 2) := by decide +kernel
theorem dX6_chain_35 : decode cX6_chain 35 = .ok (.aaload, 1) := by decide +kernel
theorem dX6_chain_36 : decode cX6_chain 36 = .ok (.iload_n 1, 1) := by decide +kernel
theorem dX6_chain_37 : decode cX6_chain 37 = .ok (.laload, 1) := by decide +kernel
theorem dX6_chain_38 : decode cX6_chain 38 = .ok (.ldc2_w 87, 3) := by decide +kernel
theorem dX6_chain_41 : decode cX6_chain 41 = .ok (.lcmp, 1) := by decide +kernel
theorem dX6_chain_42 : decode cX6_chain 42 = .ok (.ifCond .ne 7, 3) := by decide +kernel
theorem dX6_chain_45 : decode cX6_chain 45 = .ok (.ldc2_w 89, 3) := by decide +kernel
theorem dX6_chain_48 : decode cX6_chain 48 = .ok (.lreturn, 1) := by decide +kernel
theorem dX6_chain_49 : decode cX6_chain 49 = .ok (.aload_n 0, 1) := by decide +kernel
theorem dX6_chain_50 : decode cX6_chain 50 = .ok (.getfield 33, 3) := by decide +kernel
theorem dX6_chain_53 : decode cX6_chain 53 = .ok (.iload_n 2, 1) := by decide +kernel
theorem dX6_chain_54 : decode cX6_chain 54 = .ok (.iload_n 1, 1) := by decide +kernel
theorem dX6_chain_55 : decode cX6_chain 55 = .ok (.invokevirtual 100, 3) := by decide +kernel
theorem dX6_chain_58 : decode cX6_chain 58 = .ok (.ifCond .eq 7, 3) := by decide +kernel
theorem dX6_chain_61 : decode cX6_chain 61 = .ok (.ldc2_w 104, 3) := by decide +kernel
theorem dX6_chain_64 : decode cX6_chain 64 = .ok (.lreturn, 1) := by decide +kernel
theorem dX6_chain_65 : decode cX6_chain 65 = .ok (.aload_n 0, 1) := by decide +kernel
theorem dX6_chain_66 : decode cX6_chain 66 = .ok (.getfield 10, 3) := by decide +kernel
theorem dX6_chain_69 : decode cX6_chain 69 = .ok (.aload_n 0, 1) := by decide +kernel
theorem dX6_chain_70 : decode cX6_chain 70 = .ok (.getfield 33, 3) := by decide +kernel
theorem dX6_chain_73 : decode cX6_chain 73 = .ok (.invokevirtual 49, 3) := by decide +kernel
theorem dX6_chain_76 : decode cX6_chain 76 = .ok (.aload_n 0, 1) := by decide +kernel
theorem dX6_chain_77 : decode cX6_chain 77 = .ok (.getfield 33, 3) := by decide +kernel
theorem dX6_chain_80 : decode cX6_chain 80 = .ok (.getfield 65, 3) := by decide +kernel
theorem dX6_chain_83 : decode cX6_chain 83 = .ok (.bipush 6, 2) := by decide +kernel
theorem dX6_chain_85 : decode cX6_chain 85 = .ok (.aaload, 1) := by decide +kernel
theorem dX6_chain_86 : decode cX6_chain 86 = .ok (.iload_n 1, 1) := by decide +kernel
theorem dX6_chain_87 : decode cX6_chain 87 = .ok (.iload_n 2, 1) := by decide +kernel
theorem dX6_chain_88 : decode cX6_chain 88 = .ok (.i2l, 1) := by decide +kernel
theorem dX6_chain_89 : decode cX6_chain 89 = .ok (.lastore, 1) := by decide +kernel
theorem dX6_chain_90 : decode cX6_chain 90 = .ok (.lconst 0, 1) := by decide +kernel
theorem dX6_chain_91 : decode cX6_chain 91 = .ok (.lreturn, 1) := by decide +kernel
set_option maxRecDepth 20000 in
theorem ggX6_rest_X4_isDue : GoodIn wsX6_rest wsX4_isDue := goodIn_r _ [13, 14, 15, 16, 56, 57, 58, 59, 60, 61, 62, 63] (by decide +kernel) (by decide +kernel)
set_option maxRecDepth 20000 in
theorem gX6_rest_X4_isDue : GoodIn wsX6_rest (wsV RX6 69 RX4 yX4_isDue wsX4_isDue) := goodIn_app (goodIn_of _ (by decide +kernel)) ggX6_rest_X4_isDue
set_option maxRecDepth 20000 in
theorem ggX6_rest_X1_keep : GoodIn wsX6_rest wsX1_keep := goodIn_r _ [21, 22, 23, 24, 25, 12, 26, 27, 28, 29, 30, 31, 32, 33, 34, 35, 36, 37, 15, 38, 39, 40, 41, 42, 43, 44, 45, 46, 14, 47, 48, 49, 50, 51, 64, 65, 66, 56, 57, 58, 59, 60, 61, 62, 63] (by decide +kernel) (by decide +kernel)
set_option maxRecDepth 20000 in
theorem gX6_rest_X1_keep : GoodIn wsX6_rest (wsV RX6 49 RX1 yX1_keep wsX1_keep) := goodIn_app (goodIn_of _ (by decide +kernel)) ggX6_rest_X1_keep
theorem dX6_rest_0 : decode cX6_rest 0 = .ok (.aload_n 0, 1) := by decide +kernel
theorem dX6_rest_1 : decode cX6_rest 1 = .ok (.getfield 33, 3) := by decide +kernel
theorem dX6_rest_4 : decode cX6_rest 4 = .ok (.iload_n 1, 1) := by decide +kernel
theorem dX6_rest_5 : decode cX6_rest 5 = .ok (.invokevirtual 69, 3) := by decide +kernel
theorem dX6_rest_8 : decode cX6_rest 8 = .ok (.ifCond .ne 7, 3) := by decide +kernel
theorem dX6_rest_11 : decode cX6_rest 11 = .ok (.ldc2_w 41, 3) := by decide +kernel
theorem dX6_rest_14 : decode cX6_rest 14 = .ok (.lreturn, 1) := by decide +kernel
theorem dX6_rest_15 : decode cX6_rest 15 = .ok (.aload_n 0, 1) := by decide +kernel
theorem dX6_rest_16 : decode cX6_rest 16 = .ok (.getfield 33, 3) := by decide +kernel
theorem dX6_rest_19 : decode cX6_rest 19 = .ok (.getfield 65, 3) := by decide +kernel
theorem dX6_rest_22 : decode cX6_rest 22 = .ok (.iconst 0, 1) := by decide +kernel
theorem dX6_rest_23 : decode cX6_rest 23 = .ok (.aaload, 1) := by decide +kernel
theorem dX6_rest_24 : decode cX6_rest 24 = .ok (.iload_n 1, 1) := by decide +kernel
theorem dX6_rest_25 : decode cX6_rest 25 = .ok (.laload, 1) := by decide +kernel
theorem dX6_rest_26 : decode cX6_rest 26 = .ok (.ldc2_w 106, 3) := by decide +kernel
theorem dX6_rest_29 : decode cX6_rest 29 = .ok (.lcmp, 1) := by decide +kernel
theorem dX6_rest_30 : decode cX6_rest 30 = .ok (.ifCond .ne 22, 3) := by decide +kernel
theorem dX6_rest_33 : decode cX6_rest 33 = .ok (.aload_n 0, 1) := by decide +kernel
theorem dX6_rest_34 : decode cX6_rest 34 = .ok (.getfield 33, 3) := by decide +kernel
theorem dX6_rest_37 : decode cX6_rest 37 = .ok (.getfield 65, 3) := by decide +kernel
theorem dX6_rest_40 : decode cX6_rest 40 = .ok (.bipush 7, 2) := by decide +kernel
theorem dX6_rest_42 : decode cX6_rest 42 = .ok (.aaload, 1) := by decide +kernel
theorem dX6_rest_43 : decode cX6_rest 43 = .ok (.iload_n 1, 1) := by decide +kernel
theorem dX6_rest_44 : decode cX6_rest 44 = .ok (.laload, 1) := by decide +kernel
theorem dX6_rest_45 : decode cX6_rest 45 = .ok (.ldc2_w 87, 3) := by decide +kernel
theorem dX6_rest_48 : decode cX6_rest 48 = .ok (.lcmp, 1) := by decide +kernel
theorem dX6_rest_49 : decode cX6_rest 49 = .ok (.ifCond .eq 7, 3) := by decide +kernel
theorem dX6_rest_52 : decode cX6_rest 52 = .ok (.ldc2_w 89, 3) := by decide +kernel
theorem dX6_rest_55 : decode cX6_rest 55 = .ok (.lreturn, 1) := by decide +kernel
theorem dX6_rest_56 : decode cX6_rest 56 = .ok (.aload_n 0, 1) := by decide +kernel
theorem dX6_rest_57 : decode cX6_rest 57 = .ok (.getfield 10, 3) := by decide +kernel
theorem dX6_rest_60 : decode cX6_rest 60 = .ok (.aload_n 0, 1) := by decide +kernel
theorem dX6_rest_61 : decode cX6_rest 61 = .ok (.getfield 33, 3) := by decide +kernel
theorem dX6_rest_64 : decode cX6_rest 64 = .ok (.invokevirtual 49, 3) := by decide +kernel
theorem dX6_rest_67 : decode cX6_rest 67 = .ok (.aload_n 0, 1) := by decide +kernel
theorem dX6_rest_68 : decode cX6_rest 68 = .ok (.getfield 33, 3) := by decide +kernel
theorem dX6_rest_71 : decode cX6_rest 71 = .ok (.getfield 65, 3) := by decide +kernel
theorem dX6_rest_74 : decode cX6_rest 74 = .ok (.iconst 2, 1) := by decide +kernel
theorem dX6_rest_75 : decode cX6_rest 75 = .ok (.aaload, 1) := by decide +kernel
theorem dX6_rest_76 : decode cX6_rest 76 = .ok (.iload_n 1, 1) := by decide +kernel
theorem dX6_rest_77 : decode cX6_rest 77 = .ok (.laload, 1) := by decide +kernel
theorem dX6_rest_78 : decode cX6_rest 78 = .ok (.aload_n 0, 1) := by decide +kernel
theorem dX6_rest_79 : decode cX6_rest 79 = .ok (.getfield 33, 3) := by decide +kernel
theorem dX6_rest_82 : decode cX6_rest 82 = .ok (.getfield 108, 3) := by decide +kernel
theorem dX6_rest_85 : decode cX6_rest 85 = .ok (.lsub, 1) := by decide +kernel
theorem dX6_rest_86 : decode cX6_rest 86 = .ok (.lstore_n 2, 1) := by decide +kernel
theorem dX6_rest_87 : decode cX6_rest 87 = .ok (.aload_n 0, 1) := by decide +kernel
theorem dX6_rest_88 : decode cX6_rest 88 = .ok (.getfield 33, 3) := by decide +kernel
theorem dX6_rest_91 : decode cX6_rest 91 = .ok (.getfield 65, 3) := by decide +kernel
theorem dX6_rest_94 : decode cX6_rest 94 = .ok (.bipush 7, 2) := by decide +kernel
theorem dX6_rest_96 : decode cX6_rest 96 = .ok (.aaload, 1) := by decide +kernel
theorem dX6_rest_97 : decode cX6_rest 97 = .ok (.iload_n 1, 1) := by decide +kernel
theorem dX6_rest_98 : decode cX6_rest 98 = .ok (.lload_n 2, 1) := by decide +kernel
theorem dX6_rest_99 : decode cX6_rest 99 = .ok (.lastore, 1) := by decide +kernel
theorem dX6_rest_100 : decode cX6_rest 100 = .ok (.aload_n 0, 1) := by decide +kernel
theorem dX6_rest_101 : decode cX6_rest 101 = .ok (.getfield 33, 3) := by decide +kernel
theorem dX6_rest_104 : decode cX6_rest 104 = .ok (.getfield 65, 3) := by decide +kernel
theorem dX6_rest_107 : decode cX6_rest 107 = .ok (.iconst 2, 1) := by decide +kernel
theorem dX6_rest_108 : decode cX6_rest 108 = .ok (.aaload, 1) := by decide +kernel
theorem dX6_rest_109 : decode cX6_rest 109 = .ok (.iload_n 1, 1) := by decide +kernel
theorem dX6_rest_110 : decode cX6_rest 110 = .ok (.ldc2_w 87, 3) := by decide +kernel
theorem dX6_rest_113 : decode cX6_rest 113 = .ok (.lastore, 1) := by decide +kernel
theorem dX6_rest_114 : decode cX6_rest 114 = .ok (.aload_n 0, 1) := by decide +kernel
theorem dX6_rest_115 : decode cX6_rest 115 = .ok (.getfield 33, 3) := by decide +kernel
theorem dX6_rest_118 : decode cX6_rest 118 = .ok (.getfield 65, 3) := by decide +kernel
theorem dX6_rest_121 : decode cX6_rest 121 = .ok (.bipush 11, 2) := by decide +kernel
theorem dX6_rest_123 : decode cX6_rest 123 = .ok (.aaload, 1) := by decide +kernel
theorem dX6_rest_124 : decode cX6_rest 124 = .ok (.iload_n 1, 1) := by decide +kernel
theorem dX6_rest_125 : decode cX6_rest 125 = .ok (.lconst 0, 1) := by decide +kernel
theorem dX6_rest_126 : decode cX6_rest 126 = .ok (.lastore, 1) := by decide +kernel
theorem dX6_rest_127 : decode cX6_rest 127 = .ok (.lload_n 2, 1) := by decide +kernel
theorem dX6_rest_128 : decode cX6_rest 128 = .ok (.lreturn, 1) := by decide +kernel
set_option maxRecDepth 20000 in
theorem ggX6_wake_X4_isDue : GoodIn wsX6_wake wsX4_isDue := goodIn_r _ [12, 13, 14, 15, 67, 68, 69, 70, 71, 72, 73, 74] (by decide +kernel) (by decide +kernel)
set_option maxRecDepth 20000 in
theorem gX6_wake_X4_isDue : GoodIn wsX6_wake (wsV RX6 69 RX4 yX4_isDue wsX4_isDue) := goodIn_app (goodIn_of _ (by decide +kernel)) ggX6_wake_X4_isDue
set_option maxRecDepth 20000 in
theorem ggX6_wake_X1_keep : GoodIn wsX6_wake wsX1_keep := goodIn_r _ [20, 21, 22, 23, 24, 11, 25, 26, 27, 28, 29, 30, 31, 32, 33, 34, 35, 36, 14, 37, 38, 39, 40, 41, 42, 43, 44, 45, 13, 46, 47, 48, 49, 50, 75, 76, 77, 67, 68, 69, 70, 71, 72, 73, 74] (by decide +kernel) (by decide +kernel)
set_option maxRecDepth 20000 in
theorem gX6_wake_X1_keep : GoodIn wsX6_wake (wsV RX6 49 RX1 yX1_keep wsX1_keep) := goodIn_app (goodIn_of _ (by decide +kernel)) ggX6_wake_X1_keep
set_option maxRecDepth 20000 in
theorem ggX6_wake_X4_setTick : GoodIn wsX6_wake wsX4_setTick := goodIn_r _ [54, 14, 55, 56, 57, 28, 58, 67, 68, 69, 70, 71, 72, 73, 74] (by decide +kernel) (by decide +kernel)
set_option maxRecDepth 20000 in
theorem gX6_wake_X4_setTick : GoodIn wsX6_wake (wsV RX6 57 RX4 yX4_setTick wsX4_setTick) := goodIn_app (goodIn_of _ (by decide +kernel)) ggX6_wake_X4_setTick
set_option maxRecDepth 20000 in
theorem ggX6_wake_X4_setPlace : GoodIn wsX6_wake wsX4_setPlace := goodIn_r _ [62, 14, 43, 67, 68, 69, 70, 71, 72, 73, 74] (by decide +kernel) (by decide +kernel)
set_option maxRecDepth 20000 in
theorem gX6_wake_X4_setPlace : GoodIn wsX6_wake (wsV RX6 97 RX4 yX4_setPlace wsX4_setPlace) := goodIn_app (goodIn_of _ (by decide +kernel)) ggX6_wake_X4_setPlace
theorem dX6_wake_0 : decode cX6_wake 0 = .ok (.aload_n 0, 1) := by decide +kernel
theorem dX6_wake_1 : decode cX6_wake 1 = .ok (.getfield 33, 3) := by decide +kernel
theorem dX6_wake_4 : decode cX6_wake 4 = .ok (.iload_n 1, 1) := by decide +kernel
theorem dX6_wake_5 : decode cX6_wake 5 = .ok (.invokevirtual 69, 3) := by decide +kernel
theorem dX6_wake_8 : decode cX6_wake 8 = .ok (.ifCond .ne 7, 3) := by decide +kernel
theorem dX6_wake_11 : decode cX6_wake 11 = .ok (.ldc2_w 41, 3) := by decide +kernel
theorem dX6_wake_14 : decode cX6_wake 14 = .ok (.lreturn, 1) := by decide +kernel
theorem dX6_wake_15 : decode cX6_wake 15 = .ok (.aload_n 0, 1) := by decide +kernel
theorem dX6_wake_16 : decode cX6_wake 16 = .ok (.getfield 33, 3) := by decide +kernel
theorem dX6_wake_19 : decode cX6_wake 19 = .ok (.getfield 65, 3) := by decide +kernel
theorem dX6_wake_22 : decode cX6_wake 22 = .ok (.bipush 7, 2) := by decide +kernel
theorem dX6_wake_24 : decode cX6_wake 24 = .ok (.aaload, 1) := by decide +kernel
theorem dX6_wake_25 : decode cX6_wake 25 = .ok (.iload_n 1, 1) := by decide +kernel
theorem dX6_wake_26 : decode cX6_wake 26 = .ok (.laload, 1) := by decide +kernel
theorem dX6_wake_27 : decode cX6_wake 27 = .ok (.lstore_n 2, 1) := by decide +kernel
theorem dX6_wake_28 : decode cX6_wake 28 = .ok (.lload_n 2, 1) := by decide +kernel
theorem dX6_wake_29 : decode cX6_wake 29 = .ok (.ldc2_w 87, 3) := by decide +kernel
theorem dX6_wake_32 : decode cX6_wake 32 = .ok (.lcmp, 1) := by decide +kernel
theorem dX6_wake_33 : decode cX6_wake 33 = .ok (.ifCond .ne 7, 3) := by decide +kernel
theorem dX6_wake_36 : decode cX6_wake 36 = .ok (.ldc2_w 89, 3) := by decide +kernel
theorem dX6_wake_39 : decode cX6_wake 39 = .ok (.lreturn, 1) := by decide +kernel
theorem dX6_wake_40 : decode cX6_wake 40 = .ok (.aload_n 0, 1) := by decide +kernel
theorem dX6_wake_41 : decode cX6_wake 41 = .ok (.getfield 10, 3) := by decide +kernel
theorem dX6_wake_44 : decode cX6_wake 44 = .ok (.aload_n 0, 1) := by decide +kernel
theorem dX6_wake_45 : decode cX6_wake 45 = .ok (.getfield 33, 3) := by decide +kernel
theorem dX6_wake_48 : decode cX6_wake 48 = .ok (.invokevirtual 49, 3) := by decide +kernel
theorem dX6_wake_51 : decode cX6_wake 51 = .ok (.aload_n 0, 1) := by decide +kernel
theorem dX6_wake_52 : decode cX6_wake 52 = .ok (.getfield 33, 3) := by decide +kernel
theorem dX6_wake_55 : decode cX6_wake 55 = .ok (.getfield 65, 3) := by decide +kernel
theorem dX6_wake_58 : decode cX6_wake 58 = .ok (.bipush 7, 2) := by decide +kernel
theorem dX6_wake_60 : decode cX6_wake 60 = .ok (.aaload, 1) := by decide +kernel
theorem dX6_wake_61 : decode cX6_wake 61 = .ok (.iload_n 1, 1) := by decide +kernel
theorem dX6_wake_62 : decode cX6_wake 62 = .ok (.ldc2_w 87, 3) := by decide +kernel
theorem dX6_wake_65 : decode cX6_wake 65 = .ok (.lastore, 1) := by decide +kernel
theorem dX6_wake_66 : decode cX6_wake 66 = .ok (.aload_n 0, 1) := by decide +kernel
theorem dX6_wake_67 : decode cX6_wake 67 = .ok (.getfield 33, 3) := by decide +kernel
theorem dX6_wake_70 : decode cX6_wake 70 = .ok (.iload_n 1, 1) := by decide +kernel
theorem dX6_wake_71 : decode cX6_wake 71 = .ok (.aload_n 0, 1) := by decide +kernel
theorem dX6_wake_72 : decode cX6_wake 72 = .ok (.getfield 33, 3) := by decide +kernel
theorem dX6_wake_75 : decode cX6_wake 75 = .ok (.getfield 108, 3) := by decide +kernel
theorem dX6_wake_78 : decode cX6_wake 78 = .ok (.lload_n 2, 1) := by decide +kernel
theorem dX6_wake_79 : decode cX6_wake 79 = .ok (.ladd, 1) := by decide +kernel
theorem dX6_wake_80 : decode cX6_wake 80 = .ok (.invokevirtual 57, 3) := by decide +kernel
theorem dX6_wake_83 : decode cX6_wake 83 = .ok (.aload_n 0, 1) := by decide +kernel
theorem dX6_wake_84 : decode cX6_wake 84 = .ok (.getfield 33, 3) := by decide +kernel
theorem dX6_wake_87 : decode cX6_wake 87 = .ok (.iload_n 1, 1) := by decide +kernel
theorem dX6_wake_88 : decode cX6_wake 88 = .ok (.invokevirtual 97, 3) := by decide +kernel
theorem dX6_wake_91 : decode cX6_wake 91 = .ok (.aload_n 0, 1) := by decide +kernel
theorem dX6_wake_92 : decode cX6_wake 92 = .ok (.getfield 33, 3) := by decide +kernel
theorem dX6_wake_95 : decode cX6_wake 95 = .ok (.getfield 65, 3) := by decide +kernel
theorem dX6_wake_98 : decode cX6_wake 98 = .ok (.iconst 2, 1) := by decide +kernel
theorem dX6_wake_99 : decode cX6_wake 99 = .ok (.aaload, 1) := by decide +kernel
theorem dX6_wake_100 : decode cX6_wake 100 = .ok (.iload_n 1, 1) := by decide +kernel
theorem dX6_wake_101 : decode cX6_wake 101 = .ok (.laload, 1) := by decide +kernel
theorem dX6_wake_102 : decode cX6_wake 102 = .ok (.lreturn, 1) := by decide +kernel
set_option maxRecDepth 20000 in
theorem ggX6_about_X4_isDue : GoodIn wsX6_about wsX4_isDue := goodIn_r _ [8, 9, 10, 11, 16, 17, 18, 19, 20, 21, 22, 23] (by decide +kernel) (by decide +kernel)
set_option maxRecDepth 20000 in
theorem gX6_about_X4_isDue : GoodIn wsX6_about (wsV RX6 69 RX4 yX4_isDue wsX4_isDue) := goodIn_app (goodIn_of _ (by decide +kernel)) ggX6_about_X4_isDue
theorem dX6_about_0 : decode cX6_about 0 = .ok (.aload_n 0, 1) := by decide +kernel
theorem dX6_about_1 : decode cX6_about 1 = .ok (.getfield 33, 3) := by decide +kernel
theorem dX6_about_4 : decode cX6_about 4 = .ok (.iload_n 1, 1) := by decide +kernel
theorem dX6_about_5 : decode cX6_about 5 = .ok (.invokevirtual 69, 3) := by decide +kernel
theorem dX6_about_8 : decode cX6_about 8 = .ok (.ifCond .eq 13, 3) := by decide +kernel
theorem dX6_about_11 : decode cX6_about 11 = .ok (.iload_n 2, 1) := by decide +kernel
theorem dX6_about_12 : decode cX6_about 12 = .ok (.ifCond .lt 9, 3) := by decide +kernel
theorem dX6_about_15 : decode cX6_about 15 = .ok (.iload_n 2, 1) := by decide +kernel
theorem dX6_about_16 : decode cX6_about 16 = .ok (.bipush 9, 2) := by decide +kernel
theorem dX6_about_18 : decode cX6_about 18 = .ok (.if_icmp .lt 7, 3) := by decide +kernel
theorem dX6_about_21 : decode cX6_about 21 = .ok (.ldc2_w 41, 3) := by decide +kernel
theorem dX6_about_24 : decode cX6_about 24 = .ok (.lreturn, 1) := by decide +kernel
theorem dX6_about_25 : decode cX6_about 25 = .ok (.aload_n 0, 1) := by decide +kernel
theorem dX6_about_26 : decode cX6_about 26 = .ok (.getfield 33, 3) := by decide +kernel
theorem dX6_about_29 : decode cX6_about 29 = .ok (.getfield 65, 3) := by decide +kernel
theorem dX6_about_32 : decode cX6_about 32 = .ok (.iload_n 2, 1) := by decide +kernel
theorem dX6_about_33 : decode cX6_about 33 = .ok (.aaload, 1) := by decide +kernel
theorem dX6_about_34 : decode cX6_about 34 = .ok (.iload_n 1, 1) := by decide +kernel
theorem dX6_about_35 : decode cX6_about 35 = .ok (.laload, 1) := by decide +kernel
theorem dX6_about_36 : decode cX6_about 36 = .ok (.lreturn, 1) := by decide +kernel
set_option maxRecDepth 20000 in
theorem ggX6_isOf_X4_isDue : GoodIn wsX6_isOf wsX4_isDue := goodIn_r _ [9, 10, 11, 12, 17, 18, 19, 20, 21, 22, 23, 24] (by decide +kernel) (by decide +kernel)
set_option maxRecDepth 20000 in
theorem gX6_isOf_X4_isDue : GoodIn wsX6_isOf (wsV RX6 69 RX4 yX4_isDue wsX4_isDue) := goodIn_app (goodIn_of _ (by decide +kernel)) ggX6_isOf_X4_isDue
theorem dX6_isOf_0 : decode cX6_isOf 0 = .ok (.aload_n 0, 1) := by decide +kernel
theorem dX6_isOf_1 : decode cX6_isOf 1 = .ok (.getfield 33, 3) := by decide +kernel
theorem dX6_isOf_4 : decode cX6_isOf 4 = .ok (.iload_n 1, 1) := by decide +kernel
theorem dX6_isOf_5 : decode cX6_isOf 5 = .ok (.invokevirtual 69, 3) := by decide +kernel
theorem dX6_isOf_8 : decode cX6_isOf 8 = .ok (.ifCond .eq 12, 3) := by decide +kernel
theorem dX6_isOf_11 : decode cX6_isOf 11 = .ok (.iload_n 2, 1) := by decide +kernel
theorem dX6_isOf_12 : decode cX6_isOf 12 = .ok (.ifCond .lt 8, 3) := by decide +kernel
theorem dX6_isOf_15 : decode cX6_isOf 15 = .ok (.iload_n 2, 1) := by decide +kernel
theorem dX6_isOf_16 : decode cX6_isOf 16 = .ok (.iconst 5, 1) := by decide +kernel
theorem dX6_isOf_17 : decode cX6_isOf 17 = .ok (.if_icmp .lt 7, 3) := by decide +kernel
theorem dX6_isOf_20 : decode cX6_isOf 20 = .ok (.ldc2_w 41, 3) := by decide +kernel
theorem dX6_isOf_23 : decode cX6_isOf 23 = .ok (.lreturn, 1) := by decide +kernel
theorem dX6_isOf_24 : decode cX6_isOf 24 = .ok (.aload_n 0, 1) := by decide +kernel
theorem dX6_isOf_25 : decode cX6_isOf 25 = .ok (.getfield 33, 3) := by decide +kernel
theorem dX6_isOf_28 : decode cX6_isOf 28 = .ok (.getfield 65, 3) := by decide +kernel
theorem dX6_isOf_31 : decode cX6_isOf 31 = .ok (.iconst 0, 1) := by decide +kernel
theorem dX6_isOf_32 : decode cX6_isOf 32 = .ok (.aaload, 1) := by decide +kernel
theorem dX6_isOf_33 : decode cX6_isOf 33 = .ok (.iload_n 1, 1) := by decide +kernel
theorem dX6_isOf_34 : decode cX6_isOf 34 = .ok (.laload, 1) := by decide +kernel
theorem dX6_isOf_35 : decode cX6_isOf 35 = .ok (.lstore_n 3, 1) := by decide +kernel
theorem dX6_isOf_36 : decode cX6_isOf 36 = .ok (.lload_n 3, 1) := by decide +kernel
theorem dX6_isOf_37 : decode cX6_isOf 37 = .ok (.iload_n 2, 1) := by decide +kernel
theorem dX6_isOf_38 : decode cX6_isOf 38 = .ok (.i2l, 1) := by decide +kernel
theorem dX6_isOf_39 : decode cX6_isOf 39 = .ok (.lcmp, 1) := by decide +kernel
theorem dX6_isOf_40 : decode cX6_isOf 40 = .ok (.ifCond .eq 16, 3) := by decide +kernel
theorem dX6_isOf_43 : decode cX6_isOf 43 = .ok (.lload_n 3, 1) := by decide +kernel
theorem dX6_isOf_44 : decode cX6_isOf 44 = .ok (.ldc2_w 106, 3) := by decide +kernel
theorem dX6_isOf_47 : decode cX6_isOf 47 = .ok (.lcmp, 1) := by decide +kernel
theorem dX6_isOf_48 : decode cX6_isOf 48 = .ok (.ifCond .ne 12, 3) := by decide +kernel
theorem dX6_isOf_51 : decode cX6_isOf 51 = .ok (.iload_n 2, 1) := by decide +kernel
theorem dX6_isOf_52 : decode cX6_isOf 52 = .ok (.iconst 1, 1) := by decide +kernel
theorem dX6_isOf_53 : decode cX6_isOf 53 = .ok (.if_icmp .ne 7, 3) := by decide +kernel
theorem dX6_isOf_56 : decode cX6_isOf 56 = .ok (.lconst 1, 1) := by decide +kernel
theorem dX6_isOf_57 : decode cX6_isOf 57 = .ok (.goto 4, 3) := by decide +kernel
theorem dX6_isOf_60 : decode cX6_isOf 60 = .ok (.lconst 0, 1) := by decide +kernel
theorem dX6_isOf_61 : decode cX6_isOf 61 = .ok (.lreturn, 1) := by decide +kernel
set_option maxRecDepth 20000 in
theorem ggX6_go_X1_keep : GoodIn wsX6_go wsX1_keep := goodIn_r _ [11, 12, 13, 14, 15, 16, 17, 18, 19, 20, 21, 22, 23, 24, 25, 26, 27, 28, 29, 30, 31, 32, 33, 34, 35, 36, 37, 38, 39, 40, 41, 42, 43, 44, 158, 159, 160, 150, 151, 152, 153, 154, 155, 156, 157] (by decide +kernel) (by decide +kernel)
set_option maxRecDepth 20000 in
theorem gX6_go_X1_keep : GoodIn wsX6_go (wsV RX6 49 RX1 yX1_keep wsX1_keep) := goodIn_app (goodIn_of _ (by decide +kernel)) ggX6_go_X1_keep
set_option maxRecDepth 20000 in
theorem ggX6_go_X0_goOn : GoodIn wsX6_go wsX0_goOn := goodIn_r _ [49, 50, 51, 52, 53, 48, 54, 55, 56, 57, 58, 59, 60, 61, 16, 62, 63, 39, 29, 64, 65, 66, 67, 68, 69, 70, 71, 72, 73, 74, 75, 76, 77, 78, 79, 80, 81, 82, 83, 84, 85, 86, 87, 88, 89, 90, 91, 92, 93, 94, 95, 96, 97, 98, 99, 100, 101, 102, 103, 104, 105, 106, 107, 108, 109, 110, 111, 112, 113, 114, 115, 116, 117, 118, 119, 120, 35, 121, 122, 123, 124, 125, 126, 20, 127, 128, 129, 130, 131, 132, 133, 134, 135, 136, 137, 138, 139, 140, 141, 142, 143, 144, 145, 150, 151, 152, 153, 154, 155, 156, 157, 161, 162, 163, 164, 165] (by decide +kernel) (by decide +kernel)
set_option maxRecDepth 20000 in
theorem gX6_go_X0_goOn : GoodIn wsX6_go (wsV RX6 114 RX0 yX0_goOn wsX0_goOn) := goodIn_app (goodIn_of _ (by decide +kernel)) ggX6_go_X0_goOn
theorem dX6_go_0 : decode cX6_go 0 = .ok (.lload_n 1, 1) := by decide +kernel
theorem dX6_go_1 : decode cX6_go 1 = .ok (.aload_n 0, 1) := by decide +kernel
theorem dX6_go_2 : decode cX6_go 2 = .ok (.getfield 33, 3) := by decide +kernel
theorem dX6_go_5 : decode cX6_go 5 = .ok (.getfield 108, 3) := by decide +kernel
theorem dX6_go_8 : decode cX6_go 8 = .ok (.lcmp, 1) := by decide +kernel
theorem dX6_go_9 : decode cX6_go 9 = .ok (.ifCond .lt 11, 3) := by decide +kernel
theorem dX6_go_12 : decode cX6_go 12 = .ok (.lload_n 1, 1) := by decide +kernel
theorem dX6_go_13 : decode cX6_go 13 = .ok (.ldc2_w 112, 3) := by decide +kernel
theorem dX6_go_16 : decode cX6_go 16 = .ok (.lcmp, 1) := by decide +kernel
theorem dX6_go_17 : decode cX6_go 17 = .ok (.ifCond .le 7, 3) := by decide +kernel
theorem dX6_go_20 : decode cX6_go 20 = .ok (.ldc2_w 41, 3) := by decide +kernel
theorem dX6_go_23 : decode cX6_go 23 = .ok (.lreturn, 1) := by decide +kernel
theorem dX6_go_24 : decode cX6_go 24 = .ok (.aload_n 0, 1) := by decide +kernel
theorem dX6_go_25 : decode cX6_go 25 = .ok (.getfield 10, 3) := by decide +kernel
theorem dX6_go_28 : decode cX6_go 28 = .ok (.aload_n 0, 1) := by decide +kernel
theorem dX6_go_29 : decode cX6_go 29 = .ok (.getfield 33, 3) := by decide +kernel
theorem dX6_go_32 : decode cX6_go 32 = .ok (.invokevirtual 49, 3) := by decide +kernel
theorem dX6_go_35 : decode cX6_go 35 = .ok (.aload_n 0, 1) := by decide +kernel
theorem dX6_go_36 : decode cX6_go 36 = .ok (.getfield 19, 3) := by decide +kernel
theorem dX6_go_39 : decode cX6_go 39 = .ok (.aload_n 0, 1) := by decide +kernel
theorem dX6_go_40 : decode cX6_go 40 = .ok (.getfield 33, 3) := by decide +kernel
theorem dX6_go_43 : decode cX6_go 43 = .ok (.lload_n 1, 1) := by decide +kernel
theorem dX6_go_44 : decode cX6_go 44 = .ok (.invokevirtual 114, 3) := by decide +kernel
theorem dX6_go_47 : decode cX6_go 47 = .ok (.aload_n 0, 1) := by decide +kernel
theorem dX6_go_48 : decode cX6_go 48 = .ok (.getfield 33, 3) := by decide +kernel
theorem dX6_go_51 : decode cX6_go 51 = .ok (.getfield 108, 3) := by decide +kernel
theorem dX6_go_54 : decode cX6_go 54 = .ok (.lreturn, 1) := by decide +kernel
theorem dX6_went_0 : decode cX6_went 0 = .ok (.iload_n 1, 1) := by decide +kernel
theorem dX6_went_1 : decode cX6_went 1 = .ok (.ifCond .lt 12, 3) := by decide +kernel
theorem dX6_went_4 : decode cX6_went 4 = .ok (.iload_n 2, 1) := by decide +kernel
theorem dX6_went_5 : decode cX6_went 5 = .ok (.ifCond .lt 8, 3) := by decide +kernel
theorem dX6_went_8 : decode cX6_went 8 = .ok (.iload_n 2, 1) := by decide +kernel
theorem dX6_went_9 : decode cX6_went 9 = .ok (.iconst 3, 1) := by decide +kernel
theorem dX6_went_10 : decode cX6_went 10 = .ok (.if_icmp .lt 7, 3) := by decide +kernel
theorem dX6_went_13 : decode cX6_went 13 = .ok (.ldc2_w 41, 3) := by decide +kernel
theorem dX6_went_16 : decode cX6_went 16 = .ok (.lreturn, 1) := by decide +kernel
theorem dX6_went_17 : decode cX6_went 17 = .ok (.iload_n 1, 1) := by decide +kernel
theorem dX6_went_18 : decode cX6_went 18 = .ok (.aload_n 0, 1) := by decide +kernel
theorem dX6_went_19 : decode cX6_went 19 = .ok (.getfield 33, 3) := by decide +kernel
theorem dX6_went_22 : decode cX6_went 22 = .ok (.getfield 118, 3) := by decide +kernel
theorem dX6_went_25 : decode cX6_went 25 = .ok (.if_icmp .ge 17, 3) := by decide +kernel
theorem dX6_went_28 : decode cX6_went 28 = .ok (.aload_n 0, 1) := by decide +kernel
theorem dX6_went_29 : decode cX6_went 29 = .ok (.getfield 33, 3) := by decide +kernel
theorem dX6_went_32 : decode cX6_went 32 = .ok (.getfield 122, 3) := by decide +kernel
theorem dX6_went_35 : decode cX6_went 35 = .ok (.iload_n 2, 1) := by decide +kernel
theorem dX6_went_36 : decode cX6_went 36 = .ok (.aaload, 1) := by decide +kernel
theorem dX6_went_37 : decode cX6_went 37 = .ok (.iload_n 1, 1) := by decide +kernel
theorem dX6_went_38 : decode cX6_went 38 = .ok (.laload, 1) := by decide +kernel
theorem dX6_went_39 : decode cX6_went 39 = .ok (.goto 6, 3) := by decide +kernel
theorem dX6_went_42 : decode cX6_went 42 = .ok (.ldc2_w 87, 3) := by decide +kernel
theorem dX6_went_45 : decode cX6_went 45 = .ok (.lreturn, 1) := by decide +kernel
set_option maxRecDepth 20000 in
theorem ggX6_next_X4_leastTick : GoodIn wsX6_next wsX4_leastTick := goodIn_r _ [6, 7, 8, 9, 10, 15, 16, 17, 18, 19, 20, 21, 22] (by decide +kernel) (by decide +kernel)
set_option maxRecDepth 20000 in
theorem gX6_next_X4_leastTick : GoodIn wsX6_next (wsV RX6 125 RX4 yX4_leastTick wsX4_leastTick) := goodIn_app (goodIn_of _ (by decide +kernel)) ggX6_next_X4_leastTick
theorem dX6_next_0 : decode cX6_next 0 = .ok (.aload_n 0, 1) := by decide +kernel
theorem dX6_next_1 : decode cX6_next 1 = .ok (.getfield 33, 3) := by decide +kernel
theorem dX6_next_4 : decode cX6_next 4 = .ok (.invokevirtual 125, 3) := by decide +kernel
theorem dX6_next_7 : decode cX6_next 7 = .ok (.lreturn, 1) := by decide +kernel
set_option maxRecDepth 20000 in
theorem ggX6_fewest_X3_plan : GoodIn wsX6_fewest wsX3_plan := goodIn_r _ [7, 8, 9, 10, 11, 12, 13, 14, 15, 16, 17, 18, 19, 20, 21, 6, 22, 23, 24, 25, 26, 27, 28, 29, 30, 31, 32, 33, 34, 35, 36, 37, 38, 39, 40, 41, 42, 43, 44, 45, 46, 47, 48, 49, 50, 51, 56, 57, 58, 59, 60, 61, 62, 63, 64, 65, 66, 67, 68, 69, 70, 71] (by decide +kernel) (by decide +kernel)
set_option maxRecDepth 20000 in
theorem gX6_fewest_X3_plan : GoodIn wsX6_fewest (wsV RX6 129 RX3 yX3_plan wsX3_plan) := goodIn_app (goodIn_of _ (by decide +kernel)) ggX6_fewest_X3_plan
theorem dX6_fewest_0 : decode cX6_fewest 0 = .ok (.aload_n 0, 1) := by decide +kernel
theorem dX6_fewest_1 : decode cX6_fewest 1 = .ok (.getfield 26, 3) := by decide +kernel
theorem dX6_fewest_4 : decode cX6_fewest 4 = .ok (.aload_n 0, 1) := by decide +kernel
theorem dX6_fewest_5 : decode cX6_fewest 5 = .ok (.getfield 33, 3) := by decide +kernel
theorem dX6_fewest_8 : decode cX6_fewest 8 = .ok (.invokevirtual 129, 3) := by decide +kernel
theorem dX6_fewest_11 : decode cX6_fewest 11 = .ok (.i2l, 1) := by decide +kernel
theorem dX6_fewest_12 : decode cX6_fewest 12 = .ok (.lreturn, 1) := by decide +kernel
set_option maxRecDepth 20000 in
theorem ggX6_settle_X1_keep : GoodIn wsX6_settle wsX1_keep := goodIn_r _ [8, 9, 10, 11, 12, 13, 14, 15, 16, 17, 18, 19, 20, 21, 22, 23, 24, 25, 26, 27, 28, 29, 30, 31, 32, 33, 34, 35, 36, 37, 38, 39, 40, 41, 106, 107, 108, 109, 110, 111, 112, 113, 114, 115, 116] (by decide +kernel) (by decide +kernel)
set_option maxRecDepth 20000 in
theorem gX6_settle_X1_keep : GoodIn wsX6_settle (wsV RX6 49 RX1 yX1_keep wsX1_keep) := goodIn_app (goodIn_of _ (by decide +kernel)) ggX6_settle_X1_keep
set_option maxRecDepth 20000 in
theorem ggX6_settle_X3_plan : GoodIn wsX6_settle wsX3_plan := goodIn_r _ [46, 47, 48, 49, 50, 51, 52, 53, 17, 54, 55, 56, 57, 58, 59, 45, 60, 61, 62, 63, 64, 65, 66, 67, 68, 69, 70, 71, 72, 73, 74, 75, 76, 77, 78, 79, 80, 81, 82, 83, 84, 85, 86, 87, 88, 89, 117, 118, 119, 120, 121, 122, 123, 124, 109, 110, 111, 112, 113, 114, 115, 116] (by decide +kernel) (by decide +kernel)
set_option maxRecDepth 20000 in
theorem gX6_settle_X3_plan : GoodIn wsX6_settle (wsV RX6 129 RX3 yX3_plan wsX3_plan) := goodIn_app (goodIn_of _ (by decide +kernel)) ggX6_settle_X3_plan
set_option maxRecDepth 20000 in
theorem ggX6_settle_X3_carryOut : GoodIn wsX6_settle wsX3_carryOut := goodIn_r _ [93, 47, 48, 50, 49, 56, 94, 95, 96, 13, 97, 26, 98, 99, 100, 17, 101, 117, 118, 119, 120, 121, 122, 123, 124, 109, 110, 111, 112, 113, 114, 115, 116] (by decide +kernel) (by decide +kernel)
set_option maxRecDepth 20000 in
theorem gX6_settle_X3_carryOut : GoodIn wsX6_settle (wsV RX6 133 RX3 yX3_carryOut wsX3_carryOut) := goodIn_app (goodIn_of _ (by decide +kernel)) ggX6_settle_X3_carryOut
theorem dX6_settle_0 : decode cX6_settle 0 = .ok (.aload_n 0, 1) := by decide +kernel
theorem dX6_settle_1 : decode cX6_settle 1 = .ok (.getfield 10, 3) := by decide +kernel
theorem dX6_settle_4 : decode cX6_settle 4 = .ok (.aload_n 0, 1) := by decide +kernel
theorem dX6_settle_5 : decode cX6_settle 5 = .ok (.getfield 33, 3) := by decide +kernel
theorem dX6_settle_8 : decode cX6_settle 8 = .ok (.invokevirtual 49, 3) := by decide +kernel
theorem dX6_settle_11 : decode cX6_settle 11 = .ok (.aload_n 0, 1) := by decide +kernel
theorem dX6_settle_12 : decode cX6_settle 12 = .ok (.getfield 26, 3) := by decide +kernel
theorem dX6_settle_15 : decode cX6_settle 15 = .ok (.aload_n 0, 1) := by decide +kernel
theorem dX6_settle_16 : decode cX6_settle 16 = .ok (.getfield 33, 3) := by decide +kernel
theorem dX6_settle_19 : decode cX6_settle 19 = .ok (.invokevirtual 129, 3) := by decide +kernel
theorem dX6_settle_22 : decode cX6_settle 22 = .ok (.pop, 1) := by decide +kernel
theorem dX6_settle_23 : decode cX6_settle 23 = .ok (.aload_n 0, 1) := by decide +kernel
theorem dX6_settle_24 : decode cX6_settle 24 = .ok (.getfield 26, 3) := by decide +kernel
theorem dX6_settle_27 : decode cX6_settle 27 = .ok (.aload_n 0, 1) := by decide +kernel
theorem dX6_settle_28 : decode cX6_settle 28 = .ok (.getfield 33, 3) := by decide +kernel
theorem dX6_settle_31 : decode cX6_settle 31 = .ok (.invokevirtual 133, 3) := by decide +kernel
theorem dX6_settle_34 : decode cX6_settle 34 = .ok (.i2l, 1) := by decide +kernel
theorem dX6_settle_35 : decode cX6_settle 35 = .ok (.lreturn, 1) := by decide +kernel
set_option maxRecDepth 20000 in
theorem ggX6_lies_X4_isDue : GoodIn wsX6_lies wsX4_isDue := goodIn_r _ [10, 11, 12, 13, 26, 27, 28, 29, 30, 31, 32, 33] (by decide +kernel) (by decide +kernel)
set_option maxRecDepth 20000 in
theorem gX6_lies_X4_isDue : GoodIn wsX6_lies (wsV RX6 69 RX4 yX4_isDue wsX4_isDue) := goodIn_app (goodIn_of _ (by decide +kernel)) ggX6_lies_X4_isDue
set_option maxRecDepth 20000 in
theorem ggX6_lies_X5_wheelOf : GoodIn wsX6_lies wsX5_wheelOf := goodIn_r _ [17] (by decide +kernel) (by decide +kernel)
set_option maxRecDepth 20000 in
theorem gX6_lies_X5_wheelOf : GoodIn wsX6_lies (va_wsS RX6 136 yX5_wheelOf wsX5_wheelOf) := goodIn_app (goodIn_of _ (by decide +kernel)) ggX6_lies_X5_wheelOf
set_option maxRecDepth 20000 in
theorem ggX6_lies_X5_slotOf : GoodIn wsX6_lies wsX5_slotOf := goodIn_r _ [20, 21] (by decide +kernel) (by decide +kernel)
set_option maxRecDepth 20000 in
theorem gX6_lies_X5_slotOf : GoodIn wsX6_lies (va_wsS RX6 142 yX5_slotOf wsX5_slotOf) := goodIn_app (goodIn_of _ (by decide +kernel)) ggX6_lies_X5_slotOf
theorem dX6_lies_0 : decode cX6_lies 0 = .ok (.aload_n 0, 1) := by decide +kernel
theorem dX6_lies_1 : decode cX6_lies 1 = .ok (.getfield 33, 3) := by decide +kernel
theorem dX6_lies_4 : decode cX6_lies 4 = .ok (.iload_n 1, 1) := by decide +kernel
theorem dX6_lies_5 : decode cX6_lies 5 = .ok (.invokevirtual 69, 3) := by decide +kernel
theorem dX6_lies_8 : decode cX6_lies 8 = .ok (.ifCond .eq 12, 3) := by decide +kernel
theorem dX6_lies_11 : decode cX6_lies 11 = .ok (.iload_n 2, 1) := by decide +kernel
theorem dX6_lies_12 : decode cX6_lies 12 = .ok (.ifCond .lt 8, 3) := by decide +kernel
theorem dX6_lies_15 : decode cX6_lies 15 = .ok (.iload_n 2, 1) := by decide +kernel
theorem dX6_lies_16 : decode cX6_lies 16 = .ok (.iconst 2, 1) := by decide +kernel
theorem dX6_lies_17 : decode cX6_lies 17 = .ok (.if_icmp .le 7, 3) := by decide +kernel
theorem dX6_lies_20 : decode cX6_lies 20 = .ok (.ldc2_w 41, 3) := by decide +kernel
theorem dX6_lies_23 : decode cX6_lies 23 = .ok (.lreturn, 1) := by decide +kernel
theorem dX6_lies_24 : decode cX6_lies 24 = .ok (.iload_n 2, 1) := by decide +kernel
theorem dX6_lies_25 : decode cX6_lies 25 = .ok (.iconst 2, 1) := by decide +kernel
theorem dX6_lies_26 : decode cX6_lies 26 = .ok (.if_icmp .ne 16, 3) := by decide +kernel
theorem dX6_lies_29 : decode cX6_lies 29 = .ok (.aload_n 0, 1) := by decide +kernel
theorem dX6_lies_30 : decode cX6_lies 30 = .ok (.getfield 33, 3) := by decide +kernel
theorem dX6_lies_33 : decode cX6_lies 33 = .ok (.getfield 65, 3) := by decide +kernel
theorem dX6_lies_36 : decode cX6_lies 36 = .ok (.bipush 11, 2) := by decide +kernel
theorem dX6_lies_38 : decode cX6_lies 38 = .ok (.aaload, 1) := by decide +kernel
theorem dX6_lies_39 : decode cX6_lies 39 = .ok (.iload_n 1, 1) := by decide +kernel
theorem dX6_lies_40 : decode cX6_lies 40 = .ok (.laload, 1) := by decide +kernel
theorem dX6_lies_41 : decode cX6_lies 41 = .ok (.lreturn, 1) := by decide +kernel
theorem dX6_lies_42 : decode cX6_lies 42 = .ok (.aload_n 0, 1) := by decide +kernel
theorem dX6_lies_43 : decode cX6_lies 43 = .ok (.getfield 33, 3) := by decide +kernel
theorem dX6_lies_46 : decode cX6_lies 46 = .ok (.getfield 65, 3) := by decide +kernel
theorem dX6_lies_49 : decode cX6_lies 49 = .ok (.iconst 2, 1) := by decide +kernel
theorem dX6_lies_50 : decode cX6_lies 50 = .ok (.aaload, 1) := by decide +kernel
theorem dX6_lies_51 : decode cX6_lies 51 = .ok (.iload_n 1, 1) := by decide +kernel
theorem dX6_lies_52 : decode cX6_lies 52 = .ok (.laload, 1) := by decide +kernel
theorem dX6_lies_53 : decode cX6_lies 53 = .ok (.lstore_n 3, 1) := by decide +kernel
theorem dX6_lies_54 : decode cX6_lies 54 = .ok (.lload_n 3, 1) := by decide +kernel
theorem dX6_lies_55 : decode cX6_lies 55 = .ok (.ldc2_w 87, 3) := by decide +kernel
theorem dX6_lies_58 : decode cX6_lies 58 = .ok (.lcmp, 1) := by decide +kernel
theorem dX6_lies_59 : decode cX6_lies 59 = .ok (.ifCond .ne 7, 3) := by decide +kernel
theorem dX6_lies_62 : decode cX6_lies 62 = .ok (.ldc2_w 87, 3) := by decide +kernel
theorem dX6_lies_65 : decode cX6_lies 65 = .ok (.lreturn, 1) := by decide +kernel
theorem dX6_lies_66 : decode cX6_lies 66 = .ok (.aload_n 0, 1) := by decide +kernel
theorem dX6_lies_67 : decode cX6_lies 67 = .ok (.getfield 33, 3) := by decide +kernel
theorem dX6_lies_70 : decode cX6_lies 70 = .ok (.getfield 108, 3) := by decide +kernel
theorem dX6_lies_73 : decode cX6_lies 73 = .ok (.lload_n 3, 1) := by decide +kernel
theorem dX6_lies_74 : decode cX6_lies 74 = .ok (.invokestatic 136, 3) := by decide +kernel
theorem dX6_lies_77 : decode cX6_lies 77 = .ok (.istore 5, 2) := by decide +kernel
theorem dX6_lies_79 : decode cX6_lies 79 = .ok (.iload_n 2, 1) := by decide +kernel
theorem dX6_lies_80 : decode cX6_lies 80 = .ok (.ifCond .ne 9, 3) := by decide +kernel
theorem dX6_lies_83 : decode cX6_lies 83 = .ok (.iload 5, 2) := by decide +kernel
theorem dX6_lies_85 : decode cX6_lies 85 = .ok (.i2l, 1) := by decide +kernel
theorem dX6_lies_86 : decode cX6_lies 86 = .ok (.goto 10, 3) := by decide +kernel
theorem dX6_lies_89 : decode cX6_lies 89 = .ok (.iload 5, 2) := by decide +kernel
theorem dX6_lies_91 : decode cX6_lies 91 = .ok (.lload_n 3, 1) := by decide +kernel
theorem dX6_lies_92 : decode cX6_lies 92 = .ok (.invokestatic 142, 3) := by decide +kernel
theorem dX6_lies_95 : decode cX6_lies 95 = .ok (.i2l, 1) := by decide +kernel
theorem dX6_lies_96 : decode cX6_lies 96 = .ok (.lreturn, 1) := by decide +kernel
set_option maxRecDepth 20000 in
theorem ggX6_bits_X5_wheelOf : GoodIn wsX6_bits wsX5_wheelOf := goodIn_r _ [10] (by decide +kernel) (by decide +kernel)
set_option maxRecDepth 20000 in
theorem gX6_bits_X5_wheelOf : GoodIn wsX6_bits (va_wsS RX6 136 yX5_wheelOf wsX5_wheelOf) := goodIn_app (goodIn_of _ (by decide +kernel)) ggX6_bits_X5_wheelOf
set_option maxRecDepth 20000 in
theorem ggX6_bits_X5_slotOf : GoodIn wsX6_bits wsX5_slotOf := goodIn_r _ [13, 14] (by decide +kernel) (by decide +kernel)
set_option maxRecDepth 20000 in
theorem gX6_bits_X5_slotOf : GoodIn wsX6_bits (va_wsS RX6 142 yX5_slotOf wsX5_slotOf) := goodIn_app (goodIn_of _ (by decide +kernel)) ggX6_bits_X5_slotOf
theorem dX6_bits_0 : decode cX6_bits 0 = .ok (.iload_n 1, 1) := by decide +kernel
theorem dX6_bits_1 : decode cX6_bits 1 = .ok (.ifCond .lt 8, 3) := by decide +kernel
theorem dX6_bits_4 : decode cX6_bits 4 = .ok (.iload_n 1, 1) := by decide +kernel
theorem dX6_bits_5 : decode cX6_bits 5 = .ok (.iconst 5, 1) := by decide +kernel
theorem dX6_bits_6 : decode cX6_bits 6 = .ok (.if_icmp .lt 7, 3) := by decide +kernel
theorem dX6_bits_9 : decode cX6_bits 9 = .ok (.ldc2_w 41, 3) := by decide +kernel
theorem dX6_bits_12 : decode cX6_bits 12 = .ok (.lreturn, 1) := by decide +kernel
theorem dX6_bits_13 : decode cX6_bits 13 = .ok (.lconst 0, 1) := by decide +kernel
theorem dX6_bits_14 : decode cX6_bits 14 = .ok (.lstore_n 2, 1) := by decide +kernel
theorem dX6_bits_15 : decode cX6_bits 15 = .ok (.iconst 0, 1) := by decide +kernel
theorem dX6_bits_16 : decode cX6_bits 16 = .ok (.istore 4, 2) := by decide +kernel
theorem dX6_bits_18 : decode cX6_bits 18 = .ok (.iload 4, 2) := by decide +kernel
theorem dX6_bits_20 : decode cX6_bits 20 = .ok (.aload_n 0, 1) := by decide +kernel
theorem dX6_bits_21 : decode cX6_bits 21 = .ok (.getfield 33, 3) := by decide +kernel
theorem dX6_bits_24 : decode cX6_bits 24 = .ok (.getfield 146, 3) := by decide +kernel
theorem dX6_bits_27 : decode cX6_bits 27 = .ok (.if_icmp .ge 59, 3) := by decide +kernel
theorem dX6_bits_30 : decode cX6_bits 30 = .ok (.aload_n 0, 1) := by decide +kernel
theorem dX6_bits_31 : decode cX6_bits 31 = .ok (.getfield 33, 3) := by decide +kernel
theorem dX6_bits_34 : decode cX6_bits 34 = .ok (.getfield 65, 3) := by decide +kernel
theorem dX6_bits_37 : decode cX6_bits 37 = .ok (.iconst 2, 1) := by decide +kernel
theorem dX6_bits_38 : decode cX6_bits 38 = .ok (.aaload, 1) := by decide +kernel
theorem dX6_bits_39 : decode cX6_bits 39 = .ok (.iload 4, 2) := by decide +kernel
theorem dX6_bits_41 : decode cX6_bits 41 = .ok (.laload, 1) := by decide +kernel
theorem dX6_bits_42 : decode cX6_bits 42 = .ok (.lstore 5, 2) := by decide +kernel
theorem dX6_bits_44 : decode cX6_bits 44 = .ok (.lload 5, 2) := by decide +kernel
theorem dX6_bits_46 : decode cX6_bits 46 = .ok (.ldc2_w 87, 3) := by decide +kernel
theorem dX6_bits_49 : decode cX6_bits 49 = .ok (.lcmp, 1) := by decide +kernel
theorem dX6_bits_50 : decode cX6_bits 50 = .ok (.ifCond .eq 30, 3) := by decide +kernel
theorem dX6_bits_53 : decode cX6_bits 53 = .ok (.aload_n 0, 1) := by decide +kernel
theorem dX6_bits_54 : decode cX6_bits 54 = .ok (.getfield 33, 3) := by decide +kernel
theorem dX6_bits_57 : decode cX6_bits 57 = .ok (.getfield 108, 3) := by decide +kernel
theorem dX6_bits_60 : decode cX6_bits 60 = .ok (.lload 5, 2) := by decide +kernel
theorem dX6_bits_62 : decode cX6_bits 62 = .ok (.invokestatic 136, 3) := by decide +kernel
theorem dX6_bits_65 : decode cX6_bits 65 = .ok (.iload_n 1, 1) := by decide +kernel
theorem dX6_bits_66 : decode cX6_bits 66 = .ok (.if_icmp .ne 14, 3) := by decide +kernel
theorem dX6_bits_69 : decode cX6_bits 69 = .ok (.lload_n 2, 1) := by decide +kernel
theorem dX6_bits_70 : decode cX6_bits 70 = .ok (.lconst 1, 1) := by decide +kernel
theorem dX6_bits_71 : decode cX6_bits 71 = .ok (.iload_n 1, 1) := by decide +kernel
theorem dX6_bits_72 : decode cX6_bits 72 = .ok (.lload 5, 2) := by decide +kernel
theorem dX6_bits_74 : decode cX6_bits 74 = .ok (.invokestatic 142, 3) := by decide +kernel
theorem dX6_bits_77 : decode cX6_bits 77 = .ok (.lshl, 1) := by decide +kernel
theorem dX6_bits_78 : decode cX6_bits 78 = .ok (.lor, 1) := by decide +kernel
theorem dX6_bits_79 : decode cX6_bits 79 = .ok (.lstore_n 2, 1) := by decide +kernel
theorem dX6_bits_80 : decode cX6_bits 80 = .ok (.iinc 4 1, 3) := by decide +kernel
theorem dX6_bits_83 : decode cX6_bits 83 = .ok (.goto (-65), 3) := by decide +kernel
theorem dX6_bits_86 : decode cX6_bits 86 = .ok (.lload_n 2, 1) := by decide +kernel
theorem dX6_bits_87 : decode cX6_bits 87 = .ok (.lreturn, 1) := by decide +kernel
set_option maxRecDepth 20000 in
theorem ggX6_many_X5_isSlot : GoodIn wsX6_many wsX5_isSlot := goodIn_r _ [7] (by decide +kernel) (by decide +kernel)
set_option maxRecDepth 20000 in
theorem gX6_many_X5_isSlot : GoodIn wsX6_many (va_wsS RX6 149 yX5_isSlot wsX5_isSlot) := goodIn_app (goodIn_of _ (by decide +kernel)) ggX6_many_X5_isSlot
set_option maxRecDepth 20000 in
theorem ggX6_many_X4_liesIn : GoodIn wsX6_many wsX4_liesIn := goodIn_r _ [12, 13, 14, 15, 16, 17, 6, 18, 19, 20, 21, 22, 27, 28, 29, 30, 31, 32, 33, 34] (by decide +kernel) (by decide +kernel)
set_option maxRecDepth 20000 in
theorem gX6_many_X4_liesIn : GoodIn wsX6_many (wsV RX6 152 RX4 yX4_liesIn wsX4_liesIn) := goodIn_app (goodIn_of _ (by decide +kernel)) ggX6_many_X4_liesIn
theorem dX6_many_0 : decode cX6_many 0 = .ok (.iload_n 1, 1) := by decide +kernel
theorem dX6_many_1 : decode cX6_many 1 = .ok (.iload_n 2, 1) := by decide +kernel
theorem dX6_many_2 : decode cX6_many 2 = .ok (.invokestatic 149, 3) := by decide +kernel
theorem dX6_many_5 : decode cX6_many 5 = .ok (.ifCond .ne 7, 3) := by decide +kernel
theorem dX6_many_8 : decode cX6_many 8 = .ok (.ldc2_w 41, 3) := by decide +kernel
theorem dX6_many_11 : decode cX6_many 11 = .ok (.lreturn, 1) := by decide +kernel
theorem dX6_many_12 : decode cX6_many 12 = .ok (.lconst 0, 1) := by decide +kernel
theorem dX6_many_13 : decode cX6_many 13 = .ok (.lstore_n 3, 1) := by decide +kernel
theorem dX6_many_14 : decode cX6_many 14 = .ok (.iconst 0, 1) := by decide +kernel
theorem dX6_many_15 : decode cX6_many 15 = .ok (.istore 5, 2) := by decide +kernel
theorem dX6_many_17 : decode cX6_many 17 = .ok (.iload 5, 2) := by decide +kernel
theorem dX6_many_19 : decode cX6_many 19 = .ok (.aload_n 0, 1) := by decide +kernel
theorem dX6_many_20 : decode cX6_many 20 = .ok (.getfield 33, 3) := by decide +kernel
theorem dX6_many_23 : decode cX6_many 23 = .ok (.getfield 146, 3) := by decide +kernel
theorem dX6_many_26 : decode cX6_many 26 = .ok (.if_icmp .ge 27, 3) := by decide +kernel
theorem dX6_many_29 : decode cX6_many 29 = .ok (.aload_n 0, 1) := by decide +kernel
theorem dX6_many_30 : decode cX6_many 30 = .ok (.getfield 33, 3) := by decide +kernel
theorem dX6_many_33 : decode cX6_many 33 = .ok (.iload 5, 2) := by decide +kernel
theorem dX6_many_35 : decode cX6_many 35 = .ok (.iload_n 1, 1) := by decide +kernel
theorem dX6_many_36 : decode cX6_many 36 = .ok (.iload_n 2, 1) := by decide +kernel
theorem dX6_many_37 : decode cX6_many 37 = .ok (.invokevirtual 152, 3) := by decide +kernel
theorem dX6_many_40 : decode cX6_many 40 = .ok (.ifCond .eq 7, 3) := by decide +kernel
theorem dX6_many_43 : decode cX6_many 43 = .ok (.lload_n 3, 1) := by decide +kernel
theorem dX6_many_44 : decode cX6_many 44 = .ok (.lconst 1, 1) := by decide +kernel
theorem dX6_many_45 : decode cX6_many 45 = .ok (.ladd, 1) := by decide +kernel
theorem dX6_many_46 : decode cX6_many 46 = .ok (.lstore_n 3, 1) := by decide +kernel
theorem dX6_many_47 : decode cX6_many 47 = .ok (.iinc 5 1, 3) := by decide +kernel
theorem dX6_many_50 : decode cX6_many 50 = .ok (.goto (-33), 3) := by decide +kernel
theorem dX6_many_53 : decode cX6_many 53 = .ok (.lload_n 3, 1) := by decide +kernel
theorem dX6_many_54 : decode cX6_many 54 = .ok (.lreturn, 1) := by decide +kernel
set_option maxRecDepth 20000 in
theorem ggX6_in_X5_isSlot : GoodIn wsX6_in wsX5_isSlot := goodIn_r _ [8] (by decide +kernel) (by decide +kernel)
set_option maxRecDepth 20000 in
theorem gX6_in_X5_isSlot : GoodIn wsX6_in (va_wsS RX6 149 yX5_isSlot wsX5_isSlot) := goodIn_app (goodIn_of _ (by decide +kernel)) ggX6_in_X5_isSlot
set_option maxRecDepth 20000 in
theorem ggX6_in_X4_liesIn : GoodIn wsX6_in wsX4_liesIn := goodIn_r _ [13, 14, 15, 16, 17, 18, 7, 19, 20, 21, 22, 23, 28, 29, 30, 31, 32, 33, 34, 35] (by decide +kernel) (by decide +kernel)
set_option maxRecDepth 20000 in
theorem gX6_in_X4_liesIn : GoodIn wsX6_in (wsV RX6 152 RX4 yX4_liesIn wsX4_liesIn) := goodIn_app (goodIn_of _ (by decide +kernel)) ggX6_in_X4_liesIn
theorem dX6_in_0 : decode cX6_in 0 = .ok (.iload_n 1, 1) := by decide +kernel
theorem dX6_in_1 : decode cX6_in 1 = .ok (.iload_n 2, 1) := by decide +kernel
theorem dX6_in_2 : decode cX6_in 2 = .ok (.invokestatic 149, 3) := by decide +kernel
theorem dX6_in_5 : decode cX6_in 5 = .ok (.ifCond .eq 7, 3) := by decide +kernel
theorem dX6_in_8 : decode cX6_in 8 = .ok (.iload_n 3, 1) := by decide +kernel
theorem dX6_in_9 : decode cX6_in 9 = .ok (.ifCond .ge 7, 3) := by decide +kernel
theorem dX6_in_12 : decode cX6_in 12 = .ok (.ldc2_w 41, 3) := by decide +kernel
theorem dX6_in_15 : decode cX6_in 15 = .ok (.lreturn, 1) := by decide +kernel
theorem dX6_in_16 : decode cX6_in 16 = .ok (.iconst 0, 1) := by decide +kernel
theorem dX6_in_17 : decode cX6_in 17 = .ok (.istore 4, 2) := by decide +kernel
theorem dX6_in_19 : decode cX6_in 19 = .ok (.iconst 0, 1) := by decide +kernel
theorem dX6_in_20 : decode cX6_in 20 = .ok (.istore 5, 2) := by decide +kernel
theorem dX6_in_22 : decode cX6_in 22 = .ok (.iload 5, 2) := by decide +kernel
theorem dX6_in_24 : decode cX6_in 24 = .ok (.aload_n 0, 1) := by decide +kernel
theorem dX6_in_25 : decode cX6_in 25 = .ok (.getfield 33, 3) := by decide +kernel
theorem dX6_in_28 : decode cX6_in 28 = .ok (.getfield 146, 3) := by decide +kernel
theorem dX6_in_31 : decode cX6_in 31 = .ok (.if_icmp .ge 36, 3) := by decide +kernel
theorem dX6_in_34 : decode cX6_in 34 = .ok (.aload_n 0, 1) := by decide +kernel
theorem dX6_in_35 : decode cX6_in 35 = .ok (.getfield 33, 3) := by decide +kernel
theorem dX6_in_38 : decode cX6_in 38 = .ok (.iload 5, 2) := by decide +kernel
theorem dX6_in_40 : decode cX6_in 40 = .ok (.iload_n 1, 1) := by decide +kernel
theorem dX6_in_41 : decode cX6_in 41 = .ok (.iload_n 2, 1) := by decide +kernel
theorem dX6_in_42 : decode cX6_in 42 = .ok (.invokevirtual 152, 3) := by decide +kernel
theorem dX6_in_45 : decode cX6_in 45 = .ok (.ifCond .eq 16, 3) := by decide +kernel
theorem dX6_in_48 : decode cX6_in 48 = .ok (.iload 4, 2) := by decide +kernel
theorem dX6_in_50 : decode cX6_in 50 = .ok (.iload_n 3, 1) := by decide +kernel
theorem dX6_in_51 : decode cX6_in 51 = .ok (.if_icmp .ne 7, 3) := by decide +kernel
theorem dX6_in_54 : decode cX6_in 54 = .ok (.iload 5, 2) := by decide +kernel
theorem dX6_in_56 : decode cX6_in 56 = .ok (.i2l, 1) := by decide +kernel
theorem dX6_in_57 : decode cX6_in 57 = .ok (.lreturn, 1) := by decide +kernel
theorem dX6_in_58 : decode cX6_in 58 = .ok (.iinc 4 1, 3) := by decide +kernel
theorem dX6_in_61 : decode cX6_in 61 = .ok (.iinc 5 1, 3) := by decide +kernel
theorem dX6_in_64 : decode cX6_in 64 = .ok (.goto (-42), 3) := by decide +kernel
theorem dX6_in_67 : decode cX6_in 67 = .ok (.ldc2_w 87, 3) := by decide +kernel
theorem dX6_in_70 : decode cX6_in 70 = .ok (.lreturn, 1) := by decide +kernel
theorem dX6_now_0 : decode cX6_now 0 = .ok (.aload_n 0, 1) := by decide +kernel
theorem dX6_now_1 : decode cX6_now 1 = .ok (.getfield 33, 3) := by decide +kernel
theorem dX6_now_4 : decode cX6_now 4 = .ok (.getfield 108, 3) := by decide +kernel
theorem dX6_now_7 : decode cX6_now 7 = .ok (.lreturn, 1) := by decide +kernel
set_option maxRecDepth 20000 in
theorem ggX6_undo_X1_takeBack : GoodIn wsX6_undo wsX1_takeBack := goodIn_r _ [9, 10, 11, 12, 17, 18, 19] (by decide +kernel) (by decide +kernel)
set_option maxRecDepth 20000 in
theorem gX6_undo_X1_takeBack : GoodIn wsX6_undo (wsV RX6 159 RX1 yX1_takeBack wsX1_takeBack) := goodIn_app (goodIn_of _ (by decide +kernel)) ggX6_undo_X1_takeBack
theorem dX6_undo_0 : decode cX6_undo 0 = .ok (.aload_n 0, 1) := by decide +kernel
theorem dX6_undo_1 : decode cX6_undo 1 = .ok (.getfield 10, 3) := by decide +kernel
theorem dX6_undo_4 : decode cX6_undo 4 = .ok (.getfield 156, 3) := by decide +kernel
theorem dX6_undo_7 : decode cX6_undo 7 = .ok (.ifCond .ne 7, 3) := by decide +kernel
theorem dX6_undo_10 : decode cX6_undo 10 = .ok (.ldc2_w 89, 3) := by decide +kernel
theorem dX6_undo_13 : decode cX6_undo 13 = .ok (.lreturn, 1) := by decide +kernel
theorem dX6_undo_14 : decode cX6_undo 14 = .ok (.aload_n 0, 1) := by decide +kernel
theorem dX6_undo_15 : decode cX6_undo 15 = .ok (.aload_n 0, 1) := by decide +kernel
theorem dX6_undo_16 : decode cX6_undo 16 = .ok (.getfield 10, 3) := by decide +kernel
theorem dX6_undo_19 : decode cX6_undo 19 = .ok (.aload_n 0, 1) := by decide +kernel
theorem dX6_undo_20 : decode cX6_undo 20 = .ok (.getfield 33, 3) := by decide +kernel
theorem dX6_undo_23 : decode cX6_undo 23 = .ok (.invokevirtual 159, 3) := by decide +kernel
theorem dX6_undo_26 : decode cX6_undo 26 = .ok (.putfield 33, 3) := by decide +kernel
theorem dX6_undo_29 : decode cX6_undo 29 = .ok (.aload_n 0, 1) := by decide +kernel
theorem dX6_undo_30 : decode cX6_undo 30 = .ok (.getfield 10, 3) := by decide +kernel
theorem dX6_undo_33 : decode cX6_undo 33 = .ok (.getfield 156, 3) := by decide +kernel
theorem dX6_undo_36 : decode cX6_undo 36 = .ok (.i2l, 1) := by decide +kernel
theorem dX6_undo_37 : decode cX6_undo 37 = .ok (.lreturn, 1) := by decide +kernel
set_option maxRecDepth 20000 in
theorem ggX6_count_X4_duesWith : GoodIn wsX6_count wsX4_duesWith := goodIn_r _ [12, 13, 14, 15, 20, 21, 22, 23, 24, 25, 26, 27] (by decide +kernel) (by decide +kernel)
set_option maxRecDepth 20000 in
theorem gX6_count_X4_duesWith : GoodIn wsX6_count (wsV RX6 163 RX4 yX4_duesWith wsX4_duesWith) := goodIn_app (goodIn_of _ (by decide +kernel)) ggX6_count_X4_duesWith
theorem dX6_count_0 : decode cX6_count 0 = .ok (.iload_n 1, 1) := by decide +kernel
theorem dX6_count_1 : decode cX6_count 1 = .ok (.tableswitch 119 0 7 #[47, 56, 65, 75, 85, 94, 102, 110], 47) := by decide +kernel
theorem dX6_count_48 : decode cX6_count 48 = .ok (.aload_n 0, 1) := by decide +kernel
theorem dX6_count_49 : decode cX6_count 49 = .ok (.getfield 33, 3) := by decide +kernel
theorem dX6_count_52 : decode cX6_count 52 = .ok (.iconst 0, 1) := by decide +kernel
theorem dX6_count_53 : decode cX6_count 53 = .ok (.invokevirtual 163, 3) := by decide +kernel
theorem dX6_count_56 : decode cX6_count 56 = .ok (.lreturn, 1) := by decide +kernel
theorem dX6_count_57 : decode cX6_count 57 = .ok (.aload_n 0, 1) := by decide +kernel
theorem dX6_count_58 : decode cX6_count 58 = .ok (.getfield 33, 3) := by decide +kernel
theorem dX6_count_61 : decode cX6_count 61 = .ok (.iconst 2, 1) := by decide +kernel
theorem dX6_count_62 : decode cX6_count 62 = .ok (.invokevirtual 163, 3) := by decide +kernel
theorem dX6_count_65 : decode cX6_count 65 = .ok (.lreturn, 1) := by decide +kernel
theorem dX6_count_66 : decode cX6_count 66 = .ok (.aload_n 0, 1) := by decide +kernel
theorem dX6_count_67 : decode cX6_count 67 = .ok (.getfield 33, 3) := by decide +kernel
theorem dX6_count_70 : decode cX6_count 70 = .ok (.bipush 6, 2) := by decide +kernel
theorem dX6_count_72 : decode cX6_count 72 = .ok (.invokevirtual 163, 3) := by decide +kernel
theorem dX6_count_75 : decode cX6_count 75 = .ok (.lreturn, 1) := by decide +kernel
theorem dX6_count_76 : decode cX6_count 76 = .ok (.aload_n 0, 1) := by decide +kernel
theorem dX6_count_77 : decode cX6_count 77 = .ok (.getfield 33, 3) := by decide +kernel
theorem dX6_count_80 : decode cX6_count 80 = .ok (.bipush 7, 2) := by decide +kernel
theorem dX6_count_82 : decode cX6_count 82 = .ok (.invokevirtual 163, 3) := by decide +kernel
theorem dX6_count_85 : decode cX6_count 85 = .ok (.lreturn, 1) := by decide +kernel
theorem dX6_count_86 : decode cX6_count 86 = .ok (.aload_n 0, 1) := by decide +kernel
theorem dX6_count_87 : decode cX6_count 87 = .ok (.getfield 33, 3) := by decide +kernel
theorem dX6_count_90 : decode cX6_count 90 = .ok (.getfield 118, 3) := by decide +kernel
theorem dX6_count_93 : decode cX6_count 93 = .ok (.i2l, 1) := by decide +kernel
theorem dX6_count_94 : decode cX6_count 94 = .ok (.lreturn, 1) := by decide +kernel
theorem dX6_count_95 : decode cX6_count 95 = .ok (.aload_n 0, 1) := by decide +kernel
theorem dX6_count_96 : decode cX6_count 96 = .ok (.getfield 33, 3) := by decide +kernel
theorem dX6_count_99 : decode cX6_count 99 = .ok (.getfield 167, 3) := by decide +kernel
theorem dX6_count_102 : decode cX6_count 102 = .ok (.lreturn, 1) := by decide +kernel
theorem dX6_count_103 : decode cX6_count 103 = .ok (.aload_n 0, 1) := by decide +kernel
theorem dX6_count_104 : decode cX6_count 104 = .ok (.getfield 33, 3) := by decide +kernel
theorem dX6_count_107 : decode cX6_count 107 = .ok (.getfield 170, 3) := by decide +kernel
theorem dX6_count_110 : decode cX6_count 110 = .ok (.lreturn, 1) := by decide +kernel
theorem dX6_count_111 : decode cX6_count 111 = .ok (.aload_n 0, 1) := by decide +kernel
theorem dX6_count_112 : decode cX6_count 112 = .ok (.getfield 10, 3) := by decide +kernel
theorem dX6_count_115 : decode cX6_count 115 = .ok (.getfield 156, 3) := by decide +kernel
theorem dX6_count_118 : decode cX6_count 118 = .ok (.i2l, 1) := by decide +kernel
theorem dX6_count_119 : decode cX6_count 119 = .ok (.lreturn, 1) := by decide +kernel
theorem dX6_count_120 : decode cX6_count 120 = .ok (.ldc2_w 41, 3) := by decide +kernel
theorem dX6_count_123 : decode cX6_count 123 = .ok (.lreturn, 1) := by decide +kernel
theorem dX6_isTickAhead_0 : decode cX6_isTickAhead 0 = .ok (.lload_n 1, 1) := by decide +kernel
theorem dX6_isTickAhead_1 : decode cX6_isTickAhead 1 = .ok (.aload_n 0, 1) := by decide +kernel
theorem dX6_isTickAhead_2 : decode cX6_isTickAhead 2 = .ok (.getfield 33, 3) := by decide +kernel
theorem dX6_isTickAhead_5 : decode cX6_isTickAhead 5 = .ok (.getfield 108, 3) := by decide +kernel
theorem dX6_isTickAhead_8 : decode cX6_isTickAhead 8 = .ok (.lcmp, 1) := by decide +kernel
theorem dX6_isTickAhead_9 : decode cX6_isTickAhead 9 = .ok (.ifCond .le 15, 3) := by decide +kernel
theorem dX6_isTickAhead_12 : decode cX6_isTickAhead 12 = .ok (.lload_n 1, 1) := by decide +kernel
theorem dX6_isTickAhead_13 : decode cX6_isTickAhead 13 = .ok (.ldc2_w 76, 3) := by decide +kernel
theorem dX6_isTickAhead_16 : decode cX6_isTickAhead 16 = .ok (.lcmp, 1) := by decide +kernel
theorem dX6_isTickAhead_17 : decode cX6_isTickAhead 17 = .ok (.ifCond .gt 7, 3) := by decide +kernel
theorem dX6_isTickAhead_20 : decode cX6_isTickAhead 20 = .ok (.iconst 1, 1) := by decide +kernel
theorem dX6_isTickAhead_21 : decode cX6_isTickAhead 21 = .ok (.goto 4, 3) := by decide +kernel
theorem dX6_isTickAhead_24 : decode cX6_isTickAhead 24 = .ok (.iconst 0, 1) := by decide +kernel
theorem dX6_isTickAhead_25 : decode cX6_isTickAhead 25 = .ok (.ireturn, 1) := by decide +kernel
theorem dX6_isSpan_0 : decode cX6_isSpan 0 = .ok (.lload_n 0, 1) := by decide +kernel
theorem dX6_isSpan_1 : decode cX6_isSpan 1 = .ok (.lconst 1, 1) := by decide +kernel
theorem dX6_isSpan_2 : decode cX6_isSpan 2 = .ok (.lcmp, 1) := by decide +kernel
theorem dX6_isSpan_3 : decode cX6_isSpan 3 = .ok (.ifCond .lt 15, 3) := by decide +kernel
theorem dX6_isSpan_6 : decode cX6_isSpan 6 = .ok (.lload_n 0, 1) := by decide +kernel
theorem dX6_isSpan_7 : decode cX6_isSpan 7 = .ok (.ldc2_w 76, 3) := by decide +kernel
theorem dX6_isSpan_10 : decode cX6_isSpan 10 = .ok (.lcmp, 1) := by decide +kernel
theorem dX6_isSpan_11 : decode cX6_isSpan 11 = .ok (.ifCond .gt 7, 3) := by decide +kernel
theorem dX6_isSpan_14 : decode cX6_isSpan 14 = .ok (.iconst 1, 1) := by decide +kernel
theorem dX6_isSpan_15 : decode cX6_isSpan 15 = .ok (.goto 4, 3) := by decide +kernel
theorem dX6_isSpan_18 : decode cX6_isSpan 18 = .ok (.iconst 0, 1) := by decide +kernel
theorem dX6_isSpan_19 : decode cX6_isSpan 19 = .ok (.ireturn, 1) := by decide +kernel
set_option maxRecDepth 20000 in
theorem ggX6_openRepeated_X6_isTickAhead : GoodIn wsX6_openRepeated wsX6_isTickAhead := goodIn_r _ [11, 3, 12, 13, 84, 85, 86, 87, 88, 89, 90, 91, 92, 93, 94, 95] (by decide +kernel) (by decide +kernel)
set_option maxRecDepth 20000 in
theorem gX6_openRepeated_X6_isTickAhead : GoodIn wsX6_openRepeated (wsV RX6 37 RX6 yX6_isTickAhead wsX6_isTickAhead) := goodIn_app (goodIn_of _ (by decide +kernel)) ggX6_openRepeated_X6_isTickAhead
set_option maxRecDepth 20000 in
theorem ggX6_openRepeated_X6_isSpan : GoodIn wsX6_openRepeated wsX6_isSpan := goodIn_r _ [16, 13] (by decide +kernel) (by decide +kernel)
set_option maxRecDepth 20000 in
theorem gX6_openRepeated_X6_isSpan : GoodIn wsX6_openRepeated (va_wsS RX6 73 yX6_isSpan wsX6_isSpan) := goodIn_app (goodIn_of _ (by decide +kernel)) ggX6_openRepeated_X6_isSpan
set_option maxRecDepth 20000 in
theorem ggX6_openRepeated_X4_isFull : GoodIn wsX6_openRepeated wsX4_isFull := goodIn_r _ [21, 22, 23, 24, 20, 25, 26, 27, 28, 88, 89, 90, 91, 92, 93, 94, 95] (by decide +kernel) (by decide +kernel)
set_option maxRecDepth 20000 in
theorem gX6_openRepeated_X4_isFull : GoodIn wsX6_openRepeated (wsV RX6 43 RX4 yX4_isFull wsX4_isFull) := goodIn_app (goodIn_of _ (by decide +kernel)) ggX6_openRepeated_X4_isFull
set_option maxRecDepth 20000 in
theorem ggX6_openRepeated_X1_keep : GoodIn wsX6_openRepeated wsX1_keep := goodIn_r _ [33, 34, 35, 36, 37, 20, 38, 39, 40, 41, 42, 43, 44, 45, 46, 47, 48, 49, 27, 50, 51, 52, 53, 54, 55, 56, 57, 58, 26, 59, 60, 61, 62, 63, 96, 97, 98, 88, 89, 90, 91, 92, 93, 94, 95] (by decide +kernel) (by decide +kernel)
set_option maxRecDepth 20000 in
theorem gX6_openRepeated_X1_keep : GoodIn wsX6_openRepeated (wsV RX6 49 RX1 yX1_keep wsX1_keep) := goodIn_app (goodIn_of _ (by decide +kernel)) ggX6_openRepeated_X1_keep
set_option maxRecDepth 20000 in
theorem ggX6_openRepeated_X4_open : GoodIn wsX6_openRepeated wsX4_open := goodIn_r _ [67, 26, 27, 22, 23, 24, 20, 25, 28, 68, 69, 70, 71, 72, 73, 74, 75, 56, 88, 89, 90, 91, 92, 93, 94, 95] (by decide +kernel) (by decide +kernel)
set_option maxRecDepth 20000 in
theorem gX6_openRepeated_X4_open : GoodIn wsX6_openRepeated (wsV RX6 53 RX4 yX4_open wsX4_open) := goodIn_app (goodIn_of _ (by decide +kernel)) ggX6_openRepeated_X4_open
set_option maxRecDepth 20000 in
theorem ggX6_openRepeated_X4_setTick : GoodIn wsX6_openRepeated wsX4_setTick := goodIn_r _ [79, 27, 80, 81, 82, 41, 83, 88, 89, 90, 91, 92, 93, 94, 95] (by decide +kernel) (by decide +kernel)
set_option maxRecDepth 20000 in
theorem gX6_openRepeated_X4_setTick : GoodIn wsX6_openRepeated (wsV RX6 57 RX4 yX4_setTick wsX4_setTick) := goodIn_app (goodIn_of _ (by decide +kernel)) ggX6_openRepeated_X4_setTick
theorem dX6_openRepeated_0 : decode cX6_openRepeated 0 = .ok (.aload_n 0, 1) := by decide +kernel
theorem dX6_openRepeated_1 : decode cX6_openRepeated 1 = .ok (.lload_n 2, 1) := by decide +kernel
theorem dX6_openRepeated_2 : decode cX6_openRepeated 2 = .ok (.invokevirtual 37, 3) := by decide +kernel
theorem dX6_openRepeated_5 : decode cX6_openRepeated 5 = .ok (.ifCond .eq 23, 3) := by decide +kernel
theorem dX6_openRepeated_8 : decode cX6_openRepeated 8 = .ok (.lload 4, 2) := by decide +kernel
theorem dX6_openRepeated_10 : decode cX6_openRepeated 10 = .ok (.invokestatic 73, 3) := by decide +kernel
theorem dX6_openRepeated_13 : decode cX6_openRepeated 13 = .ok (.ifCond .eq 15, 3) := by decide +kernel
theorem dX6_openRepeated_16 : decode cX6_openRepeated 16 = .ok (.iload 6, 2) := by decide +kernel
theorem dX6_openRepeated_18 : decode cX6_openRepeated 18 = .ok (.ifCond .lt 10, 3) := by decide +kernel
theorem dX6_openRepeated_21 : decode cX6_openRepeated 21 = .ok (.iload 6, 2) := by decide +kernel
theorem dX6_openRepeated_23 : decode cX6_openRepeated 23 = .ok (.ldc 173, 2) := by decide +kernel
theorem dX6_openRepeated_25 : decode cX6_openRepeated 25 = .ok (.if_icmp .le 7, 3) := by decide +kernel
theorem dX6_openRepeated_28 : decode cX6_openRepeated 28 = .ok (.ldc2_w 41, 3) := by decide +kernel
theorem dX6_openRepeated_31 : decode cX6_openRepeated 31 = .ok (.lreturn, 1) := by decide +kernel
theorem dX6_openRepeated_32 : decode cX6_openRepeated 32 = .ok (.aload_n 0, 1) := by decide +kernel
theorem dX6_openRepeated_33 : decode cX6_openRepeated 33 = .ok (.getfield 33, 3) := by decide +kernel
theorem dX6_openRepeated_36 : decode cX6_openRepeated 36 = .ok (.invokevirtual 43, 3) := by decide +kernel
theorem dX6_openRepeated_39 : decode cX6_openRepeated 39 = .ok (.ifCond .eq 7, 3) := by decide +kernel
theorem dX6_openRepeated_42 : decode cX6_openRepeated 42 = .ok (.ldc2_w 47, 3) := by decide +kernel
theorem dX6_openRepeated_45 : decode cX6_openRepeated 45 = .ok (.lreturn, 1) := by decide +kernel
theorem dX6_openRepeated_46 : decode cX6_openRepeated 46 = .ok (.aload_n 0, 1) := by decide +kernel
theorem dX6_openRepeated_47 : decode cX6_openRepeated 47 = .ok (.getfield 10, 3) := by decide +kernel
theorem dX6_openRepeated_50 : decode cX6_openRepeated 50 = .ok (.aload_n 0, 1) := by decide +kernel
theorem dX6_openRepeated_51 : decode cX6_openRepeated 51 = .ok (.getfield 33, 3) := by decide +kernel
theorem dX6_openRepeated_54 : decode cX6_openRepeated 54 = .ok (.invokevirtual 49, 3) := by decide +kernel
theorem dX6_openRepeated_57 : decode cX6_openRepeated 57 = .ok (.aload_n 0, 1) := by decide +kernel
theorem dX6_openRepeated_58 : decode cX6_openRepeated 58 = .ok (.getfield 33, 3) := by decide +kernel
theorem dX6_openRepeated_61 : decode cX6_openRepeated 61 = .ok (.iload_n 1, 1) := by decide +kernel
theorem dX6_openRepeated_62 : decode cX6_openRepeated 62 = .ok (.iload 7, 2) := by decide +kernel
theorem dX6_openRepeated_64 : decode cX6_openRepeated 64 = .ok (.invokevirtual 53, 3) := by decide +kernel
theorem dX6_openRepeated_67 : decode cX6_openRepeated 67 = .ok (.istore 8, 2) := by decide +kernel
theorem dX6_openRepeated_69 : decode cX6_openRepeated 69 = .ok (.aload_n 0, 1) := by decide +kernel
theorem dX6_openRepeated_70 : decode cX6_openRepeated 70 = .ok (.getfield 33, 3) := by decide +kernel
theorem dX6_openRepeated_73 : decode cX6_openRepeated 73 = .ok (.getfield 65, 3) := by decide +kernel
theorem dX6_openRepeated_76 : decode cX6_openRepeated 76 = .ok (.iconst 4, 1) := by decide +kernel
theorem dX6_openRepeated_77 : decode cX6_openRepeated 77 = .ok (.aaload, 1) := by decide +kernel
theorem dX6_openRepeated_78 : decode cX6_openRepeated 78 = .ok (.iload 8, 2) := by decide +kernel
theorem dX6_openRepeated_80 : decode cX6_openRepeated 80 = .ok (.lload 4, 2) := by decide +kernel
theorem dX6_openRepeated_82 : decode cX6_openRepeated 82 = .ok (.lastore, 1) := by decide +kernel
theorem dX6_openRepeated_83 : decode cX6_openRepeated 83 = .ok (.aload_n 0, 1) := by decide +kernel
theorem dX6_openRepeated_84 : decode cX6_openRepeated 84 = .ok (.getfield 33, 3) := by decide +kernel
theorem dX6_openRepeated_87 : decode cX6_openRepeated 87 = .ok (.getfield 65, 3) := by decide +kernel
theorem dX6_openRepeated_90 : decode cX6_openRepeated 90 = .ok (.iconst 5, 1) := by decide +kernel
theorem dX6_openRepeated_91 : decode cX6_openRepeated 91 = .ok (.aaload, 1) := by decide +kernel
theorem dX6_openRepeated_92 : decode cX6_openRepeated 92 = .ok (.iload 8, 2) := by decide +kernel
theorem dX6_openRepeated_94 : decode cX6_openRepeated 94 = .ok (.iload 6, 2) := by decide +kernel
theorem dX6_openRepeated_96 : decode cX6_openRepeated 96 = .ok (.i2l, 1) := by decide +kernel
theorem dX6_openRepeated_97 : decode cX6_openRepeated 97 = .ok (.lastore, 1) := by decide +kernel
theorem dX6_openRepeated_98 : decode cX6_openRepeated 98 = .ok (.aload_n 0, 1) := by decide +kernel
theorem dX6_openRepeated_99 : decode cX6_openRepeated 99 = .ok (.getfield 33, 3) := by decide +kernel
theorem dX6_openRepeated_102 : decode cX6_openRepeated 102 = .ok (.iload 8, 2) := by decide +kernel
theorem dX6_openRepeated_104 : decode cX6_openRepeated 104 = .ok (.lload_n 2, 1) := by decide +kernel
theorem dX6_openRepeated_105 : decode cX6_openRepeated 105 = .ok (.invokevirtual 57, 3) := by decide +kernel
theorem dX6_openRepeated_108 : decode cX6_openRepeated 108 = .ok (.iload 8, 2) := by decide +kernel
theorem dX6_openRepeated_110 : decode cX6_openRepeated 110 = .ok (.i2l, 1) := by decide +kernel
theorem dX6_openRepeated_111 : decode cX6_openRepeated 111 = .ok (.lreturn, 1) := by decide +kernel
