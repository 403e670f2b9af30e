theorem dX4_init_0 : decode cX4_init 0 = .ok (.aload_n 0, 1) := by decide +kernel
theorem dX4_init_1 : decode cX4_init 1 = .ok (.invokespecial 3, 3) := by decide +kernel
theorem dX4_init_4 : decode cX4_init 4 = .ok (.aload_n 0, 1) := by decide +kernel
theorem dX4_init_5 : decode cX4_init 5 = .ok (.bipush 12, 2) := by decide +kernel
theorem dX4_init_7 : decode cX4_init 7 = .ok (.sipush 200, 3) := by decide +kernel
theorem dX4_init_10 : decode cX4_init 10 = .ok (.multianewarray 9 2, 4) := by decide +kernel
theorem dX4_init_14 : decode cX4_init 14 = .ok (.putfield 11, 3) := by decide +kernel
theorem dX4_init_17 : decode cX4_init 17 = .ok (.aload_n 0, 1) := by decide +kernel
theorem dX4_init_18 : decode cX4_init 18 = .ok (.iconst 3, 1) := by decide +kernel
theorem dX4_init_19 : decode cX4_init 19 = .ok (.sipush 300, 3) := by decide +kernel
theorem dX4_init_22 : decode cX4_init 22 = .ok (.multianewarray 9 2, 4) := by decide +kernel
theorem dX4_init_26 : decode cX4_init 26 = .ok (.putfield 16, 3) := by decide +kernel
theorem dX4_init_29 : decode cX4_init 29 = .ok (.return_, 1) := by decide +kernel
theorem dX4_copyOf_0 : decode cX4_copyOf 0 = .ok (.aload_n 0, 1) := by decide +kernel
theorem dX4_copyOf_1 : decode cX4_copyOf 1 = .ok (.aload_n 1, 1) := by decide +kernel
theorem dX4_copyOf_2 : decode cX4_copyOf 2 = .ok (.getfield 19, 3) := by decide +kernel
theorem dX4_copyOf_5 : decode cX4_copyOf 5 = .ok (.putfield 19, 3) := by decide +kernel
theorem dX4_copyOf_8 : decode cX4_copyOf 8 = .ok (.aload_n 0, 1) := by decide +kernel
theorem dX4_copyOf_9 : decode cX4_copyOf 9 = .ok (.aload_n 1, 1) := by decide +kernel
theorem dX4_copyOf_10 : decode cX4_copyOf 10 = .ok (.getfield 23, 3) := by decide +kernel
theorem dX4_copyOf_13 : decode cX4_copyOf 13 = .ok (.putfield 23, 3) := by decide +kernel
theorem dX4_copyOf_16 : decode cX4_copyOf 16 = .ok (.aload_n 0, 1) := by decide +kernel
theorem dX4_copyOf_17 : decode cX4_copyOf 17 = .ok (.aload_n 1, 1) := by decide +kernel
theorem dX4_copyOf_18 : decode cX4_copyOf 18 = .ok (.getfield 26, 3) := by decide +kernel
theorem dX4_copyOf_21 : decode cX4_copyOf 21 = .ok (.putfield 26, 3) := by decide +kernel
theorem dX4_copyOf_24 : decode cX4_copyOf 24 = .ok (.aload_n 0, 1) := by decide +kernel
theorem dX4_copyOf_25 : decode cX4_copyOf 25 = .ok (.aload_n 1, 1) := by decide +kernel
theorem dX4_copyOf_26 : decode cX4_copyOf 26 = .ok (.getfield 29, 3) := by decide +kernel
theorem dX4_copyOf_29 : decode cX4_copyOf 29 = .ok (.putfield 29, 3) := by decide +kernel
theorem dX4_copyOf_32 : decode cX4_copyOf 32 = .ok (.aload_n 0, 1) := by decide +kernel
theorem dX4_copyOf_33 : decode cX4_copyOf 33 = .ok (.aload_n 1, 1) := by decide +kernel
theorem dX4_copyOf_34 : decode cX4_copyOf 34 = .ok (.getfield 32, 3) := by decide +kernel
theorem dX4_copyOf_37 : decode cX4_copyOf 37 = .ok (.putfield 32, 3) := by decide +kernel
theorem dX4_copyOf_40 : decode cX4_copyOf 40 = .ok (.aload_n 0, 1) := by decide +kernel
theorem dX4_copyOf_41 : decode cX4_copyOf 41 = .ok (.aload_n 1, 1) := by decide +kernel
theorem dX4_copyOf_42 : decode cX4_copyOf 42 = .ok (.getfield 36, 3) := by decide +kernel
theorem dX4_copyOf_45 : decode cX4_copyOf 45 = .ok (.putfield 36, 3) := by decide +kernel
theorem dX4_copyOf_48 : decode cX4_copyOf 48 = .ok (.iconst 0, 1) := by decide +kernel
theorem dX4_copyOf_49 : decode cX4_copyOf 49 = .ok (.istore_n 2, 1) := by decide +kernel
theorem dX4_copyOf_50 : decode cX4_copyOf 50 = .ok (.iload_n 2, 1) := by decide +kernel
theorem dX4_copyOf_51 : decode cX4_copyOf 51 = .ok (.bipush 12, 2) := by decide +kernel
theorem dX4_copyOf_53 : decode cX4_copyOf 53 = .ok (.if_icmp .ge 30, 3) := by decide +kernel
theorem dX4_copyOf_56 : decode cX4_copyOf 56 = .ok (.aload_n 1, 1) := by decide +kernel
theorem dX4_copyOf_57 : decode cX4_copyOf 57 = .ok (.getfield 11, 3) := by decide +kernel
theorem dX4_copyOf_60 : decode cX4_copyOf 60 = .ok (.iload_n 2, 1) := by decide +kernel
theorem dX4_copyOf_61 : decode cX4_copyOf 61 = .ok (.aaload, 1) := by decide +kernel
theorem dX4_copyOf_62 : decode cX4_copyOf 62 = .ok (.iconst 0, 1) := by decide +kernel
theorem dX4_copyOf_63 : decode cX4_copyOf 63 = .ok (.aload_n 0, 1) := by decide +kernel
theorem dX4_copyOf_64 : decode cX4_copyOf 64 = .ok (.getfield 11, 3) := by decide +kernel
theorem dX4_copyOf_67 : decode cX4_copyOf 67 = .ok (.iload_n 2, 1) := by decide +kernel
theorem dX4_copyOf_68 : decode cX4_copyOf 68 = .ok (.aaload, 1) := by decide +kernel
theorem dX4_copyOf_69 : decode cX4_copyOf 69 = .ok (.iconst 0, 1) := by decide +kernel
theorem dX4_copyOf_70 : decode cX4_copyOf 70 = .ok (.aload_n 0, 1) := by decide +kernel
theorem dX4_copyOf_71 : decode cX4_copyOf 71 = .ok (.getfield 32, 3) := by decide +kernel
theorem dX4_copyOf_74 : decode cX4_copyOf 74 = .ok (.invokestatic 39, 3) := by decide +kernel
theorem dX4_copyOf_77 : decode cX4_copyOf 77 = .ok (.iinc 2 1, 3) := by decide +kernel
theorem dX4_copyOf_80 : decode cX4_copyOf 80 = .ok (.goto (-30), 3) := by decide +kernel
theorem dX4_copyOf_83 : decode cX4_copyOf 83 = .ok (.iconst 0, 1) := by decide +kernel
theorem dX4_copyOf_84 : decode cX4_copyOf 84 = .ok (.istore_n 2, 1) := by decide +kernel
theorem dX4_copyOf_85 : decode cX4_copyOf 85 = .ok (.iload_n 2, 1) := by decide +kernel
theorem dX4_copyOf_86 : decode cX4_copyOf 86 = .ok (.iconst 3, 1) := by decide +kernel
theorem dX4_copyOf_87 : decode cX4_copyOf 87 = .ok (.if_icmp .ge 30, 3) := by decide +kernel
theorem dX4_copyOf_90 : decode cX4_copyOf 90 = .ok (.aload_n 1, 1) := by decide +kernel
theorem dX4_copyOf_91 : decode cX4_copyOf 91 = .ok (.getfield 16, 3) := by decide +kernel
theorem dX4_copyOf_94 : decode cX4_copyOf 94 = .ok (.iload_n 2, 1) := by decide +kernel
theorem dX4_copyOf_95 : decode cX4_copyOf 95 = .ok (.aaload, 1) := by decide +kernel
theorem dX4_copyOf_96 : decode cX4_copyOf 96 = .ok (.iconst 0, 1) := by decide +kernel
theorem dX4_copyOf_97 : decode cX4_copyOf 97 = .ok (.aload_n 0, 1) := by decide +kernel
theorem dX4_copyOf_98 : decode cX4_copyOf 98 = .ok (.getfield 16, 3) := by decide +kernel
theorem dX4_copyOf_101 : decode cX4_copyOf 101 = .ok (.iload_n 2, 1) := by decide +kernel
theorem dX4_copyOf_102 : decode cX4_copyOf 102 = .ok (.aaload, 1) := by decide +kernel
theorem dX4_copyOf_103 : decode cX4_copyOf 103 = .ok (.iconst 0, 1) := by decide +kernel
theorem dX4_copyOf_104 : decode cX4_copyOf 104 = .ok (.aload_n 0, 1) := by decide +kernel
theorem dX4_copyOf_105 : decode cX4_copyOf 105 = .ok (.getfield 36, 3) := by decide +kernel
theorem dX4_copyOf_108 : decode cX4_copyOf 108 = .ok (.invokestatic 39, 3) := by decide +kernel
theorem dX4_copyOf_111 : decode cX4_copyOf 111 = .ok (.iinc 2 1, 3) := by decide +kernel
theorem dX4_copyOf_114 : decode cX4_copyOf 114 = .ok (.goto (-29), 3) := by decide +kernel
theorem dX4_copyOf_117 : decode cX4_copyOf 117 = .ok (.return_, 1) := by decide +kernel
theorem dX4_isDue_0 : decode cX4_isDue 0 = .ok (.iload_n 1, 1) := by decide +kernel
theorem dX4_isDue_1 : decode cX4_isDue 1 = .ok (.ifCond .lt 30, 3) := by decide +kernel
theorem dX4_isDue_4 : decode cX4_isDue 4 = .ok (.iload_n 1, 1) := by decide +kernel
theorem dX4_isDue_5 : decode cX4_isDue 5 = .ok (.aload_n 0, 1) := by decide +kernel
theorem dX4_isDue_6 : decode cX4_isDue 6 = .ok (.getfield 32, 3) := by decide +kernel
theorem dX4_isDue_9 : decode cX4_isDue 9 = .ok (.if_icmp .ge 22, 3) := by decide +kernel
theorem dX4_isDue_12 : decode cX4_isDue 12 = .ok (.aload_n 0, 1) := by decide +kernel
theorem dX4_isDue_13 : decode cX4_isDue 13 = .ok (.getfield 11, 3) := by decide +kernel
theorem dX4_isDue_16 : decode cX4_isDue 16 = .ok (.iconst 0, 1) := by decide +kernel
theorem dX4_isDue_17 : decode cX4_isDue 17 = .ok (.aaload, 1) := by decide +kernel
theorem dX4_isDue_18 : decode cX4_isDue 18 = .ok (.iload_n 1, 1) := by decide +kernel
theorem dX4_isDue_19 : decode cX4_isDue 19 = .ok (.laload, 1) := by decide +kernel
theorem dX4_isDue_20 : decode cX4_isDue 20 = .ok (.ldc2_w 45, 3) := by decide +kernel
theorem dX4_isDue_23 : decode cX4_isDue 23 = .ok (.lcmp, 1) := by decide +kernel
theorem dX4_isDue_24 : decode cX4_isDue 24 = .ok (.ifCond .eq 7, 3) := by decide +kernel
theorem dX4_isDue_27 : decode cX4_isDue 27 = .ok (.iconst 1, 1) := by decide +kernel
theorem dX4_isDue_28 : decode cX4_isDue 28 = .ok (.goto 4, 3) := by decide +kernel
theorem dX4_isDue_31 : decode cX4_isDue 31 = .ok (.iconst 0, 1) := by decide +kernel
theorem dX4_isDue_32 : decode cX4_isDue 32 = .ok (.ireturn, 1) := by decide +kernel
theorem dX4_leastFree_0 : decode cX4_leastFree 0 = .ok (.iconst 0, 1) := by decide +kernel
theorem dX4_leastFree_1 : decode cX4_leastFree 1 = .ok (.istore_n 1, 1) := by decide +kernel
theorem dX4_leastFree_2 : decode cX4_leastFree 2 = .ok (.iload_n 1, 1) := by decide +kernel
theorem dX4_leastFree_3 : decode cX4_leastFree 3 = .ok (.aload_n 0, 1) := by decide +kernel
theorem dX4_leastFree_4 : decode cX4_leastFree 4 = .ok (.getfield 32, 3) := by decide +kernel
theorem dX4_leastFree_7 : decode cX4_leastFree 7 = .ok (.if_icmp .ge 26, 3) := by decide +kernel
theorem dX4_leastFree_10 : decode cX4_leastFree 10 = .ok (.aload_n 0, 1) := by decide +kernel
theorem dX4_leastFree_11 : decode cX4_leastFree 11 = .ok (.getfield 11, 3) := by decide +kernel
theorem dX4_leastFree_14 : decode cX4_leastFree 14 = .ok (.iconst 0, 1) := by decide +kernel
theorem dX4_leastFree_15 : decode cX4_leastFree 15 = .ok (.aaload, 1) := by decide +kernel
theorem dX4_leastFree_16 : decode cX4_leastFree 16 = .ok (.iload_n 1, 1) := by decide +kernel
theorem dX4_leastFree_17 : decode cX4_leastFree 17 = .ok (.laload, 1) := by decide +kernel
theorem dX4_leastFree_18 : decode cX4_leastFree 18 = .ok (.ldc2_w 45, 3) := by decide +kernel
theorem dX4_leastFree_21 : decode cX4_leastFree 21 = .ok (.lcmp, 1) := by decide +kernel
theorem dX4_leastFree_22 : decode cX4_leastFree 22 = .ok (.ifCond .ne 5, 3) := by decide +kernel
theorem dX4_leastFree_25 : decode cX4_leastFree 25 = .ok (.iload_n 1, 1) := by decide +kernel
theorem dX4_leastFree_26 : decode cX4_leastFree 26 = .ok (.ireturn, 1) := by decide +kernel
theorem dX4_leastFree_27 : decode cX4_leastFree 27 = .ok (.iinc 1 1, 3) := by decide +kernel
theorem dX4_leastFree_30 : decode cX4_leastFree 30 = .ok (.goto (-28), 3) := by decide +kernel
theorem dX4_leastFree_33 : decode cX4_leastFree 33 = .ok (.aload_n 0, 1) := by decide +kernel
theorem dX4_leastFree_34 : decode cX4_leastFree 34 = .ok (.getfield 32, 3) := by decide +kernel
theorem dX4_leastFree_37 : decode cX4_leastFree 37 = .ok (.ireturn, 1) := by decide +kernel
set_option maxRecDepth 20000 in
theorem ggX4_isFull_X4_leastFree : GoodIn wsX4_isFull wsX4_leastFree := goodIn_r _ [5, 6, 7, 8, 9, 10, 11, 12, 13, 14, 15, 16] (by decide +kernel) (by decide +kernel)
set_option maxRecDepth 20000 in
theorem gX4_isFull_X4_leastFree : GoodIn wsX4_isFull (wsV RX4 47 RX4 yX4_leastFree wsX4_leastFree) := goodIn_app (goodIn_of _ (by decide +kernel)) ggX4_isFull_X4_leastFree
theorem dX4_isFull_0 : decode cX4_isFull 0 = .ok (.aload_n 0, 1) := by decide +kernel
theorem dX4_isFull_1 : decode cX4_isFull 1 = .ok (.invokevirtual 47, 3) := by decide +kernel
theorem dX4_isFull_4 : decode cX4_isFull 4 = .ok (.sipush 200, 3) := by decide +kernel
theorem dX4_isFull_7 : decode cX4_isFull 7 = .ok (.if_icmp .lt 7, 3) := by decide +kernel
theorem dX4_isFull_10 : decode cX4_isFull 10 = .ok (.iconst 1, 1) := by decide +kernel
theorem dX4_isFull_11 : decode cX4_isFull 11 = .ok (.goto 4, 3) := by decide +kernel
theorem dX4_isFull_14 : decode cX4_isFull 14 = .ok (.iconst 0, 1) := by decide +kernel
theorem dX4_isFull_15 : decode cX4_isFull 15 = .ok (.ireturn, 1) := by decide +kernel
set_option maxRecDepth 20000 in
theorem ggX4_open_X4_leastFree : GoodIn wsX4_open wsX4_leastFree := goodIn_r _ [7, 1, 2, 8, 18, 19, 20, 21, 22, 23, 24, 25] (by decide +kernel) (by decide +kernel)
set_option maxRecDepth 20000 in
theorem gX4_open_X4_leastFree : GoodIn wsX4_open (wsV RX4 47 RX4 yX4_leastFree wsX4_leastFree) := goodIn_app (goodIn_of _ (by decide +kernel)) ggX4_open_X4_leastFree
set_option maxRecDepth 20000 in
theorem ggX4_open_X4_clear : GoodIn wsX4_open wsX4_clear := goodIn_r _ [12, 2, 8, 18, 19, 20, 21, 22, 23, 24, 25] (by decide +kernel) (by decide +kernel)
set_option maxRecDepth 20000 in
theorem gX4_open_X4_clear : GoodIn wsX4_open (wsV RX4 51 RX4 yX4_clear wsX4_clear) := goodIn_app (goodIn_of _ (by decide +kernel)) ggX4_open_X4_clear
set_option maxRecDepth 20000 in
theorem ggX4_open_X4_setPlace : GoodIn wsX4_open wsX4_setPlace := goodIn_r _ [16, 2, 17, 18, 19, 20, 21, 22, 23, 24, 25] (by decide +kernel) (by decide +kernel)
set_option maxRecDepth 20000 in
theorem gX4_open_X4_setPlace : GoodIn wsX4_open (wsV RX4 55 RX4 yX4_setPlace wsX4_setPlace) := goodIn_app (goodIn_of _ (by decide +kernel)) ggX4_open_X4_setPlace
theorem dX4_open_0 : decode cX4_open 0 = .ok (.aload_n 0, 1) := by decide +kernel
theorem dX4_open_1 : decode cX4_open 1 = .ok (.invokevirtual 47, 3) := by decide +kernel
theorem dX4_open_4 : decode cX4_open 4 = .ok (.istore_n 3, 1) := by decide +kernel
theorem dX4_open_5 : decode cX4_open 5 = .ok (.iload_n 3, 1) := by decide +kernel
theorem dX4_open_6 : decode cX4_open 6 = .ok (.aload_n 0, 1) := by decide +kernel
theorem dX4_open_7 : decode cX4_open 7 = .ok (.getfield 32, 3) := by decide +kernel
theorem dX4_open_10 : decode cX4_open 10 = .ok (.if_icmp .ne 13, 3) := by decide +kernel
theorem dX4_open_13 : decode cX4_open 13 = .ok (.aload_n 0, 1) := by decide +kernel
theorem dX4_open_14 : decode cX4_open 14 = .ok (.dup, 1) := by decide +kernel
theorem dX4_open_15 : decode cX4_open 15 = .ok (.getfield 32, 3) := by decide +kernel
theorem dX4_open_18 : decode cX4_open 18 = .ok (.iconst 1, 1) := by decide +kernel
theorem dX4_open_19 : decode cX4_open 19 = .ok (.iadd, 1) := by decide +kernel
theorem dX4_open_20 : decode cX4_open 20 = .ok (.putfield 32, 3) := by decide +kernel
theorem dX4_open_23 : decode cX4_open 23 = .ok (.aload_n 0, 1) := by decide +kernel
theorem dX4_open_24 : decode cX4_open 24 = .ok (.iload_n 3, 1) := by decide +kernel
theorem dX4_open_25 : decode cX4_open 25 = .ok (.invokevirtual 51, 3) := by decide +kernel
theorem dX4_open_28 : decode cX4_open 28 = .ok (.aload_n 0, 1) := by decide +kernel
theorem dX4_open_29 : decode cX4_open 29 = .ok (.getfield 11, 3) := by decide +kernel
theorem dX4_open_32 : decode cX4_open 32 = .ok (.iconst 0, 1) := by decide +kernel
theorem dX4_open_33 : decode cX4_open 33 = .ok (.aaload, 1) := by decide +kernel
theorem dX4_open_34 : decode cX4_open 34 = .ok (.iload_n 3, 1) := by decide +kernel
theorem dX4_open_35 : decode cX4_open 35 = .ok (.iload_n 1, 1) := by decide +kernel
theorem dX4_open_36 : decode cX4_open 36 = .ok (.i2l, 1) := by decide +kernel
theorem dX4_open_37 : decode cX4_open 37 = .ok (.lastore, 1) := by decide +kernel
theorem dX4_open_38 : decode cX4_open 38 = .ok (.aload_n 0, 1) := by decide +kernel
theorem dX4_open_39 : decode cX4_open 39 = .ok (.getfield 11, 3) := by decide +kernel
theorem dX4_open_42 : decode cX4_open 42 = .ok (.iconst 1, 1) := by decide +kernel
theorem dX4_open_43 : decode cX4_open 43 = .ok (.aaload, 1) := by decide +kernel
theorem dX4_open_44 : decode cX4_open 44 = .ok (.iload_n 3, 1) := by decide +kernel
theorem dX4_open_45 : decode cX4_open 45 = .ok (.iload_n 2, 1) := by decide +kernel
theorem dX4_open_46 : decode cX4_open 46 = .ok (.i2l, 1) := by decide +kernel
theorem dX4_open_47 : decode cX4_open 47 = .ok (.lastore, 1) := by decide +kernel
theorem dX4_open_48 : decode cX4_open 48 = .ok (.aload_n 0, 1) := by decide +kernel
theorem dX4_open_49 : decode cX4_open 49 = .ok (.iload_n 3, 1) := by decide +kernel
theorem dX4_open_50 : decode cX4_open 50 = .ok (.invokevirtual 55, 3) := by decide +kernel
theorem dX4_open_53 : decode cX4_open 53 = .ok (.iload_n 3, 1) := by decide +kernel
theorem dX4_open_54 : decode cX4_open 54 = .ok (.ireturn, 1) := by decide +kernel
set_option maxRecDepth 20000 in
theorem ggX4_close_X4_clear : GoodIn wsX4_close wsX4_clear := goodIn_r _ [8, 2, 3, 9, 10, 11, 12, 13, 14, 15, 16] (by decide +kernel) (by decide +kernel)
set_option maxRecDepth 20000 in
theorem gX4_close_X4_clear : GoodIn wsX4_close (wsV RX4 51 RX4 yX4_clear wsX4_clear) := goodIn_app (goodIn_of _ (by decide +kernel)) ggX4_close_X4_clear
theorem dX4_close_0 : decode cX4_close 0 = .ok (.aload_n 0, 1) := by decide +kernel
theorem dX4_close_1 : decode cX4_close 1 = .ok (.iload_n 1, 1) := by decide +kernel
theorem dX4_close_2 : decode cX4_close 2 = .ok (.invokevirtual 51, 3) := by decide +kernel
theorem dX4_close_5 : decode cX4_close 5 = .ok (.aload_n 0, 1) := by decide +kernel
theorem dX4_close_6 : decode cX4_close 6 = .ok (.getfield 32, 3) := by decide +kernel
theorem dX4_close_9 : decode cX4_close 9 = .ok (.iconst 1, 1) := by decide +kernel
theorem dX4_close_10 : decode cX4_close 10 = .ok (.isub, 1) := by decide +kernel
theorem dX4_close_11 : decode cX4_close 11 = .ok (.istore_n 2, 1) := by decide +kernel
theorem dX4_close_12 : decode cX4_close 12 = .ok (.iload_n 2, 1) := by decide +kernel
theorem dX4_close_13 : decode cX4_close 13 = .ok (.ifCond .lt 29, 3) := by decide +kernel
theorem dX4_close_16 : decode cX4_close 16 = .ok (.aload_n 0, 1) := by decide +kernel
theorem dX4_close_17 : decode cX4_close 17 = .ok (.getfield 11, 3) := by decide +kernel
theorem dX4_close_20 : decode cX4_close 20 = .ok (.iconst 0, 1) := by decide +kernel
theorem dX4_close_21 : decode cX4_close 21 = .ok (.aaload, 1) := by decide +kernel
theorem dX4_close_22 : decode cX4_close 22 = .ok (.iload_n 2, 1) := by decide +kernel
theorem dX4_close_23 : decode cX4_close 23 = .ok (.laload, 1) := by decide +kernel
theorem dX4_close_24 : decode cX4_close 24 = .ok (.ldc2_w 45, 3) := by decide +kernel
theorem dX4_close_27 : decode cX4_close 27 = .ok (.lcmp, 1) := by decide +kernel
theorem dX4_close_28 : decode cX4_close 28 = .ok (.ifCond .ne 14, 3) := by decide +kernel
theorem dX4_close_31 : decode cX4_close 31 = .ok (.aload_n 0, 1) := by decide +kernel
theorem dX4_close_32 : decode cX4_close 32 = .ok (.iload_n 2, 1) := by decide +kernel
theorem dX4_close_33 : decode cX4_close 33 = .ok (.putfield 32, 3) := by decide +kernel
theorem dX4_close_36 : decode cX4_close 36 = .ok (.iinc 2 (-1), 3) := by decide +kernel
theorem dX4_close_39 : decode cX4_close 39 = .ok (.goto (-27), 3) := by decide +kernel
theorem dX4_close_42 : decode cX4_close 42 = .ok (.return_, 1) := by decide +kernel
theorem dX4_clear_0 : decode cX4_clear 0 = .ok (.iconst 0, 1) := by decide +kernel
theorem dX4_clear_1 : decode cX4_clear 1 = .ok (.istore_n 2, 1) := by decide +kernel
theorem dX4_clear_2 : decode cX4_clear 2 = .ok (.iload_n 2, 1) := by decide +kernel
theorem dX4_clear_3 : decode cX4_clear 3 = .ok (.bipush 12, 2) := by decide +kernel
theorem dX4_clear_5 : decode cX4_clear 5 = .ok (.if_icmp .ge 20, 3) := by decide +kernel
theorem dX4_clear_8 : decode cX4_clear 8 = .ok (.aload_n 0, 1) := by decide +kernel
theorem dX4_clear_9 : decode cX4_clear 9 = .ok (.getfield 11, 3) := by decide +kernel
theorem dX4_clear_12 : decode cX4_clear 12 = .ok (.iload_n 2, 1) := by decide +kernel
theorem dX4_clear_13 : decode cX4_clear 13 = .ok (.aaload, 1) := by decide +kernel
theorem dX4_clear_14 : decode cX4_clear 14 = .ok (.iload_n 1, 1) := by decide +kernel
theorem dX4_clear_15 : decode cX4_clear 15 = .ok (.ldc2_w 45, 3) := by decide +kernel
theorem dX4_clear_18 : decode cX4_clear 18 = .ok (.lastore, 1) := by decide +kernel
theorem dX4_clear_19 : decode cX4_clear 19 = .ok (.iinc 2 1, 3) := by decide +kernel
theorem dX4_clear_22 : decode cX4_clear 22 = .ok (.goto (-20), 3) := by decide +kernel
theorem dX4_clear_25 : decode cX4_clear 25 = .ok (.aload_n 0, 1) := by decide +kernel
theorem dX4_clear_26 : decode cX4_clear 26 = .ok (.getfield 11, 3) := by decide +kernel
theorem dX4_clear_29 : decode cX4_clear 29 = .ok (.bipush 11, 2) := by decide +kernel
theorem dX4_clear_31 : decode cX4_clear 31 = .ok (.aaload, 1) := by decide +kernel
theorem dX4_clear_32 : decode cX4_clear 32 = .ok (.iload_n 1, 1) := by decide +kernel
theorem dX4_clear_33 : decode cX4_clear 33 = .ok (.lconst 0, 1) := by decide +kernel
theorem dX4_clear_34 : decode cX4_clear 34 = .ok (.lastore, 1) := by decide +kernel
theorem dX4_clear_35 : decode cX4_clear 35 = .ok (.return_, 1) := by decide +kernel
theorem dX4_setPlace_0 : decode cX4_setPlace 0 = .ok (.aload_n 0, 1) := by decide +kernel
theorem dX4_setPlace_1 : decode cX4_setPlace 1 = .ok (.getfield 11, 3) := by decide +kernel
theorem dX4_setPlace_4 : decode cX4_setPlace 4 = .ok (.bipush 8, 2) := by decide +kernel
theorem dX4_setPlace_6 : decode cX4_setPlace 6 = .ok (.aaload, 1) := by decide +kernel
theorem dX4_setPlace_7 : decode cX4_setPlace 7 = .ok (.iload_n 1, 1) := by decide +kernel
theorem dX4_setPlace_8 : decode cX4_setPlace 8 = .ok (.aload_n 0, 1) := by decide +kernel
theorem dX4_setPlace_9 : decode cX4_setPlace 9 = .ok (.getfield 23, 3) := by decide +kernel
theorem dX4_setPlace_12 : decode cX4_setPlace 12 = .ok (.lastore, 1) := by decide +kernel
theorem dX4_setPlace_13 : decode cX4_setPlace 13 = .ok (.aload_n 0, 1) := by decide +kernel
theorem dX4_setPlace_14 : decode cX4_setPlace 14 = .ok (.dup, 1) := by decide +kernel
theorem dX4_setPlace_15 : decode cX4_setPlace 15 = .ok (.getfield 23, 3) := by decide +kernel
theorem dX4_setPlace_18 : decode cX4_setPlace 18 = .ok (.lconst 1, 1) := by decide +kernel
theorem dX4_setPlace_19 : decode cX4_setPlace 19 = .ok (.ladd, 1) := by decide +kernel
theorem dX4_setPlace_20 : decode cX4_setPlace 20 = .ok (.putfield 23, 3) := by decide +kernel
theorem dX4_setPlace_23 : decode cX4_setPlace 23 = .ok (.return_, 1) := by decide +kernel
theorem dX4_setTick_0 : decode cX4_setTick 0 = .ok (.aload_n 0, 1) := by decide +kernel
theorem dX4_setTick_1 : decode cX4_setTick 1 = .ok (.getfield 11, 3) := by decide +kernel
theorem dX4_setTick_4 : decode cX4_setTick 4 = .ok (.iconst 2, 1) := by decide +kernel
theorem dX4_setTick_5 : decode cX4_setTick 5 = .ok (.aaload, 1) := by decide +kernel
theorem dX4_setTick_6 : decode cX4_setTick 6 = .ok (.iload_n 1, 1) := by decide +kernel
theorem dX4_setTick_7 : decode cX4_setTick 7 = .ok (.lload_n 2, 1) := by decide +kernel
theorem dX4_setTick_8 : decode cX4_setTick 8 = .ok (.ldc2_w 58, 3) := by decide +kernel
theorem dX4_setTick_11 : decode cX4_setTick 11 = .ok (.invokestatic 60, 3) := by decide +kernel
theorem dX4_setTick_14 : decode cX4_setTick 14 = .ok (.lastore, 1) := by decide +kernel
theorem dX4_setTick_15 : decode cX4_setTick 15 = .ok (.aload_n 0, 1) := by decide +kernel
theorem dX4_setTick_16 : decode cX4_setTick 16 = .ok (.getfield 11, 3) := by decide +kernel
theorem dX4_setTick_19 : decode cX4_setTick 19 = .ok (.bipush 11, 2) := by decide +kernel
theorem dX4_setTick_21 : decode cX4_setTick 21 = .ok (.aaload, 1) := by decide +kernel
theorem dX4_setTick_22 : decode cX4_setTick 22 = .ok (.iload_n 1, 1) := by decide +kernel
theorem dX4_setTick_23 : decode cX4_setTick 23 = .ok (.lconst 0, 1) := by decide +kernel
theorem dX4_setTick_24 : decode cX4_setTick 24 = .ok (.lastore, 1) := by decide +kernel
theorem dX4_setTick_25 : decode cX4_setTick 25 = .ok (.return_, 1) := by decide +kernel
theorem dX4_isBehind_0 : decode cX4_isBehind 0 = .ok (.iload_n 1, 1) := by decide +kernel
theorem dX4_isBehind_1 : decode cX4_isBehind 1 = .ok (.i2l, 1) := by decide +kernel
theorem dX4_isBehind_2 : decode cX4_isBehind 2 = .ok (.lstore_n 3, 1) := by decide +kernel
theorem dX4_isBehind_3 : decode cX4_isBehind 3 = .ok (.iconst 0, 1) := by decide +kernel
theorem dX4_isBehind_4 : decode cX4_isBehind 4 = .ok (.istore 5, 2) := by decide +kernel
theorem dX4_isBehind_6 : decode cX4_isBehind 6 = .ok (.iload 5, 2) := by decide +kernel
theorem dX4_isBehind_8 : decode cX4_isBehind 8 = .ok (.sipush 200, 3) := by decide +kernel
theorem dX4_isBehind_11 : decode cX4_isBehind 11 = .ok (.if_icmp .ge 45, 3) := by decide +kernel
theorem dX4_isBehind_14 : decode cX4_isBehind 14 = .ok (.lload_n 3, 1) := by decide +kernel
theorem dX4_isBehind_15 : decode cX4_isBehind 15 = .ok (.lconst 0, 1) := by decide +kernel
theorem dX4_isBehind_16 : decode cX4_isBehind 16 = .ok (.lcmp, 1) := by decide +kernel
theorem dX4_isBehind_17 : decode cX4_isBehind 17 = .ok (.ifCond .lt 39, 3) := by decide +kernel
theorem dX4_isBehind_20 : decode cX4_isBehind 20 = .ok (.lload_n 3, 1) := by decide +kernel
theorem dX4_isBehind_21 : decode cX4_isBehind 21 = .ok (.aload_n 0, 1) := by decide +kernel
theorem dX4_isBehind_22 : decode cX4_isBehind 22 = .ok (.getfield 32, 3) := by decide +kernel
theorem dX4_isBehind_25 : decode cX4_isBehind 25 = .ok (.i2l, 1) := by decide +kernel
theorem dX4_isBehind_26 : decode cX4_isBehind 26 = .ok (.lcmp, 1) := by decide +kernel
theorem dX4_isBehind_27 : decode cX4_isBehind 27 = .ok (.ifCond .ge 29, 3) := by decide +kernel
theorem dX4_isBehind_30 : decode cX4_isBehind 30 = .ok (.lload_n 3, 1) := by decide +kernel
theorem dX4_isBehind_31 : decode cX4_isBehind 31 = .ok (.iload_n 2, 1) := by decide +kernel
theorem dX4_isBehind_32 : decode cX4_isBehind 32 = .ok (.i2l, 1) := by decide +kernel
theorem dX4_isBehind_33 : decode cX4_isBehind 33 = .ok (.lcmp, 1) := by decide +kernel
theorem dX4_isBehind_34 : decode cX4_isBehind 34 = .ok (.ifCond .ne 5, 3) := by decide +kernel
theorem dX4_isBehind_37 : decode cX4_isBehind 37 = .ok (.iconst 1, 1) := by decide +kernel
theorem dX4_isBehind_38 : decode cX4_isBehind 38 = .ok (.ireturn, 1) := by decide +kernel
theorem dX4_isBehind_39 : decode cX4_isBehind 39 = .ok (.aload_n 0, 1) := by decide +kernel
theorem dX4_isBehind_40 : decode cX4_isBehind 40 = .ok (.getfield 11, 3) := by decide +kernel
theorem dX4_isBehind_43 : decode cX4_isBehind 43 = .ok (.bipush 6, 2) := by decide +kernel
theorem dX4_isBehind_45 : decode cX4_isBehind 45 = .ok (.aaload, 1) := by decide +kernel
theorem dX4_isBehind_46 : decode cX4_isBehind 46 = .ok (.lload_n 3, 1) := by decide +kernel
theorem dX4_isBehind_47 : decode cX4_isBehind 47 = .ok (.l2i, 1) := by decide +kernel
theorem dX4_isBehind_48 : decode cX4_isBehind 48 = .ok (.laload, 1) := by decide +kernel
theorem dX4_isBehind_49 : decode cX4_isBehind 49 = .ok (.lstore_n 3, 1) := by decide +kernel
theorem dX4_isBehind_50 : decode cX4_isBehind 50 = .ok (.iinc 5 1, 3) := by decide +kernel
theorem dX4_isBehind_53 : decode cX4_isBehind 53 = .ok (.goto (-47), 3) := by decide +kernel
theorem dX4_isBehind_56 : decode cX4_isBehind 56 = .ok (.iconst 0, 1) := by decide +kernel
theorem dX4_isBehind_57 : decode cX4_isBehind 57 = .ok (.ireturn, 1) := by decide +kernel
set_option maxRecDepth 20000 in
theorem ggX4_tellDropped_X4_setTick : GoodIn wsX4_tellDropped wsX4_setTick := goodIn_r _ [13, 2, 14, 15, 16, 7, 17, 18, 19, 20, 21, 22, 23, 24, 25] (by decide +kernel) (by decide +kernel)
set_option maxRecDepth 20000 in
theorem gX4_tellDropped_X4_setTick : GoodIn wsX4_tellDropped (wsV RX4 69 RX4 yX4_setTick wsX4_setTick) := goodIn_app (goodIn_of _ (by decide +kernel)) ggX4_tellDropped_X4_setTick
theorem dX4_tellDropped_0 : decode cX4_tellDropped 0 = .ok (.iconst 0, 1) := by decide +kernel
theorem dX4_tellDropped_1 : decode cX4_tellDropped 1 = .ok (.istore_n 2, 1) := by decide +kernel
theorem dX4_tellDropped_2 : decode cX4_tellDropped 2 = .ok (.iload_n 2, 1) := by decide +kernel
theorem dX4_tellDropped_3 : decode cX4_tellDropped 3 = .ok (.aload_n 0, 1) := by decide +kernel
theorem dX4_tellDropped_4 : decode cX4_tellDropped 4 = .ok (.getfield 32, 3) := by decide +kernel
theorem dX4_tellDropped_7 : decode cX4_tellDropped 7 = .ok (.if_icmp .ge 59, 3) := by decide +kernel
theorem dX4_tellDropped_10 : decode cX4_tellDropped 10 = .ok (.aload_n 0, 1) := by decide +kernel
theorem dX4_tellDropped_11 : decode cX4_tellDropped 11 = .ok (.getfield 11, 3) := by decide +kernel
theorem dX4_tellDropped_14 : decode cX4_tellDropped 14 = .ok (.bipush 6, 2) := by decide +kernel
theorem dX4_tellDropped_16 : decode cX4_tellDropped 16 = .ok (.aaload, 1) := by decide +kernel
theorem dX4_tellDropped_17 : decode cX4_tellDropped 17 = .ok (.iload_n 2, 1) := by decide +kernel
theorem dX4_tellDropped_18 : decode cX4_tellDropped 18 = .ok (.laload, 1) := by decide +kernel
theorem dX4_tellDropped_19 : decode cX4_tellDropped 19 = .ok (.iload_n 1, 1) := by decide +kernel
theorem dX4_tellDropped_20 : decode cX4_tellDropped 20 = .ok (.i2l, 1) := by decide +kernel
theorem dX4_tellDropped_21 : decode cX4_tellDropped 21 = .ok (.lcmp, 1) := by decide +kernel
theorem dX4_tellDropped_22 : decode cX4_tellDropped 22 = .ok (.ifCond .ne 38, 3) := by decide +kernel
theorem dX4_tellDropped_25 : decode cX4_tellDropped 25 = .ok (.aload_n 0, 1) := by decide +kernel
theorem dX4_tellDropped_26 : decode cX4_tellDropped 26 = .ok (.getfield 11, 3) := by decide +kernel
theorem dX4_tellDropped_29 : decode cX4_tellDropped 29 = .ok (.bipush 6, 2) := by decide +kernel
theorem dX4_tellDropped_31 : decode cX4_tellDropped 31 = .ok (.aaload, 1) := by decide +kernel
theorem dX4_tellDropped_32 : decode cX4_tellDropped 32 = .ok (.iload_n 2, 1) := by decide +kernel
theorem dX4_tellDropped_33 : decode cX4_tellDropped 33 = .ok (.ldc2_w 45, 3) := by decide +kernel
theorem dX4_tellDropped_36 : decode cX4_tellDropped 36 = .ok (.lastore, 1) := by decide +kernel
theorem dX4_tellDropped_37 : decode cX4_tellDropped 37 = .ok (.aload_n 0, 1) := by decide +kernel
theorem dX4_tellDropped_38 : decode cX4_tellDropped 38 = .ok (.iload_n 2, 1) := by decide +kernel
theorem dX4_tellDropped_39 : decode cX4_tellDropped 39 = .ok (.aload_n 0, 1) := by decide +kernel
theorem dX4_tellDropped_40 : decode cX4_tellDropped 40 = .ok (.getfield 11, 3) := by decide +kernel
theorem dX4_tellDropped_43 : decode cX4_tellDropped 43 = .ok (.bipush 10, 2) := by decide +kernel
theorem dX4_tellDropped_45 : decode cX4_tellDropped 45 = .ok (.aaload, 1) := by decide +kernel
theorem dX4_tellDropped_46 : decode cX4_tellDropped 46 = .ok (.iload_n 2, 1) := by decide +kernel
theorem dX4_tellDropped_47 : decode cX4_tellDropped 47 = .ok (.laload, 1) := by decide +kernel
theorem dX4_tellDropped_48 : decode cX4_tellDropped 48 = .ok (.aload_n 0, 1) := by decide +kernel
theorem dX4_tellDropped_49 : decode cX4_tellDropped 49 = .ok (.getfield 19, 3) := by decide +kernel
theorem dX4_tellDropped_52 : decode cX4_tellDropped 52 = .ok (.lconst 1, 1) := by decide +kernel
theorem dX4_tellDropped_53 : decode cX4_tellDropped 53 = .ok (.ladd, 1) := by decide +kernel
theorem dX4_tellDropped_54 : decode cX4_tellDropped 54 = .ok (.invokestatic 66, 3) := by decide +kernel
theorem dX4_tellDropped_57 : decode cX4_tellDropped 57 = .ok (.invokevirtual 69, 3) := by decide +kernel
theorem dX4_tellDropped_60 : decode cX4_tellDropped 60 = .ok (.iinc 2 1, 3) := by decide +kernel
theorem dX4_tellDropped_63 : decode cX4_tellDropped 63 = .ok (.goto (-61), 3) := by decide +kernel
theorem dX4_tellDropped_66 : decode cX4_tellDropped 66 = .ok (.return_, 1) := by decide +kernel
set_option maxRecDepth 20000 in
theorem ggX4_tellGone_X4_setTick : GoodIn wsX4_tellGone wsX4_setTick := goodIn_r _ [9, 2, 10, 11, 12, 13, 14, 15, 16, 17, 18, 19, 20, 21, 22] (by decide +kernel) (by decide +kernel)
set_option maxRecDepth 20000 in
theorem gX4_tellGone_X4_setTick : GoodIn wsX4_tellGone (wsV RX4 69 RX4 yX4_setTick wsX4_setTick) := goodIn_app (goodIn_of _ (by decide +kernel)) ggX4_tellGone_X4_setTick
theorem dX4_tellGone_0 : decode cX4_tellGone 0 = .ok (.iconst 0, 1) := by decide +kernel
theorem dX4_tellGone_1 : decode cX4_tellGone 1 = .ok (.istore_n 2, 1) := by decide +kernel
theorem dX4_tellGone_2 : decode cX4_tellGone 2 = .ok (.iload_n 2, 1) := by decide +kernel
theorem dX4_tellGone_3 : decode cX4_tellGone 3 = .ok (.aload_n 0, 1) := by decide +kernel
theorem dX4_tellGone_4 : decode cX4_tellGone 4 = .ok (.getfield 32, 3) := by decide +kernel
theorem dX4_tellGone_7 : decode cX4_tellGone 7 = .ok (.if_icmp .ge 55, 3) := by decide +kernel
theorem dX4_tellGone_10 : decode cX4_tellGone 10 = .ok (.aload_n 0, 1) := by decide +kernel
theorem dX4_tellGone_11 : decode cX4_tellGone 11 = .ok (.getfield 11, 3) := by decide +kernel
theorem dX4_tellGone_14 : decode cX4_tellGone 14 = .ok (.bipush 6, 2) := by decide +kernel
theorem dX4_tellGone_16 : decode cX4_tellGone 16 = .ok (.aaload, 1) := by decide +kernel
theorem dX4_tellGone_17 : decode cX4_tellGone 17 = .ok (.iload_n 2, 1) := by decide +kernel
theorem dX4_tellGone_18 : decode cX4_tellGone 18 = .ok (.laload, 1) := by decide +kernel
theorem dX4_tellGone_19 : decode cX4_tellGone 19 = .ok (.iload_n 1, 1) := by decide +kernel
theorem dX4_tellGone_20 : decode cX4_tellGone 20 = .ok (.i2l, 1) := by decide +kernel
theorem dX4_tellGone_21 : decode cX4_tellGone 21 = .ok (.lcmp, 1) := by decide +kernel
theorem dX4_tellGone_22 : decode cX4_tellGone 22 = .ok (.ifCond .ne 34, 3) := by decide +kernel
theorem dX4_tellGone_25 : decode cX4_tellGone 25 = .ok (.aload_n 0, 1) := by decide +kernel
theorem dX4_tellGone_26 : decode cX4_tellGone 26 = .ok (.getfield 11, 3) := by decide +kernel
theorem dX4_tellGone_29 : decode cX4_tellGone 29 = .ok (.bipush 6, 2) := by decide +kernel
theorem dX4_tellGone_31 : decode cX4_tellGone 31 = .ok (.aaload, 1) := by decide +kernel
theorem dX4_tellGone_32 : decode cX4_tellGone 32 = .ok (.iload_n 2, 1) := by decide +kernel
theorem dX4_tellGone_33 : decode cX4_tellGone 33 = .ok (.ldc2_w 45, 3) := by decide +kernel
theorem dX4_tellGone_36 : decode cX4_tellGone 36 = .ok (.lastore, 1) := by decide +kernel
theorem dX4_tellGone_37 : decode cX4_tellGone 37 = .ok (.aload_n 0, 1) := by decide +kernel
theorem dX4_tellGone_38 : decode cX4_tellGone 38 = .ok (.iload_n 2, 1) := by decide +kernel
theorem dX4_tellGone_39 : decode cX4_tellGone 39 = .ok (.aload_n 0, 1) := by decide +kernel
theorem dX4_tellGone_40 : decode cX4_tellGone 40 = .ok (.getfield 19, 3) := by decide +kernel
theorem dX4_tellGone_43 : decode cX4_tellGone 43 = .ok (.aload_n 0, 1) := by decide +kernel
theorem dX4_tellGone_44 : decode cX4_tellGone 44 = .ok (.getfield 11, 3) := by decide +kernel
theorem dX4_tellGone_47 : decode cX4_tellGone 47 = .ok (.bipush 9, 2) := by decide +kernel
theorem dX4_tellGone_49 : decode cX4_tellGone 49 = .ok (.aaload, 1) := by decide +kernel
theorem dX4_tellGone_50 : decode cX4_tellGone 50 = .ok (.iload_n 2, 1) := by decide +kernel
theorem dX4_tellGone_51 : decode cX4_tellGone 51 = .ok (.laload, 1) := by decide +kernel
theorem dX4_tellGone_52 : decode cX4_tellGone 52 = .ok (.ladd, 1) := by decide +kernel
theorem dX4_tellGone_53 : decode cX4_tellGone 53 = .ok (.invokevirtual 69, 3) := by decide +kernel
theorem dX4_tellGone_56 : decode cX4_tellGone 56 = .ok (.iinc 2 1, 3) := by decide +kernel
theorem dX4_tellGone_59 : decode cX4_tellGone 59 = .ok (.goto (-57), 3) := by decide +kernel
theorem dX4_tellGone_62 : decode cX4_tellGone 62 = .ok (.return_, 1) := by decide +kernel
theorem dX4_leastTick_0 : decode cX4_leastTick 0 = .ok (.ldc2_w 58, 3) := by decide +kernel
theorem dX4_leastTick_3 : decode cX4_leastTick 3 = .ok (.lstore_n 1, 1) := by decide +kernel
theorem dX4_leastTick_4 : decode cX4_leastTick 4 = .ok (.iconst 0, 1) := by decide +kernel
theorem dX4_leastTick_5 : decode cX4_leastTick 5 = .ok (.istore_n 3, 1) := by decide +kernel
theorem dX4_leastTick_6 : decode cX4_leastTick 6 = .ok (.iload_n 3, 1) := by decide +kernel
theorem dX4_leastTick_7 : decode cX4_leastTick 7 = .ok (.aload_n 0, 1) := by decide +kernel
theorem dX4_leastTick_8 : decode cX4_leastTick 8 = .ok (.getfield 32, 3) := by decide +kernel
theorem dX4_leastTick_11 : decode cX4_leastTick 11 = .ok (.if_icmp .ge 38, 3) := by decide +kernel
theorem dX4_leastTick_14 : decode cX4_leastTick 14 = .ok (.aload_n 0, 1) := by decide +kernel
theorem dX4_leastTick_15 : decode cX4_leastTick 15 = .ok (.getfield 11, 3) := by decide +kernel
theorem dX4_leastTick_18 : decode cX4_leastTick 18 = .ok (.iconst 2, 1) := by decide +kernel
theorem dX4_leastTick_19 : decode cX4_leastTick 19 = .ok (.aaload, 1) := by decide +kernel
theorem dX4_leastTick_20 : decode cX4_leastTick 20 = .ok (.iload_n 3, 1) := by decide +kernel
theorem dX4_leastTick_21 : decode cX4_leastTick 21 = .ok (.laload, 1) := by decide +kernel
theorem dX4_leastTick_22 : decode cX4_leastTick 22 = .ok (.lstore 4, 2) := by decide +kernel
theorem dX4_leastTick_24 : decode cX4_leastTick 24 = .ok (.lload 4, 2) := by decide +kernel
theorem dX4_leastTick_26 : decode cX4_leastTick 26 = .ok (.ldc2_w 45, 3) := by decide +kernel
theorem dX4_leastTick_29 : decode cX4_leastTick 29 = .ok (.lcmp, 1) := by decide +kernel
theorem dX4_leastTick_30 : decode cX4_leastTick 30 = .ok (.ifCond .eq 13, 3) := by decide +kernel
theorem dX4_leastTick_33 : decode cX4_leastTick 33 = .ok (.lload 4, 2) := by decide +kernel
theorem dX4_leastTick_35 : decode cX4_leastTick 35 = .ok (.lload_n 1, 1) := by decide +kernel
theorem dX4_leastTick_36 : decode cX4_leastTick 36 = .ok (.lcmp, 1) := by decide +kernel
theorem dX4_leastTick_37 : decode cX4_leastTick 37 = .ok (.ifCond .ge 6, 3) := by decide +kernel
theorem dX4_leastTick_40 : decode cX4_leastTick 40 = .ok (.lload 4, 2) := by decide +kernel
theorem dX4_leastTick_42 : decode cX4_leastTick 42 = .ok (.lstore_n 1, 1) := by decide +kernel
theorem dX4_leastTick_43 : decode cX4_leastTick 43 = .ok (.iinc 3 1, 3) := by decide +kernel
theorem dX4_leastTick_46 : decode cX4_leastTick 46 = .ok (.goto (-40), 3) := by decide +kernel
theorem dX4_leastTick_49 : decode cX4_leastTick 49 = .ok (.lload_n 1, 1) := by decide +kernel
theorem dX4_leastTick_50 : decode cX4_leastTick 50 = .ok (.ldc2_w 58, 3) := by decide +kernel
theorem dX4_leastTick_53 : decode cX4_leastTick 53 = .ok (.lcmp, 1) := by decide +kernel
theorem dX4_leastTick_54 : decode cX4_leastTick 54 = .ok (.ifCond .ge 7, 3) := by decide +kernel
theorem dX4_leastTick_57 : decode cX4_leastTick 57 = .ok (.lload_n 1, 1) := by decide +kernel
theorem dX4_leastTick_58 : decode cX4_leastTick 58 = .ok (.goto 6, 3) := by decide +kernel
theorem dX4_leastTick_61 : decode cX4_leastTick 61 = .ok (.ldc2_w 45, 3) := by decide +kernel
theorem dX4_leastTick_64 : decode cX4_leastTick 64 = .ok (.lreturn, 1) := by decide +kernel
set_option maxRecDepth 20000 in
theorem ggX4_liesIn_X5_wheelOf : GoodIn wsX4_liesIn wsX5_wheelOf := goodIn_r _ [7] (by decide +kernel) (by decide +kernel)
set_option maxRecDepth 20000 in
theorem gX4_liesIn_X5_wheelOf : GoodIn wsX4_liesIn (va_wsS RX4 73 yX5_wheelOf wsX5_wheelOf) := goodIn_app (goodIn_of _ (by decide +kernel)) ggX4_liesIn_X5_wheelOf
set_option maxRecDepth 20000 in
theorem ggX4_liesIn_X5_slotOf : GoodIn wsX4_liesIn wsX5_slotOf := goodIn_r _ [10, 11] (by decide +kernel) (by decide +kernel)
set_option maxRecDepth 20000 in
theorem gX4_liesIn_X5_slotOf : GoodIn wsX4_liesIn (va_wsS RX4 79 yX5_slotOf wsX5_slotOf) := goodIn_app (goodIn_of _ (by decide +kernel)) ggX4_liesIn_X5_slotOf
theorem dX4_liesIn_0 : decode cX4_liesIn 0 = .ok (.aload_n 0, 1) := by decide +kernel
theorem dX4_liesIn_1 : decode cX4_liesIn 1 = .ok (.getfield 11, 3) := by decide +kernel
theorem dX4_liesIn_4 : decode cX4_liesIn 4 = .ok (.iconst 2, 1) := by decide +kernel
theorem dX4_liesIn_5 : decode cX4_liesIn 5 = .ok (.aaload, 1) := by decide +kernel
theorem dX4_liesIn_6 : decode cX4_liesIn 6 = .ok (.iload_n 1, 1) := by decide +kernel
theorem dX4_liesIn_7 : decode cX4_liesIn 7 = .ok (.laload, 1) := by decide +kernel
theorem dX4_liesIn_8 : decode cX4_liesIn 8 = .ok (.lstore 4, 2) := by decide +kernel
theorem dX4_liesIn_10 : decode cX4_liesIn 10 = .ok (.lload 4, 2) := by decide +kernel
theorem dX4_liesIn_12 : decode cX4_liesIn 12 = .ok (.ldc2_w 45, 3) := by decide +kernel
theorem dX4_liesIn_15 : decode cX4_liesIn 15 = .ok (.lcmp, 1) := by decide +kernel
theorem dX4_liesIn_16 : decode cX4_liesIn 16 = .ok (.ifCond .eq 30, 3) := by decide +kernel
theorem dX4_liesIn_19 : decode cX4_liesIn 19 = .ok (.aload_n 0, 1) := by decide +kernel
theorem dX4_liesIn_20 : decode cX4_liesIn 20 = .ok (.getfield 19, 3) := by decide +kernel
theorem dX4_liesIn_23 : decode cX4_liesIn 23 = .ok (.lload 4, 2) := by decide +kernel
theorem dX4_liesIn_25 : decode cX4_liesIn 25 = .ok (.invokestatic 73, 3) := by decide +kernel
theorem dX4_liesIn_28 : decode cX4_liesIn 28 = .ok (.iload_n 2, 1) := by decide +kernel
theorem dX4_liesIn_29 : decode cX4_liesIn 29 = .ok (.if_icmp .ne 17, 3) := by decide +kernel
theorem dX4_liesIn_32 : decode cX4_liesIn 32 = .ok (.iload_n 2, 1) := by decide +kernel
theorem dX4_liesIn_33 : decode cX4_liesIn 33 = .ok (.lload 4, 2) := by decide +kernel
theorem dX4_liesIn_35 : decode cX4_liesIn 35 = .ok (.invokestatic 79, 3) := by decide +kernel
theorem dX4_liesIn_38 : decode cX4_liesIn 38 = .ok (.iload_n 3, 1) := by decide +kernel
theorem dX4_liesIn_39 : decode cX4_liesIn 39 = .ok (.if_icmp .ne 7, 3) := by decide +kernel
theorem dX4_liesIn_42 : decode cX4_liesIn 42 = .ok (.iconst 1, 1) := by decide +kernel
theorem dX4_liesIn_43 : decode cX4_liesIn 43 = .ok (.goto 4, 3) := by decide +kernel
theorem dX4_liesIn_46 : decode cX4_liesIn 46 = .ok (.iconst 0, 1) := by decide +kernel
theorem dX4_liesIn_47 : decode cX4_liesIn 47 = .ok (.ireturn, 1) := by decide +kernel
theorem dX4_duesWith_0 : decode cX4_duesWith 0 = .ok (.lconst 0, 1) := by decide +kernel
theorem dX4_duesWith_1 : decode cX4_duesWith 1 = .ok (.lstore_n 2, 1) := by decide +kernel
theorem dX4_duesWith_2 : decode cX4_duesWith 2 = .ok (.iconst 0, 1) := by decide +kernel
theorem dX4_duesWith_3 : decode cX4_duesWith 3 = .ok (.istore 4, 2) := by decide +kernel
theorem dX4_duesWith_5 : decode cX4_duesWith 5 = .ok (.iload 4, 2) := by decide +kernel
theorem dX4_duesWith_7 : decode cX4_duesWith 7 = .ok (.aload_n 0, 1) := by decide +kernel
theorem dX4_duesWith_8 : decode cX4_duesWith 8 = .ok (.getfield 32, 3) := by decide +kernel
theorem dX4_duesWith_11 : decode cX4_duesWith 11 = .ok (.if_icmp .ge 29, 3) := by decide +kernel
theorem dX4_duesWith_14 : decode cX4_duesWith 14 = .ok (.aload_n 0, 1) := by decide +kernel
theorem dX4_duesWith_15 : decode cX4_duesWith 15 = .ok (.getfield 11, 3) := by decide +kernel
theorem dX4_duesWith_18 : decode cX4_duesWith 18 = .ok (.iload_n 1, 1) := by decide +kernel
theorem dX4_duesWith_19 : decode cX4_duesWith 19 = .ok (.aaload, 1) := by decide +kernel
theorem dX4_duesWith_20 : decode cX4_duesWith 20 = .ok (.iload 4, 2) := by decide +kernel
theorem dX4_duesWith_22 : decode cX4_duesWith 22 = .ok (.laload, 1) := by decide +kernel
theorem dX4_duesWith_23 : decode cX4_duesWith 23 = .ok (.ldc2_w 45, 3) := by decide +kernel
theorem dX4_duesWith_26 : decode cX4_duesWith 26 = .ok (.lcmp, 1) := by decide +kernel
theorem dX4_duesWith_27 : decode cX4_duesWith 27 = .ok (.ifCond .eq 7, 3) := by decide +kernel
theorem dX4_duesWith_30 : decode cX4_duesWith 30 = .ok (.lload_n 2, 1) := by decide +kernel
theorem dX4_duesWith_31 : decode cX4_duesWith 31 = .ok (.lconst 1, 1) := by decide +kernel
theorem dX4_duesWith_32 : decode cX4_duesWith 32 = .ok (.ladd, 1) := by decide +kernel
theorem dX4_duesWith_33 : decode cX4_duesWith 33 = .ok (.lstore_n 2, 1) := by decide +kernel
theorem dX4_duesWith_34 : decode cX4_duesWith 34 = .ok (.iinc 4 1, 3) := by decide +kernel
theorem dX4_duesWith_37 : decode cX4_duesWith 37 = .ok (.goto (-32), 3) := by decide +kernel
theorem dX4_duesWith_40 : decode cX4_duesWith 40 = .ok (.lload_n 2, 1) := by decide +kernel
theorem dX4_duesWith_41 : decode cX4_duesWith 41 = .ok (.lreturn, 1) := by decide +kernel
