theorem dX7_init_0 : decode cX7_init 0 = .ok (.aload_n 0, 1) := by decide +kernel
theorem dX7_init_1 : decode cX7_init 1 = .ok (.invokespecial 1, 3) := by decide +kernel
theorem dX7_init_4 : decode cX7_init 4 = .ok (.aload_n 0, 1) := by decide +kernel
theorem dX7_init_5 : decode cX7_init 5 = .ok (.sipush 3705, 3) := by decide +kernel
theorem dX7_init_8 : decode cX7_init 8 = .ok (.newarray .long, 2) := by decide +kernel
theorem dX7_init_10 : decode cX7_init 10 = .ok (.putfield 7, 3) := by decide +kernel
theorem dX7_init_13 : decode cX7_init 13 = .ok (.aload_n 0, 1) := by decide +kernel
theorem dX7_init_14 : decode cX7_init 14 = .ok (.sipush 22230, 3) := by decide +kernel
theorem dX7_init_17 : decode cX7_init 17 = .ok (.newarray .long, 2) := by decide +kernel
theorem dX7_init_19 : decode cX7_init 19 = .ok (.putfield 13, 3) := by decide +kernel
theorem dX7_init_22 : decode cX7_init 22 = .ok (.aload_n 0, 1) := by decide +kernel
theorem dX7_init_23 : decode cX7_init 23 = .ok (.sipush 200, 3) := by decide +kernel
theorem dX7_init_26 : decode cX7_init 26 = .ok (.newarray .int, 2) := by decide +kernel
theorem dX7_init_28 : decode cX7_init 28 = .ok (.putfield 16, 3) := by decide +kernel
theorem dX7_init_31 : decode cX7_init 31 = .ok (.aload_n 0, 1) := by decide +kernel
theorem dX7_init_32 : decode cX7_init 32 = .ok (.sipush 200, 3) := by decide +kernel
theorem dX7_init_35 : decode cX7_init 35 = .ok (.newarray .int, 2) := by decide +kernel
theorem dX7_init_37 : decode cX7_init 37 = .ok (.putfield 20, 3) := by decide +kernel
theorem dX7_init_40 : decode cX7_init 40 = .ok (.aload_n 0, 1) := by decide +kernel
theorem dX7_init_41 : decode cX7_init 41 = .ok (.sipush 200, 3) := by decide +kernel
theorem dX7_init_44 : decode cX7_init 44 = .ok (.newarray .long, 2) := by decide +kernel
theorem dX7_init_46 : decode cX7_init 46 = .ok (.putfield 23, 3) := by decide +kernel
theorem dX7_init_49 : decode cX7_init 49 = .ok (.aload_n 0, 1) := by decide +kernel
theorem dX7_init_50 : decode cX7_init 50 = .ok (.sipush 200, 3) := by decide +kernel
theorem dX7_init_53 : decode cX7_init 53 = .ok (.newarray .boolean, 2) := by decide +kernel
theorem dX7_init_55 : decode cX7_init 55 = .ok (.putfield 26, 3) := by decide +kernel
theorem dX7_init_58 : decode cX7_init 58 = .ok (.aload_n 0, 1) := by decide +kernel
theorem dX7_init_59 : decode cX7_init 59 = .ok (.iconst 0, 1) := by decide +kernel
theorem dX7_init_60 : decode cX7_init 60 = .ok (.putfield 30, 3) := by decide +kernel
theorem dX7_init_63 : decode cX7_init 63 = .ok (.return_, 1) := by decide +kernel
theorem dX7_isIn_0 : decode cX7_isIn 0 = .ok (.lload_n 0, 1) := by decide +kernel
theorem dX7_isIn_1 : decode cX7_isIn 1 = .ok (.lload_n 2, 1) := by decide +kernel
theorem dX7_isIn_2 : decode cX7_isIn 2 = .ok (.lcmp, 1) := by decide +kernel
theorem dX7_isIn_3 : decode cX7_isIn 3 = .ok (.ifCond .lt 14, 3) := by decide +kernel
theorem dX7_isIn_6 : decode cX7_isIn 6 = .ok (.lload_n 0, 1) := by decide +kernel
theorem dX7_isIn_7 : decode cX7_isIn 7 = .ok (.lload 4, 2) := by decide +kernel
theorem dX7_isIn_9 : decode cX7_isIn 9 = .ok (.lcmp, 1) := by decide +kernel
theorem dX7_isIn_10 : decode cX7_isIn 10 = .ok (.ifCond .gt 7, 3) := by decide +kernel
theorem dX7_isIn_13 : decode cX7_isIn 13 = .ok (.iconst 1, 1) := by decide +kernel
theorem dX7_isIn_14 : decode cX7_isIn 14 = .ok (.goto 4, 3) := by decide +kernel
theorem dX7_isIn_17 : decode cX7_isIn 17 = .ok (.iconst 0, 1) := by decide +kernel
theorem dX7_isIn_18 : decode cX7_isIn 18 = .ok (.ireturn, 1) := by decide +kernel
theorem dX7_get_0 : decode cX7_get 0 = .ok (.aload_n 0, 1) := by decide +kernel
theorem dX7_get_1 : decode cX7_get 1 = .ok (.getfield 7, 3) := by decide +kernel
theorem dX7_get_4 : decode cX7_get 4 = .ok (.bipush 14, 2) := by decide +kernel
theorem dX7_get_6 : decode cX7_get 6 = .ok (.iload_n 1, 1) := by decide +kernel
theorem dX7_get_7 : decode cX7_get 7 = .ok (.imul, 1) := by decide +kernel
theorem dX7_get_8 : decode cX7_get 8 = .ok (.iload_n 2, 1) := by decide +kernel
theorem dX7_get_9 : decode cX7_get 9 = .ok (.iadd, 1) := by decide +kernel
theorem dX7_get_10 : decode cX7_get 10 = .ok (.laload, 1) := by decide +kernel
theorem dX7_get_11 : decode cX7_get 11 = .ok (.lreturn, 1) := by decide +kernel
theorem dX7_put_0 : decode cX7_put 0 = .ok (.aload_n 0, 1) := by decide +kernel
theorem dX7_put_1 : decode cX7_put 1 = .ok (.getfield 7, 3) := by decide +kernel
theorem dX7_put_4 : decode cX7_put 4 = .ok (.bipush 14, 2) := by decide +kernel
theorem dX7_put_6 : decode cX7_put 6 = .ok (.iload_n 1, 1) := by decide +kernel
theorem dX7_put_7 : decode cX7_put 7 = .ok (.imul, 1) := by decide +kernel
theorem dX7_put_8 : decode cX7_put 8 = .ok (.iload_n 2, 1) := by decide +kernel
theorem dX7_put_9 : decode cX7_put 9 = .ok (.iadd, 1) := by decide +kernel
theorem dX7_put_10 : decode cX7_put 10 = .ok (.lload_n 3, 1) := by decide +kernel
theorem dX7_put_11 : decode cX7_put 11 = .ok (.lastore, 1) := by decide +kernel
theorem dX7_put_12 : decode cX7_put 12 = .ok (.return_, 1) := by decide +kernel
set_option maxRecDepth 20000 in
theorem ggX7_isDue_X7_isIn : GoodIn wsX7_isDue wsX7_isIn := goodIn_r _ [5] (by decide +kernel) (by decide +kernel)
set_option maxRecDepth 20000 in
theorem gX7_isDue_X7_isIn : GoodIn wsX7_isDue (va_wsS RX7 36 yX7_isIn wsX7_isIn) := goodIn_app (goodIn_of _ (by decide +kernel)) ggX7_isDue_X7_isIn
set_option maxRecDepth 20000 in
theorem ggX7_isDue_X7_get : GoodIn wsX7_isDue wsX7_get := goodIn_r _ [9, 10, 11, 12, 13, 14, 15, 16, 17, 18, 19] (by decide +kernel) (by decide +kernel)
set_option maxRecDepth 20000 in
theorem gX7_isDue_X7_get : GoodIn wsX7_isDue (wsV RX7 40 RX7 yX7_get wsX7_get) := goodIn_app (goodIn_of _ (by decide +kernel)) ggX7_isDue_X7_get
theorem dX7_isDue_0 : decode cX7_isDue 0 = .ok (.iload_n 1, 1) := by decide +kernel
theorem dX7_isDue_1 : decode cX7_isDue 1 = .ok (.i2l, 1) := by decide +kernel
theorem dX7_isDue_2 : decode cX7_isDue 2 = .ok (.lconst 0, 1) := by decide +kernel
theorem dX7_isDue_3 : decode cX7_isDue 3 = .ok (.ldc2_w 34, 3) := by decide +kernel
theorem dX7_isDue_6 : decode cX7_isDue 6 = .ok (.invokestatic 36, 3) := by decide +kernel
theorem dX7_isDue_9 : decode cX7_isDue 9 = .ok (.ifCond .eq 18, 3) := by decide +kernel
theorem dX7_isDue_12 : decode cX7_isDue 12 = .ok (.aload_n 0, 1) := by decide +kernel
theorem dX7_isDue_13 : decode cX7_isDue 13 = .ok (.iload_n 1, 1) := by decide +kernel
theorem dX7_isDue_14 : decode cX7_isDue 14 = .ok (.iconst 0, 1) := by decide +kernel
theorem dX7_isDue_15 : decode cX7_isDue 15 = .ok (.invokevirtual 40, 3) := by decide +kernel
theorem dX7_isDue_18 : decode cX7_isDue 18 = .ok (.lconst 1, 1) := by decide +kernel
theorem dX7_isDue_19 : decode cX7_isDue 19 = .ok (.lcmp, 1) := by decide +kernel
theorem dX7_isDue_20 : decode cX7_isDue 20 = .ok (.ifCond .ne 7, 3) := by decide +kernel
theorem dX7_isDue_23 : decode cX7_isDue 23 = .ok (.iconst 1, 1) := by decide +kernel
theorem dX7_isDue_24 : decode cX7_isDue 24 = .ok (.goto 4, 3) := by decide +kernel
theorem dX7_isDue_27 : decode cX7_isDue 27 = .ok (.iconst 0, 1) := by decide +kernel
theorem dX7_isDue_28 : decode cX7_isDue 28 = .ok (.ireturn, 1) := by decide +kernel
set_option maxRecDepth 20000 in
theorem ggX7_hasTick_X7_isDue : GoodIn wsX7_hasTick wsX7_isDue := goodIn_r _ [6, 7, 8, 9, 5, 10, 11, 12, 13, 14, 15, 16, 17, 18, 19, 20, 21, 22, 23, 24] (by decide +kernel) (by decide +kernel)
set_option maxRecDepth 20000 in
theorem gX7_hasTick_X7_isDue : GoodIn wsX7_hasTick (wsV RX7 44 RX7 yX7_isDue wsX7_isDue) := goodIn_app (goodIn_of _ (by decide +kernel)) ggX7_hasTick_X7_isDue
set_option maxRecDepth 20000 in
theorem ggX7_hasTick_X7_get : GoodIn wsX7_hasTick wsX7_get := goodIn_r _ [14, 15, 16, 17, 18, 19, 20, 21, 22, 23, 24] (by decide +kernel) (by decide +kernel)
set_option maxRecDepth 20000 in
theorem gX7_hasTick_X7_get : GoodIn wsX7_hasTick (wsV RX7 40 RX7 yX7_get wsX7_get) := goodIn_app (goodIn_of _ (by decide +kernel)) ggX7_hasTick_X7_get
theorem dX7_hasTick_0 : decode cX7_hasTick 0 = .ok (.aload_n 0, 1) := by decide +kernel
theorem dX7_hasTick_1 : decode cX7_hasTick 1 = .ok (.iload_n 1, 1) := by decide +kernel
theorem dX7_hasTick_2 : decode cX7_hasTick 2 = .ok (.invokevirtual 44, 3) := by decide +kernel
theorem dX7_hasTick_5 : decode cX7_hasTick 5 = .ok (.ifCond .eq 20, 3) := by decide +kernel
theorem dX7_hasTick_8 : decode cX7_hasTick 8 = .ok (.aload_n 0, 1) := by decide +kernel
theorem dX7_hasTick_9 : decode cX7_hasTick 9 = .ok (.iload_n 1, 1) := by decide +kernel
theorem dX7_hasTick_10 : decode cX7_hasTick 10 = .ok (.iconst 3, 1) := by decide +kernel
theorem dX7_hasTick_11 : decode cX7_hasTick 11 = .ok (.invokevirtual 40, 3) := by decide +kernel
theorem dX7_hasTick_14 : decode cX7_hasTick 14 = .ok (.ldc2_w 48, 3) := by decide +kernel
theorem dX7_hasTick_17 : decode cX7_hasTick 17 = .ok (.lcmp, 1) := by decide +kernel
theorem dX7_hasTick_18 : decode cX7_hasTick 18 = .ok (.ifCond .eq 7, 3) := by decide +kernel
theorem dX7_hasTick_21 : decode cX7_hasTick 21 = .ok (.iconst 1, 1) := by decide +kernel
theorem dX7_hasTick_22 : decode cX7_hasTick 22 = .ok (.goto 4, 3) := by decide +kernel
theorem dX7_hasTick_25 : decode cX7_hasTick 25 = .ok (.iconst 0, 1) := by decide +kernel
theorem dX7_hasTick_26 : decode cX7_hasTick 26 = .ok (.ireturn, 1) := by decide +kernel
set_option maxRecDepth 20000 in
theorem ggX7_waits_X7_isDue : GoodIn wsX7_waits wsX7_isDue := goodIn_r _ [6, 7, 8, 9, 5, 10, 11, 12, 13, 14, 15, 16, 17, 18, 19, 20, 21, 22, 23, 24] (by decide +kernel) (by decide +kernel)
set_option maxRecDepth 20000 in
theorem gX7_waits_X7_isDue : GoodIn wsX7_waits (wsV RX7 44 RX7 yX7_isDue wsX7_isDue) := goodIn_app (goodIn_of _ (by decide +kernel)) ggX7_waits_X7_isDue
set_option maxRecDepth 20000 in
theorem ggX7_waits_X7_get : GoodIn wsX7_waits wsX7_get := goodIn_r _ [14, 15, 16, 17, 18, 19, 20, 21, 22, 23, 24] (by decide +kernel) (by decide +kernel)
set_option maxRecDepth 20000 in
theorem gX7_waits_X7_get : GoodIn wsX7_waits (wsV RX7 40 RX7 yX7_get wsX7_get) := goodIn_app (goodIn_of _ (by decide +kernel)) ggX7_waits_X7_get
theorem dX7_waits_0 : decode cX7_waits 0 = .ok (.aload_n 0, 1) := by decide +kernel
theorem dX7_waits_1 : decode cX7_waits 1 = .ok (.iload_n 1, 1) := by decide +kernel
theorem dX7_waits_2 : decode cX7_waits 2 = .ok (.invokevirtual 44, 3) := by decide +kernel
theorem dX7_waits_5 : decode cX7_waits 5 = .ok (.ifCond .eq 21, 3) := by decide +kernel
theorem dX7_waits_8 : decode cX7_waits 8 = .ok (.aload_n 0, 1) := by decide +kernel
theorem dX7_waits_9 : decode cX7_waits 9 = .ok (.iload_n 1, 1) := by decide +kernel
theorem dX7_waits_10 : decode cX7_waits 10 = .ok (.bipush 7, 2) := by decide +kernel
theorem dX7_waits_12 : decode cX7_waits 12 = .ok (.invokevirtual 40, 3) := by decide +kernel
theorem dX7_waits_15 : decode cX7_waits 15 = .ok (.ldc2_w 48, 3) := by decide +kernel
theorem dX7_waits_18 : decode cX7_waits 18 = .ok (.lcmp, 1) := by decide +kernel
theorem dX7_waits_19 : decode cX7_waits 19 = .ok (.ifCond .eq 7, 3) := by decide +kernel
theorem dX7_waits_22 : decode cX7_waits 22 = .ok (.iconst 1, 1) := by decide +kernel
theorem dX7_waits_23 : decode cX7_waits 23 = .ok (.goto 4, 3) := by decide +kernel
theorem dX7_waits_26 : decode cX7_waits 26 = .ok (.iconst 0, 1) := by decide +kernel
theorem dX7_waits_27 : decode cX7_waits 27 = .ok (.ireturn, 1) := by decide +kernel
set_option maxRecDepth 20000 in
theorem ggX7_rests_X7_isDue : GoodIn wsX7_rests wsX7_isDue := goodIn_r _ [6, 7, 8, 9, 5, 10, 11, 12, 13, 14, 15, 16, 17, 18, 19, 20, 21, 22, 23, 24] (by decide +kernel) (by decide +kernel)
set_option maxRecDepth 20000 in
theorem gX7_rests_X7_isDue : GoodIn wsX7_rests (wsV RX7 44 RX7 yX7_isDue wsX7_isDue) := goodIn_app (goodIn_of _ (by decide +kernel)) ggX7_rests_X7_isDue
set_option maxRecDepth 20000 in
theorem ggX7_rests_X7_get : GoodIn wsX7_rests wsX7_get := goodIn_r _ [14, 15, 16, 17, 18, 19, 20, 21, 22, 23, 24] (by decide +kernel) (by decide +kernel)
set_option maxRecDepth 20000 in
theorem gX7_rests_X7_get : GoodIn wsX7_rests (wsV RX7 40 RX7 yX7_get wsX7_get) := goodIn_app (goodIn_of _ (by decide +kernel)) ggX7_rests_X7_get
theorem dX7_rests_0 : decode cX7_rests 0 = .ok (.aload_n 0, 1) := by decide +kernel
theorem dX7_rests_1 : decode cX7_rests 1 = .ok (.iload_n 1, 1) := by decide +kernel
theorem dX7_rests_2 : decode cX7_rests 2 = .ok (.invokevirtual 44, 3) := by decide +kernel
theorem dX7_rests_5 : decode cX7_rests 5 = .ok (.ifCond .eq 21, 3) := by decide +kernel
theorem dX7_rests_8 : decode cX7_rests 8 = .ok (.aload_n 0, 1) := by decide +kernel
theorem dX7_rests_9 : decode cX7_rests 9 = .ok (.iload_n 1, 1) := by decide +kernel
theorem dX7_rests_10 : decode cX7_rests 10 = .ok (.bipush 10, 2) := by decide +kernel
theorem dX7_rests_12 : decode cX7_rests 12 = .ok (.invokevirtual 40, 3) := by decide +kernel
theorem dX7_rests_15 : decode cX7_rests 15 = .ok (.ldc2_w 48, 3) := by decide +kernel
theorem dX7_rests_18 : decode cX7_rests 18 = .ok (.lcmp, 1) := by decide +kernel
theorem dX7_rests_19 : decode cX7_rests 19 = .ok (.ifCond .eq 7, 3) := by decide +kernel
theorem dX7_rests_22 : decode cX7_rests 22 = .ok (.iconst 1, 1) := by decide +kernel
theorem dX7_rests_23 : decode cX7_rests 23 = .ok (.goto 4, 3) := by decide +kernel
theorem dX7_rests_26 : decode cX7_rests 26 = .ok (.iconst 0, 1) := by decide +kernel
theorem dX7_rests_27 : decode cX7_rests 27 = .ok (.ireturn, 1) := by decide +kernel
theorem dX7_keep_0 : decode cX7_keep 0 = .ok (.aload_n 0, 1) := by decide +kernel
theorem dX7_keep_1 : decode cX7_keep 1 = .ok (.getfield 30, 3) := by decide +kernel
theorem dX7_keep_4 : decode cX7_keep 4 = .ok (.bipush 6, 2) := by decide +kernel
theorem dX7_keep_6 : decode cX7_keep 6 = .ok (.if_icmp .ne 44, 3) := by decide +kernel
theorem dX7_keep_9 : decode cX7_keep 9 = .ok (.iconst 0, 1) := by decide +kernel
theorem dX7_keep_10 : decode cX7_keep 10 = .ok (.istore_n 1, 1) := by decide +kernel
theorem dX7_keep_11 : decode cX7_keep 11 = .ok (.iload_n 1, 1) := by decide +kernel
theorem dX7_keep_12 : decode cX7_keep 12 = .ok (.sipush 18525, 3) := by decide +kernel
theorem dX7_keep_15 : decode cX7_keep 15 = .ok (.if_icmp .ge 25, 3) := by decide +kernel
theorem dX7_keep_18 : decode cX7_keep 18 = .ok (.aload_n 0, 1) := by decide +kernel
theorem dX7_keep_19 : decode cX7_keep 19 = .ok (.getfield 13, 3) := by decide +kernel
theorem dX7_keep_22 : decode cX7_keep 22 = .ok (.iload_n 1, 1) := by decide +kernel
theorem dX7_keep_23 : decode cX7_keep 23 = .ok (.aload_n 0, 1) := by decide +kernel
theorem dX7_keep_24 : decode cX7_keep 24 = .ok (.getfield 13, 3) := by decide +kernel
theorem dX7_keep_27 : decode cX7_keep 27 = .ok (.iload_n 1, 1) := by decide +kernel
theorem dX7_keep_28 : decode cX7_keep 28 = .ok (.sipush 3705, 3) := by decide +kernel
theorem dX7_keep_31 : decode cX7_keep 31 = .ok (.iadd, 1) := by decide +kernel
theorem dX7_keep_32 : decode cX7_keep 32 = .ok (.laload, 1) := by decide +kernel
theorem dX7_keep_33 : decode cX7_keep 33 = .ok (.lastore, 1) := by decide +kernel
theorem dX7_keep_34 : decode cX7_keep 34 = .ok (.iinc 1 1, 3) := by decide +kernel
theorem dX7_keep_37 : decode cX7_keep 37 = .ok (.goto (-26), 3) := by decide +kernel
theorem dX7_keep_40 : decode cX7_keep 40 = .ok (.aload_n 0, 1) := by decide +kernel
theorem dX7_keep_41 : decode cX7_keep 41 = .ok (.dup, 1) := by decide +kernel
theorem dX7_keep_42 : decode cX7_keep 42 = .ok (.getfield 30, 3) := by decide +kernel
theorem dX7_keep_45 : decode cX7_keep 45 = .ok (.iconst 1, 1) := by decide +kernel
theorem dX7_keep_46 : decode cX7_keep 46 = .ok (.isub, 1) := by decide +kernel
theorem dX7_keep_47 : decode cX7_keep 47 = .ok (.putfield 30, 3) := by decide +kernel
theorem dX7_keep_50 : decode cX7_keep 50 = .ok (.iconst 0, 1) := by decide +kernel
theorem dX7_keep_51 : decode cX7_keep 51 = .ok (.istore_n 1, 1) := by decide +kernel
theorem dX7_keep_52 : decode cX7_keep 52 = .ok (.iload_n 1, 1) := by decide +kernel
theorem dX7_keep_53 : decode cX7_keep 53 = .ok (.sipush 3705, 3) := by decide +kernel
theorem dX7_keep_56 : decode cX7_keep 56 = .ok (.if_icmp .ge 30, 3) := by decide +kernel
theorem dX7_keep_59 : decode cX7_keep 59 = .ok (.aload_n 0, 1) := by decide +kernel
theorem dX7_keep_60 : decode cX7_keep 60 = .ok (.getfield 13, 3) := by decide +kernel
theorem dX7_keep_63 : decode cX7_keep 63 = .ok (.sipush 3705, 3) := by decide +kernel
theorem dX7_keep_66 : decode cX7_keep 66 = .ok (.aload_n 0, 1) := by decide +kernel
theorem dX7_keep_67 : decode cX7_keep 67 = .ok (.getfield 30, 3) := by decide +kernel
theorem dX7_keep_70 : decode cX7_keep 70 = .ok (.imul, 1) := by decide +kernel
theorem dX7_keep_71 : decode cX7_keep 71 = .ok (.iload_n 1, 1) := by decide +kernel
theorem dX7_keep_72 : decode cX7_keep 72 = .ok (.iadd, 1) := by decide +kernel
theorem dX7_keep_73 : decode cX7_keep 73 = .ok (.aload_n 0, 1) := by decide +kernel
theorem dX7_keep_74 : decode cX7_keep 74 = .ok (.getfield 7, 3) := by decide +kernel
theorem dX7_keep_77 : decode cX7_keep 77 = .ok (.iload_n 1, 1) := by decide +kernel
theorem dX7_keep_78 : decode cX7_keep 78 = .ok (.laload, 1) := by decide +kernel
theorem dX7_keep_79 : decode cX7_keep 79 = .ok (.lastore, 1) := by decide +kernel
theorem dX7_keep_80 : decode cX7_keep 80 = .ok (.iinc 1 1, 3) := by decide +kernel
theorem dX7_keep_83 : decode cX7_keep 83 = .ok (.goto (-31), 3) := by decide +kernel
theorem dX7_keep_86 : decode cX7_keep 86 = .ok (.aload_n 0, 1) := by decide +kernel
theorem dX7_keep_87 : decode cX7_keep 87 = .ok (.dup, 1) := by decide +kernel
theorem dX7_keep_88 : decode cX7_keep 88 = .ok (.getfield 30, 3) := by decide +kernel
theorem dX7_keep_91 : decode cX7_keep 91 = .ok (.iconst 1, 1) := by decide +kernel
theorem dX7_keep_92 : decode cX7_keep 92 = .ok (.iadd, 1) := by decide +kernel
theorem dX7_keep_93 : decode cX7_keep 93 = .ok (.putfield 30, 3) := by decide +kernel
theorem dX7_keep_96 : decode cX7_keep 96 = .ok (.return_, 1) := by decide +kernel
theorem dX7_undo_0 : decode cX7_undo 0 = .ok (.aload_n 0, 1) := by decide +kernel
theorem dX7_undo_1 : decode cX7_undo 1 = .ok (.getfield 30, 3) := by decide +kernel
theorem dX7_undo_4 : decode cX7_undo 4 = .ok (.ifCond .ne 7, 3) := by decide +kernel
theorem dX7_undo_7 : decode cX7_undo 7 = .ok (.ldc2_w 50, 3) := by decide +kernel
theorem dX7_undo_10 : decode cX7_undo 10 = .ok (.lreturn, 1) := by decide +kernel
theorem dX7_undo_11 : decode cX7_undo 11 = .ok (.aload_n 0, 1) := by decide +kernel
theorem dX7_undo_12 : decode cX7_undo 12 = .ok (.dup, 1) := by decide +kernel
theorem dX7_undo_13 : decode cX7_undo 13 = .ok (.getfield 30, 3) := by decide +kernel
theorem dX7_undo_16 : decode cX7_undo 16 = .ok (.iconst 1, 1) := by decide +kernel
theorem dX7_undo_17 : decode cX7_undo 17 = .ok (.isub, 1) := by decide +kernel
theorem dX7_undo_18 : decode cX7_undo 18 = .ok (.putfield 30, 3) := by decide +kernel
theorem dX7_undo_21 : decode cX7_undo 21 = .ok (.iconst 0, 1) := by decide +kernel
theorem dX7_undo_22 : decode cX7_undo 22 = .ok (.istore_n 1, 1) := by decide +kernel
theorem dX7_undo_23 : decode cX7_undo 23 = .ok (.iload_n 1, 1) := by decide +kernel
theorem dX7_undo_24 : decode cX7_undo 24 = .ok (.sipush 3705, 3) := by decide +kernel
theorem dX7_undo_27 : decode cX7_undo 27 = .ok (.if_icmp .ge 30, 3) := by decide +kernel
theorem dX7_undo_30 : decode cX7_undo 30 = .ok (.aload_n 0, 1) := by decide +kernel
theorem dX7_undo_31 : decode cX7_undo 31 = .ok (.getfield 7, 3) := by decide +kernel
theorem dX7_undo_34 : decode cX7_undo 34 = .ok (.iload_n 1, 1) := by decide +kernel
theorem dX7_undo_35 : decode cX7_undo 35 = .ok (.aload_n 0, 1) := by decide +kernel
theorem dX7_undo_36 : decode cX7_undo 36 = .ok (.getfield 13, 3) := by decide +kernel
theorem dX7_undo_39 : decode cX7_undo 39 = .ok (.sipush 3705, 3) := by decide +kernel
theorem dX7_undo_42 : decode cX7_undo 42 = .ok (.aload_n 0, 1) := by decide +kernel
theorem dX7_undo_43 : decode cX7_undo 43 = .ok (.getfield 30, 3) := by decide +kernel
theorem dX7_undo_46 : decode cX7_undo 46 = .ok (.imul, 1) := by decide +kernel
theorem dX7_undo_47 : decode cX7_undo 47 = .ok (.iload_n 1, 1) := by decide +kernel
theorem dX7_undo_48 : decode cX7_undo 48 = .ok (.iadd, 1) := by decide +kernel
theorem dX7_undo_49 : decode cX7_undo 49 = .ok (.laload, 1) := by decide +kernel
theorem dX7_undo_50 : decode cX7_undo 50 = .ok (.lastore, 1) := by decide +kernel
theorem dX7_undo_51 : decode cX7_undo 51 = .ok (.iinc 1 1, 3) := by decide +kernel
theorem dX7_undo_54 : decode cX7_undo 54 = .ok (.goto (-31), 3) := by decide +kernel
theorem dX7_undo_57 : decode cX7_undo 57 = .ok (.aload_n 0, 1) := by decide +kernel
theorem dX7_undo_58 : decode cX7_undo 58 = .ok (.getfield 30, 3) := by decide +kernel
theorem dX7_undo_61 : decode cX7_undo 61 = .ok (.i2l, 1) := by decide +kernel
theorem dX7_undo_62 : decode cX7_undo 62 = .ok (.lreturn, 1) := by decide +kernel
set_option maxRecDepth 20000 in
theorem ggX7_freeOne_X7_get : GoodIn wsX7_freeOne wsX7_get := goodIn_r _ [5, 6, 7, 8, 9, 10, 11, 12, 13, 14, 15] (by decide +kernel) (by decide +kernel)
set_option maxRecDepth 20000 in
theorem gX7_freeOne_X7_get : GoodIn wsX7_freeOne (wsV RX7 40 RX7 yX7_get wsX7_get) := goodIn_app (goodIn_of _ (by decide +kernel)) ggX7_freeOne_X7_get
theorem dX7_freeOne_0 : decode cX7_freeOne 0 = .ok (.iconst 0, 1) := by decide +kernel
theorem dX7_freeOne_1 : decode cX7_freeOne 1 = .ok (.istore_n 1, 1) := by decide +kernel
theorem dX7_freeOne_2 : decode cX7_freeOne 2 = .ok (.iload_n 1, 1) := by decide +kernel
theorem dX7_freeOne_3 : decode cX7_freeOne 3 = .ok (.sipush 200, 3) := by decide +kernel
theorem dX7_freeOne_6 : decode cX7_freeOne 6 = .ok (.if_icmp .ge 20, 3) := by decide +kernel
theorem dX7_freeOne_9 : decode cX7_freeOne 9 = .ok (.aload_n 0, 1) := by decide +kernel
theorem dX7_freeOne_10 : decode cX7_freeOne 10 = .ok (.iload_n 1, 1) := by decide +kernel
theorem dX7_freeOne_11 : decode cX7_freeOne 11 = .ok (.iconst 0, 1) := by decide +kernel
theorem dX7_freeOne_12 : decode cX7_freeOne 12 = .ok (.invokevirtual 40, 3) := by decide +kernel
theorem dX7_freeOne_15 : decode cX7_freeOne 15 = .ok (.lconst 1, 1) := by decide +kernel
theorem dX7_freeOne_16 : decode cX7_freeOne 16 = .ok (.lcmp, 1) := by decide +kernel
theorem dX7_freeOne_17 : decode cX7_freeOne 17 = .ok (.ifCond .ne 9, 3) := by decide +kernel
theorem dX7_freeOne_20 : decode cX7_freeOne 20 = .ok (.iinc 1 1, 3) := by decide +kernel
theorem dX7_freeOne_23 : decode cX7_freeOne 23 = .ok (.goto (-21), 3) := by decide +kernel
theorem dX7_freeOne_26 : decode cX7_freeOne 26 = .ok (.iload_n 1, 1) := by decide +kernel
theorem dX7_freeOne_27 : decode cX7_freeOne 27 = .ok (.ireturn, 1) := by decide +kernel
set_option maxRecDepth 20000 in
theorem ggX7_line_X7_put : GoodIn wsX7_line wsX7_put := goodIn_r _ [6, 1, 7, 8, 9, 10, 11, 12, 13, 14, 15] (by decide +kernel) (by decide +kernel)
set_option maxRecDepth 20000 in
theorem gX7_line_X7_put : GoodIn wsX7_line (wsV RX7 52 RX7 yX7_put wsX7_put) := goodIn_app (goodIn_of _ (by decide +kernel)) ggX7_line_X7_put
theorem dX7_line_0 : decode cX7_line 0 = .ok (.aload_n 0, 1) := by decide +kernel
theorem dX7_line_1 : decode cX7_line 1 = .ok (.iload_n 1, 1) := by decide +kernel
theorem dX7_line_2 : decode cX7_line 2 = .ok (.bipush 11, 2) := by decide +kernel
theorem dX7_line_4 : decode cX7_line 4 = .ok (.aload_n 0, 1) := by decide +kernel
theorem dX7_line_5 : decode cX7_line 5 = .ok (.getfield 7, 3) := by decide +kernel
theorem dX7_line_8 : decode cX7_line 8 = .ok (.sipush 3701, 3) := by decide +kernel
theorem dX7_line_11 : decode cX7_line 11 = .ok (.laload, 1) := by decide +kernel
theorem dX7_line_12 : decode cX7_line 12 = .ok (.invokevirtual 52, 3) := by decide +kernel
theorem dX7_line_15 : decode cX7_line 15 = .ok (.aload_n 0, 1) := by decide +kernel
theorem dX7_line_16 : decode cX7_line 16 = .ok (.getfield 7, 3) := by decide +kernel
theorem dX7_line_19 : decode cX7_line 19 = .ok (.sipush 3701, 3) := by decide +kernel
theorem dX7_line_22 : decode cX7_line 22 = .ok (.dup2, 1) := by decide +kernel
theorem dX7_line_23 : decode cX7_line 23 = .ok (.laload, 1) := by decide +kernel
theorem dX7_line_24 : decode cX7_line 24 = .ok (.lconst 1, 1) := by decide +kernel
theorem dX7_line_25 : decode cX7_line 25 = .ok (.ladd, 1) := by decide +kernel
theorem dX7_line_26 : decode cX7_line 26 = .ok (.lastore, 1) := by decide +kernel
theorem dX7_line_27 : decode cX7_line 27 = .ok (.return_, 1) := by decide +kernel
set_option maxRecDepth 20000 in
theorem ggX7_tick_X7_put : GoodIn wsX7_tick wsX7_put := goodIn_r _ [5, 6, 7, 8, 9, 10, 11, 12, 13, 14, 15] (by decide +kernel) (by decide +kernel)
set_option maxRecDepth 20000 in
theorem gX7_tick_X7_put : GoodIn wsX7_tick (wsV RX7 52 RX7 yX7_put wsX7_put) := goodIn_app (goodIn_of _ (by decide +kernel)) ggX7_tick_X7_put
theorem dX7_tick_0 : decode cX7_tick 0 = .ok (.aload_n 0, 1) := by decide +kernel
theorem dX7_tick_1 : decode cX7_tick 1 = .ok (.iload_n 1, 1) := by decide +kernel
theorem dX7_tick_2 : decode cX7_tick 2 = .ok (.iconst 3, 1) := by decide +kernel
theorem dX7_tick_3 : decode cX7_tick 3 = .ok (.lload_n 2, 1) := by decide +kernel
theorem dX7_tick_4 : decode cX7_tick 4 = .ok (.invokevirtual 52, 3) := by decide +kernel
theorem dX7_tick_7 : decode cX7_tick 7 = .ok (.aload_n 0, 1) := by decide +kernel
theorem dX7_tick_8 : decode cX7_tick 8 = .ok (.iload_n 1, 1) := by decide +kernel
theorem dX7_tick_9 : decode cX7_tick 9 = .ok (.bipush 12, 2) := by decide +kernel
theorem dX7_tick_11 : decode cX7_tick 11 = .ok (.lconst 0, 1) := by decide +kernel
theorem dX7_tick_12 : decode cX7_tick 12 = .ok (.invokevirtual 52, 3) := by decide +kernel
theorem dX7_tick_15 : decode cX7_tick 15 = .ok (.return_, 1) := by decide +kernel
set_option maxRecDepth 20000 in
theorem ggX7_set_X7_freeOne : GoodIn wsX7_set wsX7_freeOne := goodIn_r _ [6, 7, 8, 9, 5, 10, 11, 26, 27, 28, 29, 30, 31, 32, 33, 34] (by decide +kernel) (by decide +kernel)
set_option maxRecDepth 20000 in
theorem gX7_set_X7_freeOne : GoodIn wsX7_set (wsV RX7 56 RX7 yX7_freeOne wsX7_freeOne) := goodIn_app (goodIn_of _ (by decide +kernel)) ggX7_set_X7_freeOne
set_option maxRecDepth 20000 in
theorem ggX7_set_X7_keep : GoodIn wsX7_set wsX7_keep := goodIn_r _ [15, 16, 17, 11, 26, 27, 28, 29, 30, 31, 32, 33, 34] (by decide +kernel) (by decide +kernel)
set_option maxRecDepth 20000 in
theorem gX7_set_X7_keep : GoodIn wsX7_set (wsV RX7 60 RX7 yX7_keep wsX7_keep) := goodIn_app (goodIn_of _ (by decide +kernel)) ggX7_set_X7_keep
set_option maxRecDepth 20000 in
theorem ggX7_set_X7_put : GoodIn wsX7_set wsX7_put := goodIn_r _ [21, 11, 26, 27, 28, 29, 30, 31, 32, 33, 34] (by decide +kernel) (by decide +kernel)
set_option maxRecDepth 20000 in
theorem gX7_set_X7_put : GoodIn wsX7_set (wsV RX7 52 RX7 yX7_put wsX7_put) := goodIn_app (goodIn_of _ (by decide +kernel)) ggX7_set_X7_put
set_option maxRecDepth 20000 in
theorem ggX7_set_X7_line : GoodIn wsX7_set wsX7_line := goodIn_r _ [25, 11, 18, 19, 20, 5, 21, 26, 27, 28, 29, 30, 31, 32, 33, 34] (by decide +kernel) (by decide +kernel)
set_option maxRecDepth 20000 in
theorem gX7_set_X7_line : GoodIn wsX7_set (wsV RX7 63 RX7 yX7_line wsX7_line) := goodIn_app (goodIn_of _ (by decide +kernel)) ggX7_set_X7_line
theorem dX7_set_0 : decode cX7_set 0 = .ok (.aload_n 0, 1) := by decide +kernel
theorem dX7_set_1 : decode cX7_set 1 = .ok (.invokevirtual 56, 3) := by decide +kernel
theorem dX7_set_4 : decode cX7_set 4 = .ok (.istore_n 3, 1) := by decide +kernel
theorem dX7_set_5 : decode cX7_set 5 = .ok (.aload_n 0, 1) := by decide +kernel
theorem dX7_set_6 : decode cX7_set 6 = .ok (.invokevirtual 60, 3) := by decide +kernel
theorem dX7_set_9 : decode cX7_set 9 = .ok (.aload_n 0, 1) := by decide +kernel
theorem dX7_set_10 : decode cX7_set 10 = .ok (.iload_n 3, 1) := by decide +kernel
theorem dX7_set_11 : decode cX7_set 11 = .ok (.iconst 0, 1) := by decide +kernel
theorem dX7_set_12 : decode cX7_set 12 = .ok (.lconst 1, 1) := by decide +kernel
theorem dX7_set_13 : decode cX7_set 13 = .ok (.invokevirtual 52, 3) := by decide +kernel
theorem dX7_set_16 : decode cX7_set 16 = .ok (.aload_n 0, 1) := by decide +kernel
theorem dX7_set_17 : decode cX7_set 17 = .ok (.iload_n 3, 1) := by decide +kernel
theorem dX7_set_18 : decode cX7_set 18 = .ok (.iconst 1, 1) := by decide +kernel
theorem dX7_set_19 : decode cX7_set 19 = .ok (.iload_n 1, 1) := by decide +kernel
theorem dX7_set_20 : decode cX7_set 20 = .ok (.i2l, 1) := by decide +kernel
theorem dX7_set_21 : decode cX7_set 21 = .ok (.invokevirtual 52, 3) := by decide +kernel
theorem dX7_set_24 : decode cX7_set 24 = .ok (.aload_n 0, 1) := by decide +kernel
theorem dX7_set_25 : decode cX7_set 25 = .ok (.iload_n 3, 1) := by decide +kernel
theorem dX7_set_26 : decode cX7_set 26 = .ok (.iconst 2, 1) := by decide +kernel
theorem dX7_set_27 : decode cX7_set 27 = .ok (.iload_n 2, 1) := by decide +kernel
theorem dX7_set_28 : decode cX7_set 28 = .ok (.i2l, 1) := by decide +kernel
theorem dX7_set_29 : decode cX7_set 29 = .ok (.invokevirtual 52, 3) := by decide +kernel
theorem dX7_set_32 : decode cX7_set 32 = .ok (.aload_n 0, 1) := by decide +kernel
theorem dX7_set_33 : decode cX7_set 33 = .ok (.iload_n 3, 1) := by decide +kernel
theorem dX7_set_34 : decode cX7_set 34 = .ok (.iconst 3, 1) := by decide +kernel
theorem dX7_set_35 : decode cX7_set 35 = .ok (.ldc2_w 48, 3) := by decide +kernel
theorem dX7_set_38 : decode cX7_set 38 = .ok (.invokevirtual 52, 3) := by decide +kernel
theorem dX7_set_41 : decode cX7_set 41 = .ok (.aload_n 0, 1) := by decide +kernel
theorem dX7_set_42 : decode cX7_set 42 = .ok (.iload_n 3, 1) := by decide +kernel
theorem dX7_set_43 : decode cX7_set 43 = .ok (.iconst 4, 1) := by decide +kernel
theorem dX7_set_44 : decode cX7_set 44 = .ok (.ldc2_w 48, 3) := by decide +kernel
theorem dX7_set_47 : decode cX7_set 47 = .ok (.invokevirtual 52, 3) := by decide +kernel
theorem dX7_set_50 : decode cX7_set 50 = .ok (.aload_n 0, 1) := by decide +kernel
theorem dX7_set_51 : decode cX7_set 51 = .ok (.iload_n 3, 1) := by decide +kernel
theorem dX7_set_52 : decode cX7_set 52 = .ok (.iconst 5, 1) := by decide +kernel
theorem dX7_set_53 : decode cX7_set 53 = .ok (.ldc2_w 48, 3) := by decide +kernel
theorem dX7_set_56 : decode cX7_set 56 = .ok (.invokevirtual 52, 3) := by decide +kernel
theorem dX7_set_59 : decode cX7_set 59 = .ok (.aload_n 0, 1) := by decide +kernel
theorem dX7_set_60 : decode cX7_set 60 = .ok (.iload_n 3, 1) := by decide +kernel
theorem dX7_set_61 : decode cX7_set 61 = .ok (.bipush 6, 2) := by decide +kernel
theorem dX7_set_63 : decode cX7_set 63 = .ok (.ldc2_w 48, 3) := by decide +kernel
theorem dX7_set_66 : decode cX7_set 66 = .ok (.invokevirtual 52, 3) := by decide +kernel
theorem dX7_set_69 : decode cX7_set 69 = .ok (.aload_n 0, 1) := by decide +kernel
theorem dX7_set_70 : decode cX7_set 70 = .ok (.iload_n 3, 1) := by decide +kernel
theorem dX7_set_71 : decode cX7_set 71 = .ok (.bipush 7, 2) := by decide +kernel
theorem dX7_set_73 : decode cX7_set 73 = .ok (.ldc2_w 48, 3) := by decide +kernel
theorem dX7_set_76 : decode cX7_set 76 = .ok (.invokevirtual 52, 3) := by decide +kernel
theorem dX7_set_79 : decode cX7_set 79 = .ok (.aload_n 0, 1) := by decide +kernel
theorem dX7_set_80 : decode cX7_set 80 = .ok (.iload_n 3, 1) := by decide +kernel
theorem dX7_set_81 : decode cX7_set 81 = .ok (.bipush 8, 2) := by decide +kernel
theorem dX7_set_83 : decode cX7_set 83 = .ok (.lconst 0, 1) := by decide +kernel
theorem dX7_set_84 : decode cX7_set 84 = .ok (.invokevirtual 52, 3) := by decide +kernel
theorem dX7_set_87 : decode cX7_set 87 = .ok (.aload_n 0, 1) := by decide +kernel
theorem dX7_set_88 : decode cX7_set 88 = .ok (.iload_n 3, 1) := by decide +kernel
theorem dX7_set_89 : decode cX7_set 89 = .ok (.bipush 9, 2) := by decide +kernel
theorem dX7_set_91 : decode cX7_set 91 = .ok (.lconst 0, 1) := by decide +kernel
theorem dX7_set_92 : decode cX7_set 92 = .ok (.invokevirtual 52, 3) := by decide +kernel
theorem dX7_set_95 : decode cX7_set 95 = .ok (.aload_n 0, 1) := by decide +kernel
theorem dX7_set_96 : decode cX7_set 96 = .ok (.iload_n 3, 1) := by decide +kernel
theorem dX7_set_97 : decode cX7_set 97 = .ok (.bipush 10, 2) := by decide +kernel
theorem dX7_set_99 : decode cX7_set 99 = .ok (.ldc2_w 48, 3) := by decide +kernel
theorem dX7_set_102 : decode cX7_set 102 = .ok (.invokevirtual 52, 3) := by decide +kernel
theorem dX7_set_105 : decode cX7_set 105 = .ok (.aload_n 0, 1) := by decide +kernel
theorem dX7_set_106 : decode cX7_set 106 = .ok (.iload_n 3, 1) := by decide +kernel
theorem dX7_set_107 : decode cX7_set 107 = .ok (.bipush 12, 2) := by decide +kernel
theorem dX7_set_109 : decode cX7_set 109 = .ok (.lconst 0, 1) := by decide +kernel
theorem dX7_set_110 : decode cX7_set 110 = .ok (.invokevirtual 52, 3) := by decide +kernel
theorem dX7_set_113 : decode cX7_set 113 = .ok (.aload_n 0, 1) := by decide +kernel
theorem dX7_set_114 : decode cX7_set 114 = .ok (.iload_n 3, 1) := by decide +kernel
theorem dX7_set_115 : decode cX7_set 115 = .ok (.invokevirtual 63, 3) := by decide +kernel
theorem dX7_set_118 : decode cX7_set 118 = .ok (.iload_n 3, 1) := by decide +kernel
theorem dX7_set_119 : decode cX7_set 119 = .ok (.ireturn, 1) := by decide +kernel
theorem dX7_isTick_0 : decode cX7_isTick 0 = .ok (.lload_n 1, 1) := by decide +kernel
theorem dX7_isTick_1 : decode cX7_isTick 1 = .ok (.aload_n 0, 1) := by decide +kernel
theorem dX7_isTick_2 : decode cX7_isTick 2 = .ok (.getfield 7, 3) := by decide +kernel
theorem dX7_isTick_5 : decode cX7_isTick 5 = .ok (.sipush 3700, 3) := by decide +kernel
theorem dX7_isTick_8 : decode cX7_isTick 8 = .ok (.laload, 1) := by decide +kernel
theorem dX7_isTick_9 : decode cX7_isTick 9 = .ok (.lcmp, 1) := by decide +kernel
theorem dX7_isTick_10 : decode cX7_isTick 10 = .ok (.ifCond .le 15, 3) := by decide +kernel
theorem dX7_isTick_13 : decode cX7_isTick 13 = .ok (.lload_n 1, 1) := by decide +kernel
theorem dX7_isTick_14 : decode cX7_isTick 14 = .ok (.ldc2_w 67, 3) := by decide +kernel
theorem dX7_isTick_17 : decode cX7_isTick 17 = .ok (.lcmp, 1) := by decide +kernel
theorem dX7_isTick_18 : decode cX7_isTick 18 = .ok (.ifCond .gt 7, 3) := by decide +kernel
theorem dX7_isTick_21 : decode cX7_isTick 21 = .ok (.iconst 1, 1) := by decide +kernel
theorem dX7_isTick_22 : decode cX7_isTick 22 = .ok (.goto 4, 3) := by decide +kernel
theorem dX7_isTick_25 : decode cX7_isTick 25 = .ok (.iconst 0, 1) := by decide +kernel
theorem dX7_isTick_26 : decode cX7_isTick 26 = .ok (.ireturn, 1) := by decide +kernel
set_option maxRecDepth 20000 in
theorem ggX7_once_X7_isTick : GoodIn wsX7_once wsX7_isTick := goodIn_r _ [7, 8, 9, 41, 42, 43, 44, 45, 46, 47, 48, 49] (by decide +kernel) (by decide +kernel)
set_option maxRecDepth 20000 in
theorem gX7_once_X7_isTick : GoodIn wsX7_once (wsV RX7 69 RX7 yX7_isTick wsX7_isTick) := goodIn_app (goodIn_of _ (by decide +kernel)) ggX7_once_X7_isTick
set_option maxRecDepth 20000 in
theorem ggX7_once_X7_freeOne : GoodIn wsX7_once wsX7_freeOne := goodIn_r _ [13, 14, 15, 16, 6, 17, 8, 41, 42, 43, 44, 45, 46, 47, 48, 49] (by decide +kernel) (by decide +kernel)
set_option maxRecDepth 20000 in
theorem gX7_once_X7_freeOne : GoodIn wsX7_once (wsV RX7 56 RX7 yX7_freeOne wsX7_freeOne) := goodIn_app (goodIn_of _ (by decide +kernel)) ggX7_once_X7_freeOne
set_option maxRecDepth 20000 in
theorem ggX7_once_X7_set : GoodIn wsX7_once wsX7_set := goodIn_r _ [21, 22, 10, 11, 12, 6, 13, 14, 15, 16, 17, 8, 23, 24, 25, 26, 27, 28, 29, 30, 31, 32, 33, 34, 35, 36, 41, 42, 43, 44, 45, 46, 47, 48, 49] (by decide +kernel) (by decide +kernel)
set_option maxRecDepth 20000 in
theorem gX7_once_X7_set : GoodIn wsX7_once (wsV RX7 77 RX7 yX7_set wsX7_set) := goodIn_app (goodIn_of _ (by decide +kernel)) ggX7_once_X7_set
set_option maxRecDepth 20000 in
theorem ggX7_once_X7_tick : GoodIn wsX7_once wsX7_tick := goodIn_r _ [40, 29, 30, 31, 6, 32, 8, 41, 42, 43, 44, 45, 46, 47, 48, 49] (by decide +kernel) (by decide +kernel)
set_option maxRecDepth 20000 in
theorem gX7_once_X7_tick : GoodIn wsX7_once (wsV RX7 81 RX7 yX7_tick wsX7_tick) := goodIn_app (goodIn_of _ (by decide +kernel)) ggX7_once_X7_tick
theorem dX7_once_0 : decode cX7_once 0 = .ok (.aload_n 0, 1) := by decide +kernel
theorem dX7_once_1 : decode cX7_once 1 = .ok (.lload_n 1, 1) := by decide +kernel
theorem dX7_once_2 : decode cX7_once 2 = .ok (.invokevirtual 69, 3) := by decide +kernel
theorem dX7_once_5 : decode cX7_once 5 = .ok (.ifCond .ne 7, 3) := by decide +kernel
theorem dX7_once_8 : decode cX7_once 8 = .ok (.ldc2_w 73, 3) := by decide +kernel
theorem dX7_once_11 : decode cX7_once 11 = .ok (.lreturn, 1) := by decide +kernel
theorem dX7_once_12 : decode cX7_once 12 = .ok (.aload_n 0, 1) := by decide +kernel
theorem dX7_once_13 : decode cX7_once 13 = .ok (.invokevirtual 56, 3) := by decide +kernel
theorem dX7_once_16 : decode cX7_once 16 = .ok (.sipush 200, 3) := by decide +kernel
theorem dX7_once_19 : decode cX7_once 19 = .ok (.if_icmp .ne 7, 3) := by decide +kernel
theorem dX7_once_22 : decode cX7_once 22 = .ok (.ldc2_w 75, 3) := by decide +kernel
theorem dX7_once_25 : decode cX7_once 25 = .ok (.lreturn, 1) := by decide +kernel
theorem dX7_once_26 : decode cX7_once 26 = .ok (.aload_n 0, 1) := by decide +kernel
theorem dX7_once_27 : decode cX7_once 27 = .ok (.iconst 0, 1) := by decide +kernel
theorem dX7_once_28 : decode cX7_once 28 = .ok (.iload_n 3, 1) := by decide +kernel
theorem dX7_once_29 : decode cX7_once 29 = .ok (.invokevirtual 77, 3) := by decide +kernel
theorem dX7_once_32 : decode cX7_once 32 = .ok (.istore 4, 2) := by decide +kernel
theorem dX7_once_34 : decode cX7_once 34 = .ok (.aload_n 0, 1) := by decide +kernel
theorem dX7_once_35 : decode cX7_once 35 = .ok (.iload 4, 2) := by decide +kernel
theorem dX7_once_37 : decode cX7_once 37 = .ok (.lload_n 1, 1) := by decide +kernel
theorem dX7_once_38 : decode cX7_once 38 = .ok (.invokevirtual 81, 3) := by decide +kernel
theorem dX7_once_41 : decode cX7_once 41 = .ok (.iload 4, 2) := by decide +kernel
theorem dX7_once_43 : decode cX7_once 43 = .ok (.i2l, 1) := by decide +kernel
theorem dX7_once_44 : decode cX7_once 44 = .ok (.lreturn, 1) := by decide +kernel
set_option maxRecDepth 20000 in
theorem ggX7_repeated_X7_isTick : GoodIn wsX7_repeated wsX7_isTick := goodIn_r _ [9, 10, 1, 45, 46, 47, 48, 49, 50, 51, 52, 53] (by decide +kernel) (by decide +kernel)
set_option maxRecDepth 20000 in
theorem gX7_repeated_X7_isTick : GoodIn wsX7_repeated (wsV RX7 69 RX7 yX7_isTick wsX7_isTick) := goodIn_app (goodIn_of _ (by decide +kernel)) ggX7_repeated_X7_isTick
set_option maxRecDepth 20000 in
theorem ggX7_repeated_X7_isIn : GoodIn wsX7_repeated wsX7_isIn := goodIn_r _ [13] (by decide +kernel) (by decide +kernel)
set_option maxRecDepth 20000 in
theorem gX7_repeated_X7_isIn : GoodIn wsX7_repeated (va_wsS RX7 36 yX7_isIn wsX7_isIn) := goodIn_app (goodIn_of _ (by decide +kernel)) ggX7_repeated_X7_isIn
set_option maxRecDepth 20000 in
theorem ggX7_repeated_X7_freeOne : GoodIn wsX7_repeated wsX7_freeOne := goodIn_r _ [17, 18, 19, 20, 8, 21, 10, 45, 46, 47, 48, 49, 50, 51, 52, 53] (by decide +kernel) (by decide +kernel)
set_option maxRecDepth 20000 in
theorem gX7_repeated_X7_freeOne : GoodIn wsX7_repeated (wsV RX7 56 RX7 yX7_freeOne wsX7_freeOne) := goodIn_app (goodIn_of _ (by decide +kernel)) ggX7_repeated_X7_freeOne
set_option maxRecDepth 20000 in
theorem ggX7_repeated_X7_set : GoodIn wsX7_repeated wsX7_set := goodIn_r _ [25, 26, 14, 15, 16, 8, 17, 18, 19, 20, 21, 10, 27, 28, 29, 30, 31, 32, 33, 34, 35, 36, 37, 38, 39, 40, 45, 46, 47, 48, 49, 50, 51, 52, 53] (by decide +kernel) (by decide +kernel)
set_option maxRecDepth 20000 in
theorem gX7_repeated_X7_set : GoodIn wsX7_repeated (wsV RX7 77 RX7 yX7_set wsX7_set) := goodIn_app (goodIn_of _ (by decide +kernel)) ggX7_repeated_X7_set
set_option maxRecDepth 20000 in
theorem ggX7_repeated_X7_tick : GoodIn wsX7_repeated wsX7_tick := goodIn_r _ [44, 33, 34, 35, 8, 36, 10, 45, 46, 47, 48, 49, 50, 51, 52, 53] (by decide +kernel) (by decide +kernel)
set_option maxRecDepth 20000 in
theorem gX7_repeated_X7_tick : GoodIn wsX7_repeated (wsV RX7 81 RX7 yX7_tick wsX7_tick) := goodIn_app (goodIn_of _ (by decide +kernel)) ggX7_repeated_X7_tick
set_option maxRecDepth 20000 in
theorem ggX7_repeated_X7_put : GoodIn wsX7_repeated wsX7_put := goodIn_r _ [36, 10, 45, 46, 47, 48, 49, 50, 51, 52, 53] (by decide +kernel) (by decide +kernel)
set_option maxRecDepth 20000 in
theorem gX7_repeated_X7_put : GoodIn wsX7_repeated (wsV RX7 52 RX7 yX7_put wsX7_put) := goodIn_app (goodIn_of _ (by decide +kernel)) ggX7_repeated_X7_put
theorem dX7_repeated_0 : decode cX7_repeated 0 = .ok (.aload_n 0, 1) := by decide +kernel
theorem dX7_repeated_1 : decode cX7_repeated 1 = .ok (.lload_n 2, 1) := by decide +kernel
theorem dX7_repeated_2 : decode cX7_repeated 2 = .ok (.invokevirtual 69, 3) := by decide +kernel
theorem dX7_repeated_5 : decode cX7_repeated 5 = .ok (.ifCond .eq 28, 3) := by decide +kernel
theorem dX7_repeated_8 : decode cX7_repeated 8 = .ok (.lload 4, 2) := by decide +kernel
theorem dX7_repeated_10 : decode cX7_repeated 10 = .ok (.lconst 1, 1) := by decide +kernel
theorem dX7_repeated_11 : decode cX7_repeated 11 = .ok (.ldc2_w 67, 3) := by decide +kernel
theorem dX7_repeated_14 : decode cX7_repeated 14 = .ok (.invokestatic 36, 3) := by decide +kernel
theorem dX7_repeated_17 : decode cX7_repeated 17 = .ok (.ifCond .eq 16, 3) := by decide +kernel
theorem dX7_repeated_20 : decode cX7_repeated 20 = .ok (.iload 6, 2) := by decide +kernel
theorem dX7_repeated_22 : decode cX7_repeated 22 = .ok (.i2l, 1) := by decide +kernel
theorem dX7_repeated_23 : decode cX7_repeated 23 = .ok (.lconst 0, 1) := by decide +kernel
theorem dX7_repeated_24 : decode cX7_repeated 24 = .ok (.ldc2_w 85, 3) := by decide +kernel
theorem dX7_repeated_27 : decode cX7_repeated 27 = .ok (.invokestatic 36, 3) := by decide +kernel
theorem dX7_repeated_30 : decode cX7_repeated 30 = .ok (.ifCond .ne 7, 3) := by decide +kernel
theorem dX7_repeated_33 : decode cX7_repeated 33 = .ok (.ldc2_w 73, 3) := by decide +kernel
theorem dX7_repeated_36 : decode cX7_repeated 36 = .ok (.lreturn, 1) := by decide +kernel
theorem dX7_repeated_37 : decode cX7_repeated 37 = .ok (.aload_n 0, 1) := by decide +kernel
theorem dX7_repeated_38 : decode cX7_repeated 38 = .ok (.invokevirtual 56, 3) := by decide +kernel
theorem dX7_repeated_41 : decode cX7_repeated 41 = .ok (.sipush 200, 3) := by decide +kernel
theorem dX7_repeated_44 : decode cX7_repeated 44 = .ok (.if_icmp .ne 7, 3) := by decide +kernel
theorem dX7_repeated_47 : decode cX7_repeated 47 = .ok (.ldc2_w 75, 3) := by decide +kernel
theorem dX7_repeated_50 : decode cX7_repeated 50 = .ok (.lreturn, 1) := by decide +kernel
theorem dX7_repeated_51 : decode cX7_repeated 51 = .ok (.aload_n 0, 1) := by decide +kernel
theorem dX7_repeated_52 : decode cX7_repeated 52 = .ok (.iload_n 1, 1) := by decide +kernel
theorem dX7_repeated_53 : decode cX7_repeated 53 = .ok (.iload 7, 2) := by decide +kernel
theorem dX7_repeated_55 : decode cX7_repeated 55 = .ok (.invokevirtual 77, 3) := by decide +kernel
theorem dX7_repeated_58 : decode cX7_repeated 58 = .ok (.istore 8, 2) := by decide +kernel
theorem dX7_repeated_60 : decode cX7_repeated 60 = .ok (.aload_n 0, 1) := by decide +kernel
theorem dX7_repeated_61 : decode cX7_repeated 61 = .ok (.iload 8, 2) := by decide +kernel
theorem dX7_repeated_63 : decode cX7_repeated 63 = .ok (.lload_n 2, 1) := by decide +kernel
theorem dX7_repeated_64 : decode cX7_repeated 64 = .ok (.invokevirtual 81, 3) := by decide +kernel
theorem dX7_repeated_67 : decode cX7_repeated 67 = .ok (.aload_n 0, 1) := by decide +kernel
theorem dX7_repeated_68 : decode cX7_repeated 68 = .ok (.iload 8, 2) := by decide +kernel
theorem dX7_repeated_70 : decode cX7_repeated 70 = .ok (.iconst 5, 1) := by decide +kernel
theorem dX7_repeated_71 : decode cX7_repeated 71 = .ok (.lload 4, 2) := by decide +kernel
theorem dX7_repeated_73 : decode cX7_repeated 73 = .ok (.invokevirtual 52, 3) := by decide +kernel
theorem dX7_repeated_76 : decode cX7_repeated 76 = .ok (.aload_n 0, 1) := by decide +kernel
theorem dX7_repeated_77 : decode cX7_repeated 77 = .ok (.iload 8, 2) := by decide +kernel
theorem dX7_repeated_79 : decode cX7_repeated 79 = .ok (.bipush 6, 2) := by decide +kernel
theorem dX7_repeated_81 : decode cX7_repeated 81 = .ok (.iload 6, 2) := by decide +kernel
theorem dX7_repeated_83 : decode cX7_repeated 83 = .ok (.i2l, 1) := by decide +kernel
theorem dX7_repeated_84 : decode cX7_repeated 84 = .ok (.invokevirtual 52, 3) := by decide +kernel
theorem dX7_repeated_87 : decode cX7_repeated 87 = .ok (.iload 8, 2) := by decide +kernel
theorem dX7_repeated_89 : decode cX7_repeated 89 = .ok (.i2l, 1) := by decide +kernel
theorem dX7_repeated_90 : decode cX7_repeated 90 = .ok (.lreturn, 1) := by decide +kernel
set_option maxRecDepth 20000 in
theorem ggX7_often_X7_repeated : GoodIn wsX7_often wsX7_repeated := goodIn_r _ [5, 6, 7, 8, 9, 10, 11, 12, 4, 13, 14, 15, 16, 17, 18, 19, 20, 21, 22, 23, 24, 25, 26, 27, 28, 29, 30, 31, 32, 33, 34, 35, 36, 37, 38, 39, 40, 41, 42, 43, 44, 45, 46, 47, 48, 49, 50, 51, 52, 53, 54, 55, 56, 57] (by decide +kernel) (by decide +kernel)
set_option maxRecDepth 20000 in
theorem gX7_often_X7_repeated : GoodIn wsX7_often (wsV RX7 87 RX7 yX7_repeated wsX7_repeated) := goodIn_app (goodIn_of _ (by decide +kernel)) ggX7_often_X7_repeated
theorem dX7_often_0 : decode cX7_often 0 = .ok (.aload_n 0, 1) := by decide +kernel
theorem dX7_often_1 : decode cX7_often 1 = .ok (.iconst 1, 1) := by decide +kernel
theorem dX7_often_2 : decode cX7_often 2 = .ok (.lload_n 1, 1) := by decide +kernel
theorem dX7_often_3 : decode cX7_often 3 = .ok (.lload_n 3, 1) := by decide +kernel
theorem dX7_often_4 : decode cX7_often 4 = .ok (.iload 5, 2) := by decide +kernel
theorem dX7_often_6 : decode cX7_often 6 = .ok (.iload 6, 2) := by decide +kernel
theorem dX7_often_8 : decode cX7_often 8 = .ok (.invokevirtual 87, 3) := by decide +kernel
theorem dX7_often_11 : decode cX7_often 11 = .ok (.lreturn, 1) := by decide +kernel
set_option maxRecDepth 20000 in
theorem ggX7_resting_X7_repeated : GoodIn wsX7_resting wsX7_repeated := goodIn_r _ [5, 6, 7, 8, 9, 10, 11, 12, 4, 13, 14, 15, 16, 17, 18, 19, 20, 21, 22, 23, 24, 25, 26, 27, 28, 29, 30, 31, 32, 33, 34, 35, 36, 37, 38, 39, 40, 41, 42, 43, 44, 45, 46, 47, 48, 49, 50, 51, 52, 53, 54, 55, 56, 57] (by decide +kernel) (by decide +kernel)
set_option maxRecDepth 20000 in
theorem gX7_resting_X7_repeated : GoodIn wsX7_resting (wsV RX7 87 RX7 yX7_repeated wsX7_repeated) := goodIn_app (goodIn_of _ (by decide +kernel)) ggX7_resting_X7_repeated
theorem dX7_resting_0 : decode cX7_resting 0 = .ok (.aload_n 0, 1) := by decide +kernel
theorem dX7_resting_1 : decode cX7_resting 1 = .ok (.iconst 4, 1) := by decide +kernel
theorem dX7_resting_2 : decode cX7_resting 2 = .ok (.lload_n 1, 1) := by decide +kernel
theorem dX7_resting_3 : decode cX7_resting 3 = .ok (.lload_n 3, 1) := by decide +kernel
theorem dX7_resting_4 : decode cX7_resting 4 = .ok (.iload 5, 2) := by decide +kernel
theorem dX7_resting_6 : decode cX7_resting 6 = .ok (.iload 6, 2) := by decide +kernel
theorem dX7_resting_8 : decode cX7_resting 8 = .ok (.invokevirtual 87, 3) := by decide +kernel
theorem dX7_resting_11 : decode cX7_resting 11 = .ok (.lreturn, 1) := by decide +kernel
set_option maxRecDepth 20000 in
theorem ggX7_loose_X7_isTick : GoodIn wsX7_loose wsX7_isTick := goodIn_r _ [7, 8, 9, 44, 45, 46, 47, 48, 49, 50, 51, 52] (by decide +kernel) (by decide +kernel)
set_option maxRecDepth 20000 in
theorem gX7_loose_X7_isTick : GoodIn wsX7_loose (wsV RX7 69 RX7 yX7_isTick wsX7_isTick) := goodIn_app (goodIn_of _ (by decide +kernel)) ggX7_loose_X7_isTick
set_option maxRecDepth 20000 in
theorem ggX7_loose_X7_isIn : GoodIn wsX7_loose wsX7_isIn := goodIn_r _ [12] (by decide +kernel) (by decide +kernel)
set_option maxRecDepth 20000 in
theorem gX7_loose_X7_isIn : GoodIn wsX7_loose (va_wsS RX7 36 yX7_isIn wsX7_isIn) := goodIn_app (goodIn_of _ (by decide +kernel)) ggX7_loose_X7_isIn
set_option maxRecDepth 20000 in
theorem ggX7_loose_X7_freeOne : GoodIn wsX7_loose wsX7_freeOne := goodIn_r _ [16, 17, 18, 19, 6, 20, 8, 44, 45, 46, 47, 48, 49, 50, 51, 52] (by decide +kernel) (by decide +kernel)
set_option maxRecDepth 20000 in
theorem gX7_loose_X7_freeOne : GoodIn wsX7_loose (wsV RX7 56 RX7 yX7_freeOne wsX7_freeOne) := goodIn_app (goodIn_of _ (by decide +kernel)) ggX7_loose_X7_freeOne
set_option maxRecDepth 20000 in
theorem ggX7_loose_X7_set : GoodIn wsX7_loose wsX7_set := goodIn_r _ [24, 25, 13, 14, 15, 6, 16, 17, 18, 19, 20, 8, 26, 27, 28, 29, 30, 31, 32, 33, 34, 35, 36, 37, 38, 39, 44, 45, 46, 47, 48, 49, 50, 51, 52] (by decide +kernel) (by decide +kernel)
set_option maxRecDepth 20000 in
theorem gX7_loose_X7_set : GoodIn wsX7_loose (wsV RX7 77 RX7 yX7_set wsX7_set) := goodIn_app (goodIn_of _ (by decide +kernel)) ggX7_loose_X7_set
set_option maxRecDepth 20000 in
theorem ggX7_loose_X7_tick : GoodIn wsX7_loose wsX7_tick := goodIn_r _ [43, 32, 33, 34, 6, 35, 8, 44, 45, 46, 47, 48, 49, 50, 51, 52] (by decide +kernel) (by decide +kernel)
set_option maxRecDepth 20000 in
theorem gX7_loose_X7_tick : GoodIn wsX7_loose (wsV RX7 81 RX7 yX7_tick wsX7_tick) := goodIn_app (goodIn_of _ (by decide +kernel)) ggX7_loose_X7_tick
set_option maxRecDepth 20000 in
theorem ggX7_loose_X7_put : GoodIn wsX7_loose wsX7_put := goodIn_r _ [35, 8, 44, 45, 46, 47, 48, 49, 50, 51, 52] (by decide +kernel) (by decide +kernel)
set_option maxRecDepth 20000 in
theorem gX7_loose_X7_put : GoodIn wsX7_loose (wsV RX7 52 RX7 yX7_put wsX7_put) := goodIn_app (goodIn_of _ (by decide +kernel)) ggX7_loose_X7_put
theorem dX7_loose_0 : decode cX7_loose 0 = .ok (.aload_n 0, 1) := by decide +kernel
theorem dX7_loose_1 : decode cX7_loose 1 = .ok (.lload_n 3, 1) := by decide +kernel
theorem dX7_loose_2 : decode cX7_loose 2 = .ok (.invokevirtual 69, 3) := by decide +kernel
theorem dX7_loose_5 : decode cX7_loose 5 = .ok (.ifCond .eq 12, 3) := by decide +kernel
theorem dX7_loose_8 : decode cX7_loose 8 = .ok (.lload_n 1, 1) := by decide +kernel
theorem dX7_loose_9 : decode cX7_loose 9 = .ok (.lconst 0, 1) := by decide +kernel
theorem dX7_loose_10 : decode cX7_loose 10 = .ok (.lload_n 3, 1) := by decide +kernel
theorem dX7_loose_11 : decode cX7_loose 11 = .ok (.invokestatic 36, 3) := by decide +kernel
theorem dX7_loose_14 : decode cX7_loose 14 = .ok (.ifCond .ne 7, 3) := by decide +kernel
theorem dX7_loose_17 : decode cX7_loose 17 = .ok (.ldc2_w 73, 3) := by decide +kernel
theorem dX7_loose_20 : decode cX7_loose 20 = .ok (.lreturn, 1) := by decide +kernel
theorem dX7_loose_21 : decode cX7_loose 21 = .ok (.aload_n 0, 1) := by decide +kernel
theorem dX7_loose_22 : decode cX7_loose 22 = .ok (.invokevirtual 56, 3) := by decide +kernel
theorem dX7_loose_25 : decode cX7_loose 25 = .ok (.sipush 200, 3) := by decide +kernel
theorem dX7_loose_28 : decode cX7_loose 28 = .ok (.if_icmp .ne 7, 3) := by decide +kernel
theorem dX7_loose_31 : decode cX7_loose 31 = .ok (.ldc2_w 75, 3) := by decide +kernel
theorem dX7_loose_34 : decode cX7_loose 34 = .ok (.lreturn, 1) := by decide +kernel
theorem dX7_loose_35 : decode cX7_loose 35 = .ok (.aload_n 0, 1) := by decide +kernel
theorem dX7_loose_36 : decode cX7_loose 36 = .ok (.iconst 2, 1) := by decide +kernel
theorem dX7_loose_37 : decode cX7_loose 37 = .ok (.iload 5, 2) := by decide +kernel
theorem dX7_loose_39 : decode cX7_loose 39 = .ok (.invokevirtual 77, 3) := by decide +kernel
theorem dX7_loose_42 : decode cX7_loose 42 = .ok (.istore 6, 2) := by decide +kernel
theorem dX7_loose_44 : decode cX7_loose 44 = .ok (.aload_n 0, 1) := by decide +kernel
theorem dX7_loose_45 : decode cX7_loose 45 = .ok (.iload 6, 2) := by decide +kernel
theorem dX7_loose_47 : decode cX7_loose 47 = .ok (.lload_n 3, 1) := by decide +kernel
theorem dX7_loose_48 : decode cX7_loose 48 = .ok (.invokevirtual 81, 3) := by decide +kernel
theorem dX7_loose_51 : decode cX7_loose 51 = .ok (.aload_n 0, 1) := by decide +kernel
theorem dX7_loose_52 : decode cX7_loose 52 = .ok (.iload 6, 2) := by decide +kernel
theorem dX7_loose_54 : decode cX7_loose 54 = .ok (.iconst 4, 1) := by decide +kernel
theorem dX7_loose_55 : decode cX7_loose 55 = .ok (.lload_n 1, 1) := by decide +kernel
theorem dX7_loose_56 : decode cX7_loose 56 = .ok (.invokevirtual 52, 3) := by decide +kernel
theorem dX7_loose_59 : decode cX7_loose 59 = .ok (.iload 6, 2) := by decide +kernel
theorem dX7_loose_61 : decode cX7_loose 61 = .ok (.i2l, 1) := by decide +kernel
theorem dX7_loose_62 : decode cX7_loose 62 = .ok (.lreturn, 1) := by decide +kernel
set_option maxRecDepth 20000 in
theorem ggX7_chained_X7_isDue : GoodIn wsX7_chained wsX7_isDue := goodIn_r _ [8, 9, 10, 11, 7, 12, 13, 14, 15, 16, 17, 41, 42, 43, 44, 45, 46, 47, 48, 49] (by decide +kernel) (by decide +kernel)
set_option maxRecDepth 20000 in
theorem gX7_chained_X7_isDue : GoodIn wsX7_chained (wsV RX7 44 RX7 yX7_isDue wsX7_isDue) := goodIn_app (goodIn_of _ (by decide +kernel)) ggX7_chained_X7_isDue
set_option maxRecDepth 20000 in
theorem ggX7_chained_X7_isIn : GoodIn wsX7_chained wsX7_isIn := goodIn_r _ [12] (by decide +kernel) (by decide +kernel)
set_option maxRecDepth 20000 in
theorem gX7_chained_X7_isIn : GoodIn wsX7_chained (va_wsS RX7 36 yX7_isIn wsX7_isIn) := goodIn_app (goodIn_of _ (by decide +kernel)) ggX7_chained_X7_isIn
set_option maxRecDepth 20000 in
theorem ggX7_chained_X7_freeOne : GoodIn wsX7_chained wsX7_freeOne := goodIn_r _ [21, 13, 14, 15, 7, 16, 17, 41, 42, 43, 44, 45, 46, 47, 48, 49] (by decide +kernel) (by decide +kernel)
set_option maxRecDepth 20000 in
theorem gX7_chained_X7_freeOne : GoodIn wsX7_chained (wsV RX7 56 RX7 yX7_freeOne wsX7_freeOne) := goodIn_app (goodIn_of _ (by decide +kernel)) ggX7_chained_X7_freeOne
set_option maxRecDepth 20000 in
theorem ggX7_chained_X7_set : GoodIn wsX7_chained wsX7_set := goodIn_r _ [25, 26, 18, 19, 20, 7, 21, 13, 14, 15, 16, 17, 27, 28, 29, 30, 31, 32, 33, 34, 35, 36, 37, 38, 39, 40, 41, 42, 43, 44, 45, 46, 47, 48, 49] (by decide +kernel) (by decide +kernel)
set_option maxRecDepth 20000 in
theorem gX7_chained_X7_set : GoodIn wsX7_chained (wsV RX7 77 RX7 yX7_set wsX7_set) := goodIn_app (goodIn_of _ (by decide +kernel)) ggX7_chained_X7_set
set_option maxRecDepth 20000 in
theorem ggX7_chained_X7_put : GoodIn wsX7_chained wsX7_put := goodIn_r _ [36, 17, 41, 42, 43, 44, 45, 46, 47, 48, 49] (by decide +kernel) (by decide +kernel)
set_option maxRecDepth 20000 in
theorem gX7_chained_X7_put : GoodIn wsX7_chained (wsV RX7 52 RX7 yX7_put wsX7_put) := goodIn_app (goodIn_of _ (by decide +kernel)) ggX7_chained_X7_put
theorem dX7_chained_0 : decode cX7_chained 0 = .ok (.aload_n 0, 1) := by decide +kernel
theorem dX7_chained_1 : decode cX7_chained 1 = .ok (.iload_n 1, 1) := by decide +kernel
theorem dX7_chained_2 : decode cX7_chained 2 = .ok (.invokevirtual 44, 3) := by decide +kernel
theorem dX7_chained_5 : decode cX7_chained 5 = .ok (.ifCond .eq 26, 3) := by decide +kernel
theorem dX7_chained_8 : decode cX7_chained 8 = .ok (.lload_n 2, 1) := by decide +kernel
theorem dX7_chained_9 : decode cX7_chained 9 = .ok (.lconst 1, 1) := by decide +kernel
theorem dX7_chained_10 : decode cX7_chained 10 = .ok (.ldc2_w 67, 3) := by decide +kernel
theorem dX7_chained_13 : decode cX7_chained 13 = .ok (.invokestatic 36, 3) := by decide +kernel
theorem dX7_chained_16 : decode cX7_chained 16 = .ok (.ifCond .eq 15, 3) := by decide +kernel
theorem dX7_chained_19 : decode cX7_chained 19 = .ok (.lload 4, 2) := by decide +kernel
theorem dX7_chained_21 : decode cX7_chained 21 = .ok (.lconst 0, 1) := by decide +kernel
theorem dX7_chained_22 : decode cX7_chained 22 = .ok (.ldc2_w 67, 3) := by decide +kernel
theorem dX7_chained_25 : decode cX7_chained 25 = .ok (.invokestatic 36, 3) := by decide +kernel
theorem dX7_chained_28 : decode cX7_chained 28 = .ok (.ifCond .ne 7, 3) := by decide +kernel
theorem dX7_chained_31 : decode cX7_chained 31 = .ok (.ldc2_w 73, 3) := by decide +kernel
theorem dX7_chained_34 : decode cX7_chained 34 = .ok (.lreturn, 1) := by decide +kernel
theorem dX7_chained_35 : decode cX7_chained 35 = .ok (.aload_n 0, 1) := by decide +kernel
theorem dX7_chained_36 : decode cX7_chained 36 = .ok (.invokevirtual 56, 3) := by decide +kernel
theorem dX7_chained_39 : decode cX7_chained 39 = .ok (.sipush 200, 3) := by decide +kernel
theorem dX7_chained_42 : decode cX7_chained 42 = .ok (.if_icmp .ne 7, 3) := by decide +kernel
theorem dX7_chained_45 : decode cX7_chained 45 = .ok (.ldc2_w 75, 3) := by decide +kernel
theorem dX7_chained_48 : decode cX7_chained 48 = .ok (.lreturn, 1) := by decide +kernel
theorem dX7_chained_49 : decode cX7_chained 49 = .ok (.aload_n 0, 1) := by decide +kernel
theorem dX7_chained_50 : decode cX7_chained 50 = .ok (.iconst 3, 1) := by decide +kernel
theorem dX7_chained_51 : decode cX7_chained 51 = .ok (.iload 6, 2) := by decide +kernel
theorem dX7_chained_53 : decode cX7_chained 53 = .ok (.invokevirtual 77, 3) := by decide +kernel
theorem dX7_chained_56 : decode cX7_chained 56 = .ok (.istore 7, 2) := by decide +kernel
theorem dX7_chained_58 : decode cX7_chained 58 = .ok (.aload_n 0, 1) := by decide +kernel
theorem dX7_chained_59 : decode cX7_chained 59 = .ok (.iload 7, 2) := by decide +kernel
theorem dX7_chained_61 : decode cX7_chained 61 = .ok (.bipush 7, 2) := by decide +kernel
theorem dX7_chained_63 : decode cX7_chained 63 = .ok (.iload_n 1, 1) := by decide +kernel
theorem dX7_chained_64 : decode cX7_chained 64 = .ok (.i2l, 1) := by decide +kernel
theorem dX7_chained_65 : decode cX7_chained 65 = .ok (.invokevirtual 52, 3) := by decide +kernel
theorem dX7_chained_68 : decode cX7_chained 68 = .ok (.aload_n 0, 1) := by decide +kernel
theorem dX7_chained_69 : decode cX7_chained 69 = .ok (.iload 7, 2) := by decide +kernel
theorem dX7_chained_71 : decode cX7_chained 71 = .ok (.bipush 8, 2) := by decide +kernel
theorem dX7_chained_73 : decode cX7_chained 73 = .ok (.lload_n 2, 1) := by decide +kernel
theorem dX7_chained_74 : decode cX7_chained 74 = .ok (.invokevirtual 52, 3) := by decide +kernel
theorem dX7_chained_77 : decode cX7_chained 77 = .ok (.aload_n 0, 1) := by decide +kernel
theorem dX7_chained_78 : decode cX7_chained 78 = .ok (.iload 7, 2) := by decide +kernel
theorem dX7_chained_80 : decode cX7_chained 80 = .ok (.bipush 9, 2) := by decide +kernel
theorem dX7_chained_82 : decode cX7_chained 82 = .ok (.lload 4, 2) := by decide +kernel
theorem dX7_chained_84 : decode cX7_chained 84 = .ok (.invokevirtual 52, 3) := by decide +kernel
theorem dX7_chained_87 : decode cX7_chained 87 = .ok (.iload 7, 2) := by decide +kernel
theorem dX7_chained_89 : decode cX7_chained 89 = .ok (.i2l, 1) := by decide +kernel
theorem dX7_chained_90 : decode cX7_chained 90 = .ok (.lreturn, 1) := by decide +kernel
set_option maxRecDepth 20000 in
theorem ggX7_drop_X7_isDue : GoodIn wsX7_drop wsX7_isDue := goodIn_r _ [8, 9, 10, 11, 7, 12, 13, 14, 15, 16, 3, 35, 36, 37, 38, 39, 40, 41, 42, 43] (by decide +kernel) (by decide +kernel)
set_option maxRecDepth 20000 in
theorem gX7_drop_X7_isDue : GoodIn wsX7_drop (wsV RX7 44 RX7 yX7_isDue wsX7_isDue) := goodIn_app (goodIn_of _ (by decide +kernel)) ggX7_drop_X7_isDue
set_option maxRecDepth 20000 in
theorem ggX7_drop_X7_keep : GoodIn wsX7_drop wsX7_keep := goodIn_r _ [20, 21, 22, 3, 35, 36, 37, 38, 39, 40, 41, 42, 43] (by decide +kernel) (by decide +kernel)
set_option maxRecDepth 20000 in
theorem gX7_drop_X7_keep : GoodIn wsX7_drop (wsV RX7 60 RX7 yX7_keep wsX7_keep) := goodIn_app (goodIn_of _ (by decide +kernel)) ggX7_drop_X7_keep
set_option maxRecDepth 20000 in
theorem ggX7_drop_X7_get : GoodIn wsX7_drop wsX7_get := goodIn_r _ [16, 3, 35, 36, 37, 38, 39, 40, 41, 42, 43] (by decide +kernel) (by decide +kernel)
set_option maxRecDepth 20000 in
theorem gX7_drop_X7_get : GoodIn wsX7_drop (wsV RX7 40 RX7 yX7_get wsX7_get) := goodIn_app (goodIn_of _ (by decide +kernel)) ggX7_drop_X7_get
set_option maxRecDepth 20000 in
theorem ggX7_drop_X7_put : GoodIn wsX7_drop wsX7_put := goodIn_r _ [26, 3, 35, 36, 37, 38, 39, 40, 41, 42, 43] (by decide +kernel) (by decide +kernel)
set_option maxRecDepth 20000 in
theorem gX7_drop_X7_put : GoodIn wsX7_drop (wsV RX7 52 RX7 yX7_put wsX7_put) := goodIn_app (goodIn_of _ (by decide +kernel)) ggX7_drop_X7_put
set_option maxRecDepth 20000 in
theorem ggX7_drop_X7_waits : GoodIn wsX7_drop wsX7_waits := goodIn_r _ [30, 2, 4, 5, 6, 7, 8, 9, 10, 11, 12, 13, 14, 15, 16, 3, 35, 36, 37, 38, 39, 40, 41, 42, 43] (by decide +kernel) (by decide +kernel)
set_option maxRecDepth 20000 in
theorem gX7_drop_X7_waits : GoodIn wsX7_drop (wsV RX7 91 RX7 yX7_waits wsX7_waits) := goodIn_app (goodIn_of _ (by decide +kernel)) ggX7_drop_X7_waits
set_option maxRecDepth 20000 in
theorem ggX7_drop_X7_tick : GoodIn wsX7_drop wsX7_tick := goodIn_r _ [34, 23, 24, 25, 7, 26, 3, 35, 36, 37, 38, 39, 40, 41, 42, 43] (by decide +kernel) (by decide +kernel)
set_option maxRecDepth 20000 in
theorem gX7_drop_X7_tick : GoodIn wsX7_drop (wsV RX7 81 RX7 yX7_tick wsX7_tick) := goodIn_app (goodIn_of _ (by decide +kernel)) ggX7_drop_X7_tick
theorem dX7_drop_0 : decode cX7_drop 0 = .ok (.aload_n 0, 1) := by decide +kernel
theorem dX7_drop_1 : decode cX7_drop 1 = .ok (.iload_n 1, 1) := by decide +kernel
theorem dX7_drop_2 : decode cX7_drop 2 = .ok (.invokevirtual 44, 3) := by decide +kernel
theorem dX7_drop_5 : decode cX7_drop 5 = .ok (.ifCond .ne 7, 3) := by decide +kernel
theorem dX7_drop_8 : decode cX7_drop 8 = .ok (.ldc2_w 73, 3) := by decide +kernel
theorem dX7_drop_11 : decode cX7_drop 11 = .ok (.lreturn, 1) := by decide +kernel
theorem dX7_drop_12 : decode cX7_drop 12 = .ok (.aload_n 0, 1) := by decide +kernel
theorem dX7_drop_13 : decode cX7_drop 13 = .ok (.invokevirtual 60, 3) := by decide +kernel
theorem dX7_drop_16 : decode cX7_drop 16 = .ok (.aload_n 0, 1) := by decide +kernel
theorem dX7_drop_17 : decode cX7_drop 17 = .ok (.iload_n 1, 1) := by decide +kernel
theorem dX7_drop_18 : decode cX7_drop 18 = .ok (.iconst 2, 1) := by decide +kernel
theorem dX7_drop_19 : decode cX7_drop 19 = .ok (.invokevirtual 40, 3) := by decide +kernel
theorem dX7_drop_22 : decode cX7_drop 22 = .ok (.lstore_n 2, 1) := by decide +kernel
theorem dX7_drop_23 : decode cX7_drop 23 = .ok (.aload_n 0, 1) := by decide +kernel
theorem dX7_drop_24 : decode cX7_drop 24 = .ok (.iload_n 1, 1) := by decide +kernel
theorem dX7_drop_25 : decode cX7_drop 25 = .ok (.iconst 0, 1) := by decide +kernel
theorem dX7_drop_26 : decode cX7_drop 26 = .ok (.lconst 0, 1) := by decide +kernel
theorem dX7_drop_27 : decode cX7_drop 27 = .ok (.invokevirtual 52, 3) := by decide +kernel
theorem dX7_drop_30 : decode cX7_drop 30 = .ok (.iconst 0, 1) := by decide +kernel
theorem dX7_drop_31 : decode cX7_drop 31 = .ok (.istore 4, 2) := by decide +kernel
theorem dX7_drop_33 : decode cX7_drop 33 = .ok (.iload 4, 2) := by decide +kernel
theorem dX7_drop_35 : decode cX7_drop 35 = .ok (.sipush 200, 3) := by decide +kernel
theorem dX7_drop_38 : decode cX7_drop 38 = .ok (.if_icmp .ge 88, 3) := by decide +kernel
theorem dX7_drop_41 : decode cX7_drop 41 = .ok (.aload_n 0, 1) := by decide +kernel
theorem dX7_drop_42 : decode cX7_drop 42 = .ok (.iload 4, 2) := by decide +kernel
theorem dX7_drop_44 : decode cX7_drop 44 = .ok (.invokevirtual 91, 3) := by decide +kernel
theorem dX7_drop_47 : decode cX7_drop 47 = .ok (.ifCond .eq 73, 3) := by decide +kernel
theorem dX7_drop_50 : decode cX7_drop 50 = .ok (.aload_n 0, 1) := by decide +kernel
theorem dX7_drop_51 : decode cX7_drop 51 = .ok (.iload 4, 2) := by decide +kernel
theorem dX7_drop_53 : decode cX7_drop 53 = .ok (.bipush 7, 2) := by decide +kernel
theorem dX7_drop_55 : decode cX7_drop 55 = .ok (.invokevirtual 40, 3) := by decide +kernel
theorem dX7_drop_58 : decode cX7_drop 58 = .ok (.iload_n 1, 1) := by decide +kernel
theorem dX7_drop_59 : decode cX7_drop 59 = .ok (.i2l, 1) := by decide +kernel
theorem dX7_drop_60 : decode cX7_drop 60 = .ok (.lcmp, 1) := by decide +kernel
theorem dX7_drop_61 : decode cX7_drop 61 = .ok (.ifCond .ne 59, 3) := by decide +kernel
theorem dX7_drop_64 : decode cX7_drop 64 = .ok (.aload_n 0, 1) := by decide +kernel
theorem dX7_drop_65 : decode cX7_drop 65 = .ok (.iload 4, 2) := by decide +kernel
theorem dX7_drop_67 : decode cX7_drop 67 = .ok (.bipush 7, 2) := by decide +kernel
theorem dX7_drop_69 : decode cX7_drop 69 = .ok (.ldc2_w 48, 3) := by decide +kernel
theorem dX7_drop_72 : decode cX7_drop 72 = .ok (.invokevirtual 52, 3) := by decide +kernel
theorem dX7_drop_75 : decode cX7_drop 75 = .ok (.aload_n 0, 1) := by decide +kernel
theorem dX7_drop_76 : decode cX7_drop 76 = .ok (.iload 4, 2) := by decide +kernel
theorem dX7_drop_78 : decode cX7_drop 78 = .ok (.bipush 9, 2) := by decide +kernel
theorem dX7_drop_80 : decode cX7_drop 80 = .ok (.invokevirtual 40, 3) := by decide +kernel
theorem dX7_drop_83 : decode cX7_drop 83 = .ok (.lstore 5, 2) := by decide +kernel
theorem dX7_drop_85 : decode cX7_drop 85 = .ok (.aload_n 0, 1) := by decide +kernel
theorem dX7_drop_86 : decode cX7_drop 86 = .ok (.iload 4, 2) := by decide +kernel
theorem dX7_drop_88 : decode cX7_drop 88 = .ok (.lload 5, 2) := by decide +kernel
theorem dX7_drop_90 : decode cX7_drop 90 = .ok (.aload_n 0, 1) := by decide +kernel
theorem dX7_drop_91 : decode cX7_drop 91 = .ok (.getfield 7, 3) := by decide +kernel
theorem dX7_drop_94 : decode cX7_drop 94 = .ok (.sipush 3700, 3) := by decide +kernel
theorem dX7_drop_97 : decode cX7_drop 97 = .ok (.laload, 1) := by decide +kernel
theorem dX7_drop_98 : decode cX7_drop 98 = .ok (.lcmp, 1) := by decide +kernel
theorem dX7_drop_99 : decode cX7_drop 99 = .ok (.ifCond .le 8, 3) := by decide +kernel
theorem dX7_drop_102 : decode cX7_drop 102 = .ok (.lload 5, 2) := by decide +kernel
theorem dX7_drop_104 : decode cX7_drop 104 = .ok (.goto 13, 3) := by decide +kernel
theorem dX7_drop_107 : decode cX7_drop 107 = .ok (.aload_n 0, 1) := by decide +kernel
theorem dX7_drop_108 : decode cX7_drop 108 = .ok (.getfield 7, 3) := by decide +kernel
theorem dX7_drop_111 : decode cX7_drop 111 = .ok (.sipush 3700, 3) := by decide +kernel
theorem dX7_drop_114 : decode cX7_drop 114 = .ok (.laload, 1) := by decide +kernel
theorem dX7_drop_115 : decode cX7_drop 115 = .ok (.lconst 1, 1) := by decide +kernel
theorem dX7_drop_116 : decode cX7_drop 116 = .ok (.ladd, 1) := by decide +kernel
theorem dX7_drop_117 : decode cX7_drop 117 = .ok (.invokevirtual 81, 3) := by decide +kernel
theorem dX7_drop_120 : decode cX7_drop 120 = .ok (.iinc 4 1, 3) := by decide +kernel
theorem dX7_drop_123 : decode cX7_drop 123 = .ok (.goto (-90), 3) := by decide +kernel
theorem dX7_drop_126 : decode cX7_drop 126 = .ok (.lload_n 2, 1) := by decide +kernel
theorem dX7_drop_127 : decode cX7_drop 127 = .ok (.lreturn, 1) := by decide +kernel
set_option maxRecDepth 20000 in
theorem ggX7_shift_X7_isDue : GoodIn wsX7_shift wsX7_isDue := goodIn_r _ [10, 11, 12, 13, 9, 14, 15, 16, 17, 18, 19, 47, 48, 49, 50, 51, 52, 53, 54, 55] (by decide +kernel) (by decide +kernel)
set_option maxRecDepth 20000 in
theorem gX7_shift_X7_isDue : GoodIn wsX7_shift (wsV RX7 44 RX7 yX7_isDue wsX7_isDue) := goodIn_app (goodIn_of _ (by decide +kernel)) ggX7_shift_X7_isDue
set_option maxRecDepth 20000 in
theorem ggX7_shift_X7_isIn : GoodIn wsX7_shift wsX7_isIn := goodIn_r _ [14] (by decide +kernel) (by decide +kernel)
set_option maxRecDepth 20000 in
theorem gX7_shift_X7_isIn : GoodIn wsX7_shift (va_wsS RX7 36 yX7_isIn wsX7_isIn) := goodIn_app (goodIn_of _ (by decide +kernel)) ggX7_shift_X7_isIn
set_option maxRecDepth 20000 in
theorem ggX7_shift_X7_hasTick : GoodIn wsX7_shift wsX7_hasTick := goodIn_r _ [23, 24, 6, 7, 8, 9, 10, 11, 12, 13, 14, 15, 16, 17, 18, 19, 47, 48, 49, 50, 51, 52, 53, 54, 55] (by decide +kernel) (by decide +kernel)
set_option maxRecDepth 20000 in
theorem gX7_shift_X7_hasTick : GoodIn wsX7_shift (wsV RX7 96 RX7 yX7_hasTick wsX7_hasTick) := goodIn_app (goodIn_of _ (by decide +kernel)) ggX7_shift_X7_hasTick
set_option maxRecDepth 20000 in
theorem ggX7_shift_X7_get : GoodIn wsX7_shift wsX7_get := goodIn_r _ [18, 19, 47, 48, 49, 50, 51, 52, 53, 54, 55] (by decide +kernel) (by decide +kernel)
set_option maxRecDepth 20000 in
theorem gX7_shift_X7_get : GoodIn wsX7_shift (wsV RX7 40 RX7 yX7_get wsX7_get) := goodIn_app (goodIn_of _ (by decide +kernel)) ggX7_shift_X7_get
set_option maxRecDepth 20000 in
theorem ggX7_shift_X7_isTick : GoodIn wsX7_shift wsX7_isTick := goodIn_r _ [28, 19, 2, 47, 48, 49, 50, 51, 52, 53, 54, 55] (by decide +kernel) (by decide +kernel)
set_option maxRecDepth 20000 in
theorem gX7_shift_X7_isTick : GoodIn wsX7_shift (wsV RX7 69 RX7 yX7_isTick wsX7_isTick) := goodIn_app (goodIn_of _ (by decide +kernel)) ggX7_shift_X7_isTick
set_option maxRecDepth 20000 in
theorem ggX7_shift_X7_keep : GoodIn wsX7_shift wsX7_keep := goodIn_r _ [32, 33, 34, 19, 47, 48, 49, 50, 51, 52, 53, 54, 55] (by decide +kernel) (by decide +kernel)
set_option maxRecDepth 20000 in
theorem gX7_shift_X7_keep : GoodIn wsX7_shift (wsV RX7 60 RX7 yX7_keep wsX7_keep) := goodIn_app (goodIn_of _ (by decide +kernel)) ggX7_shift_X7_keep
set_option maxRecDepth 20000 in
theorem ggX7_shift_X7_tick : GoodIn wsX7_shift wsX7_tick := goodIn_r _ [38, 39, 40, 41, 9, 42, 19, 47, 48, 49, 50, 51, 52, 53, 54, 55] (by decide +kernel) (by decide +kernel)
set_option maxRecDepth 20000 in
theorem gX7_shift_X7_tick : GoodIn wsX7_shift (wsV RX7 81 RX7 yX7_tick wsX7_tick) := goodIn_app (goodIn_of _ (by decide +kernel)) ggX7_shift_X7_tick
set_option maxRecDepth 20000 in
theorem ggX7_shift_X7_put : GoodIn wsX7_shift wsX7_put := goodIn_r _ [42, 19, 47, 48, 49, 50, 51, 52, 53, 54, 55] (by decide +kernel) (by decide +kernel)
set_option maxRecDepth 20000 in
theorem gX7_shift_X7_put : GoodIn wsX7_shift (wsV RX7 52 RX7 yX7_put wsX7_put) := goodIn_app (goodIn_of _ (by decide +kernel)) ggX7_shift_X7_put
set_option maxRecDepth 20000 in
theorem ggX7_shift_X7_line : GoodIn wsX7_shift wsX7_line := goodIn_r _ [46, 19, 39, 40, 41, 9, 42, 47, 48, 49, 50, 51, 52, 53, 54, 55] (by decide +kernel) (by decide +kernel)
set_option maxRecDepth 20000 in
theorem gX7_shift_X7_line : GoodIn wsX7_shift (wsV RX7 63 RX7 yX7_line wsX7_line) := goodIn_app (goodIn_of _ (by decide +kernel)) ggX7_shift_X7_line
theorem dX7_shift_0 : decode cX7_shift 0 = .ok (.aload_n 0, 1) := by decide +kernel
theorem dX7_shift_1 : decode cX7_shift 1 = .ok (.iload_n 1, 1) := by decide +kernel
theorem dX7_shift_2 : decode cX7_shift 2 = .ok (.invokevirtual 44, 3) := by decide +kernel
theorem dX7_shift_5 : decode cX7_shift 5 = .ok (.ifCond .eq 16, 3) := by decide +kernel
theorem dX7_shift_8 : decode cX7_shift 8 = .ok (.lload_n 2, 1) := by decide +kernel
theorem dX7_shift_9 : decode cX7_shift 9 = .ok (.ldc2_w 94, 3) := by decide +kernel
theorem dX7_shift_12 : decode cX7_shift 12 = .ok (.ldc2_w 67, 3) := by decide +kernel
theorem dX7_shift_15 : decode cX7_shift 15 = .ok (.invokestatic 36, 3) := by decide +kernel
theorem dX7_shift_18 : decode cX7_shift 18 = .ok (.ifCond .ne 7, 3) := by decide +kernel
theorem dX7_shift_21 : decode cX7_shift 21 = .ok (.ldc2_w 73, 3) := by decide +kernel
theorem dX7_shift_24 : decode cX7_shift 24 = .ok (.lreturn, 1) := by decide +kernel
theorem dX7_shift_25 : decode cX7_shift 25 = .ok (.aload_n 0, 1) := by decide +kernel
theorem dX7_shift_26 : decode cX7_shift 26 = .ok (.iload_n 1, 1) := by decide +kernel
theorem dX7_shift_27 : decode cX7_shift 27 = .ok (.invokevirtual 96, 3) := by decide +kernel
theorem dX7_shift_30 : decode cX7_shift 30 = .ok (.ifCond .ne 7, 3) := by decide +kernel
theorem dX7_shift_33 : decode cX7_shift 33 = .ok (.ldc2_w 50, 3) := by decide +kernel
theorem dX7_shift_36 : decode cX7_shift 36 = .ok (.lreturn, 1) := by decide +kernel
theorem dX7_shift_37 : decode cX7_shift 37 = .ok (.aload_n 0, 1) := by decide +kernel
theorem dX7_shift_38 : decode cX7_shift 38 = .ok (.iload_n 1, 1) := by decide +kernel
theorem dX7_shift_39 : decode cX7_shift 39 = .ok (.iconst 3, 1) := by decide +kernel
theorem dX7_shift_40 : decode cX7_shift 40 = .ok (.invokevirtual 40, 3) := by decide +kernel
theorem dX7_shift_43 : decode cX7_shift 43 = .ok (.lload_n 2, 1) := by decide +kernel
theorem dX7_shift_44 : decode cX7_shift 44 = .ok (.ladd, 1) := by decide +kernel
theorem dX7_shift_45 : decode cX7_shift 45 = .ok (.lstore 4, 2) := by decide +kernel
theorem dX7_shift_47 : decode cX7_shift 47 = .ok (.aload_n 0, 1) := by decide +kernel
theorem dX7_shift_48 : decode cX7_shift 48 = .ok (.lload 4, 2) := by decide +kernel
theorem dX7_shift_50 : decode cX7_shift 50 = .ok (.invokevirtual 69, 3) := by decide +kernel
theorem dX7_shift_53 : decode cX7_shift 53 = .ok (.ifCond .ne 7, 3) := by decide +kernel
theorem dX7_shift_56 : decode cX7_shift 56 = .ok (.ldc2_w 73, 3) := by decide +kernel
theorem dX7_shift_59 : decode cX7_shift 59 = .ok (.lreturn, 1) := by decide +kernel
theorem dX7_shift_60 : decode cX7_shift 60 = .ok (.aload_n 0, 1) := by decide +kernel
theorem dX7_shift_61 : decode cX7_shift 61 = .ok (.invokevirtual 60, 3) := by decide +kernel
theorem dX7_shift_64 : decode cX7_shift 64 = .ok (.aload_n 0, 1) := by decide +kernel
theorem dX7_shift_65 : decode cX7_shift 65 = .ok (.iload_n 1, 1) := by decide +kernel
theorem dX7_shift_66 : decode cX7_shift 66 = .ok (.lload 4, 2) := by decide +kernel
theorem dX7_shift_68 : decode cX7_shift 68 = .ok (.invokevirtual 81, 3) := by decide +kernel
theorem dX7_shift_71 : decode cX7_shift 71 = .ok (.aload_n 0, 1) := by decide +kernel
theorem dX7_shift_72 : decode cX7_shift 72 = .ok (.iload_n 1, 1) := by decide +kernel
theorem dX7_shift_73 : decode cX7_shift 73 = .ok (.iconst 1, 1) := by decide +kernel
theorem dX7_shift_74 : decode cX7_shift 74 = .ok (.invokevirtual 40, 3) := by decide +kernel
theorem dX7_shift_77 : decode cX7_shift 77 = .ok (.ldc2_w 99, 3) := by decide +kernel
theorem dX7_shift_80 : decode cX7_shift 80 = .ok (.lcmp, 1) := by decide +kernel
theorem dX7_shift_81 : decode cX7_shift 81 = .ok (.ifCond .ne 32, 3) := by decide +kernel
theorem dX7_shift_84 : decode cX7_shift 84 = .ok (.aload_n 0, 1) := by decide +kernel
theorem dX7_shift_85 : decode cX7_shift 85 = .ok (.iload_n 1, 1) := by decide +kernel
theorem dX7_shift_86 : decode cX7_shift 86 = .ok (.iconst 4, 1) := by decide +kernel
theorem dX7_shift_87 : decode cX7_shift 87 = .ok (.invokevirtual 40, 3) := by decide +kernel
theorem dX7_shift_90 : decode cX7_shift 90 = .ok (.lload_n 2, 1) := by decide +kernel
theorem dX7_shift_91 : decode cX7_shift 91 = .ok (.ladd, 1) := by decide +kernel
theorem dX7_shift_92 : decode cX7_shift 92 = .ok (.lstore 6, 2) := by decide +kernel
theorem dX7_shift_94 : decode cX7_shift 94 = .ok (.aload_n 0, 1) := by decide +kernel
theorem dX7_shift_95 : decode cX7_shift 95 = .ok (.iload_n 1, 1) := by decide +kernel
theorem dX7_shift_96 : decode cX7_shift 96 = .ok (.iconst 4, 1) := by decide +kernel
theorem dX7_shift_97 : decode cX7_shift 97 = .ok (.lload 6, 2) := by decide +kernel
theorem dX7_shift_99 : decode cX7_shift 99 = .ok (.lconst 0, 1) := by decide +kernel
theorem dX7_shift_100 : decode cX7_shift 100 = .ok (.lcmp, 1) := by decide +kernel
theorem dX7_shift_101 : decode cX7_shift 101 = .ok (.ifCond .ge 7, 3) := by decide +kernel
theorem dX7_shift_104 : decode cX7_shift 104 = .ok (.lconst 0, 1) := by decide +kernel
theorem dX7_shift_105 : decode cX7_shift 105 = .ok (.goto 5, 3) := by decide +kernel
theorem dX7_shift_108 : decode cX7_shift 108 = .ok (.lload 6, 2) := by decide +kernel
theorem dX7_shift_110 : decode cX7_shift 110 = .ok (.invokevirtual 52, 3) := by decide +kernel
theorem dX7_shift_113 : decode cX7_shift 113 = .ok (.aload_n 0, 1) := by decide +kernel
theorem dX7_shift_114 : decode cX7_shift 114 = .ok (.iload_n 1, 1) := by decide +kernel
theorem dX7_shift_115 : decode cX7_shift 115 = .ok (.invokevirtual 63, 3) := by decide +kernel
theorem dX7_shift_118 : decode cX7_shift 118 = .ok (.lload 4, 2) := by decide +kernel
theorem dX7_shift_120 : decode cX7_shift 120 = .ok (.lreturn, 1) := by decide +kernel
set_option maxRecDepth 20000 in
theorem ggX7_isBehind_X7_waits : GoodIn wsX7_isBehind wsX7_waits := goodIn_r _ [5, 6, 7, 8, 9, 4, 10, 11, 12, 13, 14, 15, 16, 17, 18, 19, 20, 21, 22, 23, 24, 25, 26, 27, 28] (by decide +kernel) (by decide +kernel)
set_option maxRecDepth 20000 in
theorem gX7_isBehind_X7_waits : GoodIn wsX7_isBehind (wsV RX7 91 RX7 yX7_waits wsX7_waits) := goodIn_app (goodIn_of _ (by decide +kernel)) ggX7_isBehind_X7_waits
set_option maxRecDepth 20000 in
theorem ggX7_isBehind_X7_get : GoodIn wsX7_isBehind wsX7_get := goodIn_r _ [18, 19, 20, 21, 22, 23, 24, 25, 26, 27, 28] (by decide +kernel) (by decide +kernel)
set_option maxRecDepth 20000 in
theorem gX7_isBehind_X7_get : GoodIn wsX7_isBehind (wsV RX7 40 RX7 yX7_get wsX7_get) := goodIn_app (goodIn_of _ (by decide +kernel)) ggX7_isBehind_X7_get
theorem dX7_isBehind_0 : decode cX7_isBehind 0 = .ok (.iload_n 1, 1) := by decide +kernel
theorem dX7_isBehind_1 : decode cX7_isBehind 1 = .ok (.istore_n 3, 1) := by decide +kernel
theorem dX7_isBehind_2 : decode cX7_isBehind 2 = .ok (.aload_n 0, 1) := by decide +kernel
theorem dX7_isBehind_3 : decode cX7_isBehind 3 = .ok (.iload_n 3, 1) := by decide +kernel
theorem dX7_isBehind_4 : decode cX7_isBehind 4 = .ok (.invokevirtual 91, 3) := by decide +kernel
theorem dX7_isBehind_7 : decode cX7_isBehind 7 = .ok (.ifCond .eq 19, 3) := by decide +kernel
theorem dX7_isBehind_10 : decode cX7_isBehind 10 = .ok (.aload_n 0, 1) := by decide +kernel
theorem dX7_isBehind_11 : decode cX7_isBehind 11 = .ok (.iload_n 3, 1) := by decide +kernel
theorem dX7_isBehind_12 : decode cX7_isBehind 12 = .ok (.bipush 7, 2) := by decide +kernel
theorem dX7_isBehind_14 : decode cX7_isBehind 14 = .ok (.invokevirtual 40, 3) := by decide +kernel
theorem dX7_isBehind_17 : decode cX7_isBehind 17 = .ok (.l2i, 1) := by decide +kernel
theorem dX7_isBehind_18 : decode cX7_isBehind 18 = .ok (.istore_n 3, 1) := by decide +kernel
theorem dX7_isBehind_19 : decode cX7_isBehind 19 = .ok (.iload_n 3, 1) := by decide +kernel
theorem dX7_isBehind_20 : decode cX7_isBehind 20 = .ok (.iload_n 2, 1) := by decide +kernel
theorem dX7_isBehind_21 : decode cX7_isBehind 21 = .ok (.if_icmp .ne (-19), 3) := by decide +kernel
theorem dX7_isBehind_24 : decode cX7_isBehind 24 = .ok (.iconst 1, 1) := by decide +kernel
theorem dX7_isBehind_25 : decode cX7_isBehind 25 = .ok (.ireturn, 1) := by decide +kernel
theorem dX7_isBehind_26 : decode cX7_isBehind 26 = .ok (.iconst 0, 1) := by decide +kernel
theorem dX7_isBehind_27 : decode cX7_isBehind 27 = .ok (.ireturn, 1) := by decide +kernel
set_option maxRecDepth 20000 in
theorem ggX7_chain_X7_isDue : GoodIn wsX7_chain wsX7_isDue := goodIn_r _ [8, 9, 10, 11, 7, 12, 13, 14, 15, 16, 17, 37, 38, 39, 40, 41, 42, 43, 44, 45] (by decide +kernel) (by decide +kernel)
set_option maxRecDepth 20000 in
theorem gX7_chain_X7_isDue : GoodIn wsX7_chain (wsV RX7 44 RX7 yX7_isDue wsX7_isDue) := goodIn_app (goodIn_of _ (by decide +kernel)) ggX7_chain_X7_isDue
set_option maxRecDepth 20000 in
theorem ggX7_chain_X7_waits : GoodIn wsX7_chain wsX7_waits := goodIn_r _ [21, 22, 4, 5, 6, 7, 8, 9, 10, 11, 12, 13, 14, 15, 16, 17, 37, 38, 39, 40, 41, 42, 43, 44, 45] (by decide +kernel) (by decide +kernel)
set_option maxRecDepth 20000 in
theorem gX7_chain_X7_waits : GoodIn wsX7_chain (wsV RX7 91 RX7 yX7_waits wsX7_waits) := goodIn_app (goodIn_of _ (by decide +kernel)) ggX7_chain_X7_waits
set_option maxRecDepth 20000 in
theorem ggX7_chain_X7_isBehind : GoodIn wsX7_chain wsX7_isBehind := goodIn_r _ [26, 18, 19, 20, 7, 21, 22, 4, 5, 6, 8, 9, 10, 11, 12, 13, 14, 15, 16, 17, 37, 38, 39, 40, 41, 42, 43, 44, 45] (by decide +kernel) (by decide +kernel)
set_option maxRecDepth 20000 in
theorem gX7_chain_X7_isBehind : GoodIn wsX7_chain (wsV RX7 101 RX7 yX7_isBehind wsX7_isBehind) := goodIn_app (goodIn_of _ (by decide +kernel)) ggX7_chain_X7_isBehind
set_option maxRecDepth 20000 in
theorem ggX7_chain_X7_keep : GoodIn wsX7_chain wsX7_keep := goodIn_r _ [30, 31, 32, 17, 37, 38, 39, 40, 41, 42, 43, 44, 45] (by decide +kernel) (by decide +kernel)
set_option maxRecDepth 20000 in
theorem gX7_chain_X7_keep : GoodIn wsX7_chain (wsV RX7 60 RX7 yX7_keep wsX7_keep) := goodIn_app (goodIn_of _ (by decide +kernel)) ggX7_chain_X7_keep
set_option maxRecDepth 20000 in
theorem ggX7_chain_X7_put : GoodIn wsX7_chain wsX7_put := goodIn_r _ [36, 17, 37, 38, 39, 40, 41, 42, 43, 44, 45] (by decide +kernel) (by decide +kernel)
set_option maxRecDepth 20000 in
theorem gX7_chain_X7_put : GoodIn wsX7_chain (wsV RX7 52 RX7 yX7_put wsX7_put) := goodIn_app (goodIn_of _ (by decide +kernel)) ggX7_chain_X7_put
theorem dX7_chain_0 : decode cX7_chain 0 = .ok (.aload_n 0, 1) := by decide +kernel
theorem dX7_chain_1 : decode cX7_chain 1 = .ok (.iload_n 1, 1) := by decide +kernel
theorem dX7_chain_2 : decode cX7_chain 2 = .ok (.invokevirtual 44, 3) := by decide +kernel
theorem dX7_chain_5 : decode cX7_chain 5 = .ok (.ifCond .eq 11, 3) := by decide +kernel
theorem dX7_chain_8 : decode cX7_chain 8 = .ok (.aload_n 0, 1) := by decide +kernel
theorem dX7_chain_9 : decode cX7_chain 9 = .ok (.iload_n 2, 1) := by decide +kernel
theorem dX7_chain_10 : decode cX7_chain 10 = .ok (.invokevirtual 44, 3) := by decide +kernel
theorem dX7_chain_13 : decode cX7_chain 13 = .ok (.ifCond .ne 7, 3) := by decide +kernel
theorem dX7_chain_16 : decode cX7_chain 16 = .ok (.ldc2_w 73, 3) := by decide +kernel
theorem dX7_chain_19 : decode cX7_chain 19 = .ok (.lreturn, 1) := by decide +kernel
theorem dX7_chain_20 : decode cX7_chain 20 = .ok (.aload_n 0, 1) := by decide +kernel
theorem dX7_chain_21 : decode cX7_chain 21 = .ok (.iload_n 1, 1) := by decide +kernel
theorem dX7_chain_22 : decode cX7_chain 22 = .ok (.invokevirtual 91, 3) := by decide +kernel
theorem dX7_chain_25 : decode cX7_chain 25 = .ok (.ifCond .ne 7, 3) := by decide +kernel
theorem dX7_chain_28 : decode cX7_chain 28 = .ok (.ldc2_w 50, 3) := by decide +kernel
theorem dX7_chain_31 : decode cX7_chain 31 = .ok (.lreturn, 1) := by decide +kernel
theorem dX7_chain_32 : decode cX7_chain 32 = .ok (.iload_n 2, 1) := by decide +kernel
theorem dX7_chain_33 : decode cX7_chain 33 = .ok (.iload_n 1, 1) := by decide +kernel
theorem dX7_chain_34 : decode cX7_chain 34 = .ok (.if_icmp .eq 12, 3) := by decide +kernel
theorem dX7_chain_37 : decode cX7_chain 37 = .ok (.aload_n 0, 1) := by decide +kernel
theorem dX7_chain_38 : decode cX7_chain 38 = .ok (.iload_n 2, 1) := by decide +kernel
theorem dX7_chain_39 : decode cX7_chain 39 = .ok (.iload_n 1, 1) := by decide +kernel
theorem dX7_chain_40 : decode cX7_chain 40 = .ok (.invokevirtual 101, 3) := by decide +kernel
theorem dX7_chain_43 : decode cX7_chain 43 = .ok (.ifCond .eq 7, 3) := by decide +kernel
theorem dX7_chain_46 : decode cX7_chain 46 = .ok (.ldc2_w 105, 3) := by decide +kernel
theorem dX7_chain_49 : decode cX7_chain 49 = .ok (.lreturn, 1) := by decide +kernel
theorem dX7_chain_50 : decode cX7_chain 50 = .ok (.aload_n 0, 1) := by decide +kernel
theorem dX7_chain_51 : decode cX7_chain 51 = .ok (.invokevirtual 60, 3) := by decide +kernel
theorem dX7_chain_54 : decode cX7_chain 54 = .ok (.aload_n 0, 1) := by decide +kernel
theorem dX7_chain_55 : decode cX7_chain 55 = .ok (.iload_n 1, 1) := by decide +kernel
theorem dX7_chain_56 : decode cX7_chain 56 = .ok (.bipush 7, 2) := by decide +kernel
theorem dX7_chain_58 : decode cX7_chain 58 = .ok (.iload_n 2, 1) := by decide +kernel
theorem dX7_chain_59 : decode cX7_chain 59 = .ok (.i2l, 1) := by decide +kernel
theorem dX7_chain_60 : decode cX7_chain 60 = .ok (.invokevirtual 52, 3) := by decide +kernel
theorem dX7_chain_63 : decode cX7_chain 63 = .ok (.lconst 0, 1) := by decide +kernel
theorem dX7_chain_64 : decode cX7_chain 64 = .ok (.lreturn, 1) := by decide +kernel
set_option maxRecDepth 20000 in
theorem ggX7_rest_X7_isDue : GoodIn wsX7_rest wsX7_isDue := goodIn_r _ [10, 11, 12, 13, 9, 14, 15, 16, 17, 18, 4, 33, 34, 35, 36, 37, 38, 39, 40, 41] (by decide +kernel) (by decide +kernel)
set_option maxRecDepth 20000 in
theorem gX7_rest_X7_isDue : GoodIn wsX7_rest (wsV RX7 44 RX7 yX7_isDue wsX7_isDue) := goodIn_app (goodIn_of _ (by decide +kernel)) ggX7_rest_X7_isDue
set_option maxRecDepth 20000 in
theorem ggX7_rest_X7_get : GoodIn wsX7_rest wsX7_get := goodIn_r _ [18, 4, 33, 34, 35, 36, 37, 38, 39, 40, 41] (by decide +kernel) (by decide +kernel)
set_option maxRecDepth 20000 in
theorem gX7_rest_X7_get : GoodIn wsX7_rest (wsV RX7 40 RX7 yX7_get wsX7_get) := goodIn_app (goodIn_of _ (by decide +kernel)) ggX7_rest_X7_get
set_option maxRecDepth 20000 in
theorem ggX7_rest_X7_rests : GoodIn wsX7_rest wsX7_rests := goodIn_r _ [22, 5, 6, 7, 8, 9, 10, 11, 12, 13, 14, 15, 16, 17, 18, 4, 33, 34, 35, 36, 37, 38, 39, 40, 41] (by decide +kernel) (by decide +kernel)
set_option maxRecDepth 20000 in
theorem gX7_rest_X7_rests : GoodIn wsX7_rest (wsV RX7 109 RX7 yX7_rests wsX7_rests) := goodIn_app (goodIn_of _ (by decide +kernel)) ggX7_rest_X7_rests
set_option maxRecDepth 20000 in
theorem ggX7_rest_X7_keep : GoodIn wsX7_rest wsX7_keep := goodIn_r _ [26, 27, 28, 4, 33, 34, 35, 36, 37, 38, 39, 40, 41] (by decide +kernel) (by decide +kernel)
set_option maxRecDepth 20000 in
theorem gX7_rest_X7_keep : GoodIn wsX7_rest (wsV RX7 60 RX7 yX7_keep wsX7_keep) := goodIn_app (goodIn_of _ (by decide +kernel)) ggX7_rest_X7_keep
set_option maxRecDepth 20000 in
theorem ggX7_rest_X7_put : GoodIn wsX7_rest wsX7_put := goodIn_r _ [32, 4, 33, 34, 35, 36, 37, 38, 39, 40, 41] (by decide +kernel) (by decide +kernel)
set_option maxRecDepth 20000 in
theorem gX7_rest_X7_put : GoodIn wsX7_rest (wsV RX7 52 RX7 yX7_put wsX7_put) := goodIn_app (goodIn_of _ (by decide +kernel)) ggX7_rest_X7_put
theorem dX7_rest_0 : decode cX7_rest 0 = .ok (.aload_n 0, 1) := by decide +kernel
theorem dX7_rest_1 : decode cX7_rest 1 = .ok (.iload_n 1, 1) := by decide +kernel
theorem dX7_rest_2 : decode cX7_rest 2 = .ok (.invokevirtual 44, 3) := by decide +kernel
theorem dX7_rest_5 : decode cX7_rest 5 = .ok (.ifCond .ne 7, 3) := by decide +kernel
theorem dX7_rest_8 : decode cX7_rest 8 = .ok (.ldc2_w 73, 3) := by decide +kernel
theorem dX7_rest_11 : decode cX7_rest 11 = .ok (.lreturn, 1) := by decide +kernel
theorem dX7_rest_12 : decode cX7_rest 12 = .ok (.aload_n 0, 1) := by decide +kernel
theorem dX7_rest_13 : decode cX7_rest 13 = .ok (.iload_n 1, 1) := by decide +kernel
theorem dX7_rest_14 : decode cX7_rest 14 = .ok (.iconst 1, 1) := by decide +kernel
theorem dX7_rest_15 : decode cX7_rest 15 = .ok (.invokevirtual 40, 3) := by decide +kernel
theorem dX7_rest_18 : decode cX7_rest 18 = .ok (.ldc2_w 107, 3) := by decide +kernel
theorem dX7_rest_21 : decode cX7_rest 21 = .ok (.lcmp, 1) := by decide +kernel
theorem dX7_rest_22 : decode cX7_rest 22 = .ok (.ifCond .ne 11, 3) := by decide +kernel
theorem dX7_rest_25 : decode cX7_rest 25 = .ok (.aload_n 0, 1) := by decide +kernel
theorem dX7_rest_26 : decode cX7_rest 26 = .ok (.iload_n 1, 1) := by decide +kernel
theorem dX7_rest_27 : decode cX7_rest 27 = .ok (.invokevirtual 109, 3) := by decide +kernel
theorem dX7_rest_30 : decode cX7_rest 30 = .ok (.ifCond .eq 7, 3) := by decide +kernel
theorem dX7_rest_33 : decode cX7_rest 33 = .ok (.ldc2_w 50, 3) := by decide +kernel
theorem dX7_rest_36 : decode cX7_rest 36 = .ok (.lreturn, 1) := by decide +kernel
theorem dX7_rest_37 : decode cX7_rest 37 = .ok (.aload_n 0, 1) := by decide +kernel
theorem dX7_rest_38 : decode cX7_rest 38 = .ok (.invokevirtual 60, 3) := by decide +kernel
theorem dX7_rest_41 : decode cX7_rest 41 = .ok (.aload_n 0, 1) := by decide +kernel
theorem dX7_rest_42 : decode cX7_rest 42 = .ok (.iload_n 1, 1) := by decide +kernel
theorem dX7_rest_43 : decode cX7_rest 43 = .ok (.iconst 3, 1) := by decide +kernel
theorem dX7_rest_44 : decode cX7_rest 44 = .ok (.invokevirtual 40, 3) := by decide +kernel
theorem dX7_rest_47 : decode cX7_rest 47 = .ok (.aload_n 0, 1) := by decide +kernel
theorem dX7_rest_48 : decode cX7_rest 48 = .ok (.getfield 7, 3) := by decide +kernel
theorem dX7_rest_51 : decode cX7_rest 51 = .ok (.sipush 3700, 3) := by decide +kernel
theorem dX7_rest_54 : decode cX7_rest 54 = .ok (.laload, 1) := by decide +kernel
theorem dX7_rest_55 : decode cX7_rest 55 = .ok (.lsub, 1) := by decide +kernel
theorem dX7_rest_56 : decode cX7_rest 56 = .ok (.lstore_n 2, 1) := by decide +kernel
theorem dX7_rest_57 : decode cX7_rest 57 = .ok (.aload_n 0, 1) := by decide +kernel
theorem dX7_rest_58 : decode cX7_rest 58 = .ok (.iload_n 1, 1) := by decide +kernel
theorem dX7_rest_59 : decode cX7_rest 59 = .ok (.bipush 10, 2) := by decide +kernel
theorem dX7_rest_61 : decode cX7_rest 61 = .ok (.lload_n 2, 1) := by decide +kernel
theorem dX7_rest_62 : decode cX7_rest 62 = .ok (.invokevirtual 52, 3) := by decide +kernel
theorem dX7_rest_65 : decode cX7_rest 65 = .ok (.aload_n 0, 1) := by decide +kernel
theorem dX7_rest_66 : decode cX7_rest 66 = .ok (.iload_n 1, 1) := by decide +kernel
theorem dX7_rest_67 : decode cX7_rest 67 = .ok (.iconst 3, 1) := by decide +kernel
theorem dX7_rest_68 : decode cX7_rest 68 = .ok (.ldc2_w 48, 3) := by decide +kernel
theorem dX7_rest_71 : decode cX7_rest 71 = .ok (.invokevirtual 52, 3) := by decide +kernel
theorem dX7_rest_74 : decode cX7_rest 74 = .ok (.aload_n 0, 1) := by decide +kernel
theorem dX7_rest_75 : decode cX7_rest 75 = .ok (.iload_n 1, 1) := by decide +kernel
theorem dX7_rest_76 : decode cX7_rest 76 = .ok (.bipush 12, 2) := by decide +kernel
theorem dX7_rest_78 : decode cX7_rest 78 = .ok (.lconst 0, 1) := by decide +kernel
theorem dX7_rest_79 : decode cX7_rest 79 = .ok (.invokevirtual 52, 3) := by decide +kernel
theorem dX7_rest_82 : decode cX7_rest 82 = .ok (.lload_n 2, 1) := by decide +kernel
theorem dX7_rest_83 : decode cX7_rest 83 = .ok (.lreturn, 1) := by decide +kernel
set_option maxRecDepth 20000 in
theorem ggX7_wake_X7_isDue : GoodIn wsX7_wake wsX7_isDue := goodIn_r _ [10, 11, 12, 13, 9, 14, 15, 16, 17, 18, 3, 41, 42, 43, 44, 45, 46, 47, 48, 49] (by decide +kernel) (by decide +kernel)
set_option maxRecDepth 20000 in
theorem gX7_wake_X7_isDue : GoodIn wsX7_wake (wsV RX7 44 RX7 yX7_isDue wsX7_isDue) := goodIn_app (goodIn_of _ (by decide +kernel)) ggX7_wake_X7_isDue
set_option maxRecDepth 20000 in
theorem ggX7_wake_X7_rests : GoodIn wsX7_wake wsX7_rests := goodIn_r _ [22, 5, 6, 7, 8, 9, 10, 11, 12, 13, 14, 15, 16, 17, 18, 3, 41, 42, 43, 44, 45, 46, 47, 48, 49] (by decide +kernel) (by decide +kernel)
set_option maxRecDepth 20000 in
theorem gX7_wake_X7_rests : GoodIn wsX7_wake (wsV RX7 109 RX7 yX7_rests wsX7_rests) := goodIn_app (goodIn_of _ (by decide +kernel)) ggX7_wake_X7_rests
set_option maxRecDepth 20000 in
theorem ggX7_wake_X7_keep : GoodIn wsX7_wake wsX7_keep := goodIn_r _ [26, 27, 28, 3, 41, 42, 43, 44, 45, 46, 47, 48, 49] (by decide +kernel) (by decide +kernel)
set_option maxRecDepth 20000 in
theorem gX7_wake_X7_keep : GoodIn wsX7_wake (wsV RX7 60 RX7 yX7_keep wsX7_keep) := goodIn_app (goodIn_of _ (by decide +kernel)) ggX7_wake_X7_keep
set_option maxRecDepth 20000 in
theorem ggX7_wake_X7_get : GoodIn wsX7_wake wsX7_get := goodIn_r _ [18, 3, 41, 42, 43, 44, 45, 46, 47, 48, 49] (by decide +kernel) (by decide +kernel)
set_option maxRecDepth 20000 in
theorem gX7_wake_X7_get : GoodIn wsX7_wake (wsV RX7 40 RX7 yX7_get wsX7_get) := goodIn_app (goodIn_of _ (by decide +kernel)) ggX7_wake_X7_get
set_option maxRecDepth 20000 in
theorem ggX7_wake_X7_put : GoodIn wsX7_wake wsX7_put := goodIn_r _ [32, 3, 41, 42, 43, 44, 45, 46, 47, 48, 49] (by decide +kernel) (by decide +kernel)
set_option maxRecDepth 20000 in
theorem gX7_wake_X7_put : GoodIn wsX7_wake (wsV RX7 52 RX7 yX7_put wsX7_put) := goodIn_app (goodIn_of _ (by decide +kernel)) ggX7_wake_X7_put
set_option maxRecDepth 20000 in
theorem ggX7_wake_X7_tick : GoodIn wsX7_wake wsX7_tick := goodIn_r _ [36, 29, 30, 31, 9, 32, 3, 41, 42, 43, 44, 45, 46, 47, 48, 49] (by decide +kernel) (by decide +kernel)
set_option maxRecDepth 20000 in
theorem gX7_wake_X7_tick : GoodIn wsX7_wake (wsV RX7 81 RX7 yX7_tick wsX7_tick) := goodIn_app (goodIn_of _ (by decide +kernel)) ggX7_wake_X7_tick
set_option maxRecDepth 20000 in
theorem ggX7_wake_X7_line : GoodIn wsX7_wake wsX7_line := goodIn_r _ [40, 3, 29, 30, 31, 9, 32, 41, 42, 43, 44, 45, 46, 47, 48, 49] (by decide +kernel) (by decide +kernel)
set_option maxRecDepth 20000 in
theorem gX7_wake_X7_line : GoodIn wsX7_wake (wsV RX7 63 RX7 yX7_line wsX7_line) := goodIn_app (goodIn_of _ (by decide +kernel)) ggX7_wake_X7_line
theorem dX7_wake_0 : decode cX7_wake 0 = .ok (.aload_n 0, 1) := by decide +kernel
theorem dX7_wake_1 : decode cX7_wake 1 = .ok (.iload_n 1, 1) := by decide +kernel
theorem dX7_wake_2 : decode cX7_wake 2 = .ok (.invokevirtual 44, 3) := by decide +kernel
theorem dX7_wake_5 : decode cX7_wake 5 = .ok (.ifCond .ne 7, 3) := by decide +kernel
theorem dX7_wake_8 : decode cX7_wake 8 = .ok (.ldc2_w 73, 3) := by decide +kernel
theorem dX7_wake_11 : decode cX7_wake 11 = .ok (.lreturn, 1) := by decide +kernel
theorem dX7_wake_12 : decode cX7_wake 12 = .ok (.aload_n 0, 1) := by decide +kernel
theorem dX7_wake_13 : decode cX7_wake 13 = .ok (.iload_n 1, 1) := by decide +kernel
theorem dX7_wake_14 : decode cX7_wake 14 = .ok (.invokevirtual 109, 3) := by decide +kernel
theorem dX7_wake_17 : decode cX7_wake 17 = .ok (.ifCond .ne 7, 3) := by decide +kernel
theorem dX7_wake_20 : decode cX7_wake 20 = .ok (.ldc2_w 50, 3) := by decide +kernel
theorem dX7_wake_23 : decode cX7_wake 23 = .ok (.lreturn, 1) := by decide +kernel
theorem dX7_wake_24 : decode cX7_wake 24 = .ok (.aload_n 0, 1) := by decide +kernel
theorem dX7_wake_25 : decode cX7_wake 25 = .ok (.invokevirtual 60, 3) := by decide +kernel
theorem dX7_wake_28 : decode cX7_wake 28 = .ok (.aload_n 0, 1) := by decide +kernel
theorem dX7_wake_29 : decode cX7_wake 29 = .ok (.getfield 7, 3) := by decide +kernel
theorem dX7_wake_32 : decode cX7_wake 32 = .ok (.sipush 3700, 3) := by decide +kernel
theorem dX7_wake_35 : decode cX7_wake 35 = .ok (.laload, 1) := by decide +kernel
theorem dX7_wake_36 : decode cX7_wake 36 = .ok (.aload_n 0, 1) := by decide +kernel
theorem dX7_wake_37 : decode cX7_wake 37 = .ok (.iload_n 1, 1) := by decide +kernel
theorem dX7_wake_38 : decode cX7_wake 38 = .ok (.bipush 10, 2) := by decide +kernel
theorem dX7_wake_40 : decode cX7_wake 40 = .ok (.invokevirtual 40, 3) := by decide +kernel
theorem dX7_wake_43 : decode cX7_wake 43 = .ok (.ladd, 1) := by decide +kernel
theorem dX7_wake_44 : decode cX7_wake 44 = .ok (.lstore_n 2, 1) := by decide +kernel
theorem dX7_wake_45 : decode cX7_wake 45 = .ok (.lload_n 2, 1) := by decide +kernel
theorem dX7_wake_46 : decode cX7_wake 46 = .ok (.ldc2_w 67, 3) := by decide +kernel
theorem dX7_wake_49 : decode cX7_wake 49 = .ok (.lcmp, 1) := by decide +kernel
theorem dX7_wake_50 : decode cX7_wake 50 = .ok (.ifCond .le 9, 3) := by decide +kernel
theorem dX7_wake_53 : decode cX7_wake 53 = .ok (.ldc2_w 67, 3) := by decide +kernel
theorem dX7_wake_56 : decode cX7_wake 56 = .ok (.goto 4, 3) := by decide +kernel
theorem dX7_wake_59 : decode cX7_wake 59 = .ok (.lload_n 2, 1) := by decide +kernel
theorem dX7_wake_60 : decode cX7_wake 60 = .ok (.lstore_n 2, 1) := by decide +kernel
theorem dX7_wake_61 : decode cX7_wake 61 = .ok (.aload_n 0, 1) := by decide +kernel
theorem dX7_wake_62 : decode cX7_wake 62 = .ok (.iload_n 1, 1) := by decide +kernel
theorem dX7_wake_63 : decode cX7_wake 63 = .ok (.bipush 10, 2) := by decide +kernel
theorem dX7_wake_65 : decode cX7_wake 65 = .ok (.ldc2_w 48, 3) := by decide +kernel
theorem dX7_wake_68 : decode cX7_wake 68 = .ok (.invokevirtual 52, 3) := by decide +kernel
theorem dX7_wake_71 : decode cX7_wake 71 = .ok (.aload_n 0, 1) := by decide +kernel
theorem dX7_wake_72 : decode cX7_wake 72 = .ok (.iload_n 1, 1) := by decide +kernel
theorem dX7_wake_73 : decode cX7_wake 73 = .ok (.lload_n 2, 1) := by decide +kernel
theorem dX7_wake_74 : decode cX7_wake 74 = .ok (.invokevirtual 81, 3) := by decide +kernel
theorem dX7_wake_77 : decode cX7_wake 77 = .ok (.aload_n 0, 1) := by decide +kernel
theorem dX7_wake_78 : decode cX7_wake 78 = .ok (.iload_n 1, 1) := by decide +kernel
theorem dX7_wake_79 : decode cX7_wake 79 = .ok (.invokevirtual 63, 3) := by decide +kernel
theorem dX7_wake_82 : decode cX7_wake 82 = .ok (.lload_n 2, 1) := by decide +kernel
theorem dX7_wake_83 : decode cX7_wake 83 = .ok (.lreturn, 1) := by decide +kernel
set_option maxRecDepth 20000 in
theorem ggX7_about_X7_isDue : GoodIn wsX7_about wsX7_isDue := goodIn_r _ [7, 8, 9, 10, 6, 11, 12, 13, 14, 15, 16, 17, 18, 19, 20, 21, 22, 23, 24, 25] (by decide +kernel) (by decide +kernel)
set_option maxRecDepth 20000 in
theorem gX7_about_X7_isDue : GoodIn wsX7_about (wsV RX7 44 RX7 yX7_isDue wsX7_isDue) := goodIn_app (goodIn_of _ (by decide +kernel)) ggX7_about_X7_isDue
set_option maxRecDepth 20000 in
theorem ggX7_about_X7_isIn : GoodIn wsX7_about wsX7_isIn := goodIn_r _ [11] (by decide +kernel) (by decide +kernel)
set_option maxRecDepth 20000 in
theorem gX7_about_X7_isIn : GoodIn wsX7_about (va_wsS RX7 36 yX7_isIn wsX7_isIn) := goodIn_app (goodIn_of _ (by decide +kernel)) ggX7_about_X7_isIn
set_option maxRecDepth 20000 in
theorem ggX7_about_X7_get : GoodIn wsX7_about wsX7_get := goodIn_r _ [15, 16, 17, 18, 19, 20, 21, 22, 23, 24, 25] (by decide +kernel) (by decide +kernel)
set_option maxRecDepth 20000 in
theorem gX7_about_X7_get : GoodIn wsX7_about (wsV RX7 40 RX7 yX7_get wsX7_get) := goodIn_app (goodIn_of _ (by decide +kernel)) ggX7_about_X7_get
theorem dX7_about_0 : decode cX7_about 0 = .ok (.aload_n 0, 1) := by decide +kernel
theorem dX7_about_1 : decode cX7_about 1 = .ok (.iload_n 1, 1) := by decide +kernel
theorem dX7_about_2 : decode cX7_about 2 = .ok (.invokevirtual 44, 3) := by decide +kernel
theorem dX7_about_5 : decode cX7_about 5 = .ok (.ifCond .eq 15, 3) := by decide +kernel
theorem dX7_about_8 : decode cX7_about 8 = .ok (.iload_n 2, 1) := by decide +kernel
theorem dX7_about_9 : decode cX7_about 9 = .ok (.i2l, 1) := by decide +kernel
theorem dX7_about_10 : decode cX7_about 10 = .ok (.lconst 0, 1) := by decide +kernel
theorem dX7_about_11 : decode cX7_about 11 = .ok (.ldc2_w 112, 3) := by decide +kernel
theorem dX7_about_14 : decode cX7_about 14 = .ok (.invokestatic 36, 3) := by decide +kernel
theorem dX7_about_17 : decode cX7_about 17 = .ok (.ifCond .ne 7, 3) := by decide +kernel
theorem dX7_about_20 : decode cX7_about 20 = .ok (.ldc2_w 73, 3) := by decide +kernel
theorem dX7_about_23 : decode cX7_about 23 = .ok (.lreturn, 1) := by decide +kernel
theorem dX7_about_24 : decode cX7_about 24 = .ok (.iload_n 2, 1) := by decide +kernel
theorem dX7_about_25 : decode cX7_about 25 = .ok (.tableswitch 106 0 7 #[47, 54, 61, 68, 75, 82, 90, 98], 47) := by decide +kernel
theorem dX7_about_72 : decode cX7_about 72 = .ok (.aload_n 0, 1) := by decide +kernel
theorem dX7_about_73 : decode cX7_about 73 = .ok (.iload_n 1, 1) := by decide +kernel
theorem dX7_about_74 : decode cX7_about 74 = .ok (.iconst 1, 1) := by decide +kernel
theorem dX7_about_75 : decode cX7_about 75 = .ok (.invokevirtual 40, 3) := by decide +kernel
theorem dX7_about_78 : decode cX7_about 78 = .ok (.lreturn, 1) := by decide +kernel
theorem dX7_about_79 : decode cX7_about 79 = .ok (.aload_n 0, 1) := by decide +kernel
theorem dX7_about_80 : decode cX7_about 80 = .ok (.iload_n 1, 1) := by decide +kernel
theorem dX7_about_81 : decode cX7_about 81 = .ok (.iconst 2, 1) := by decide +kernel
theorem dX7_about_82 : decode cX7_about 82 = .ok (.invokevirtual 40, 3) := by decide +kernel
theorem dX7_about_85 : decode cX7_about 85 = .ok (.lreturn, 1) := by decide +kernel
theorem dX7_about_86 : decode cX7_about 86 = .ok (.aload_n 0, 1) := by decide +kernel
theorem dX7_about_87 : decode cX7_about 87 = .ok (.iload_n 1, 1) := by decide +kernel
theorem dX7_about_88 : decode cX7_about 88 = .ok (.iconst 3, 1) := by decide +kernel
theorem dX7_about_89 : decode cX7_about 89 = .ok (.invokevirtual 40, 3) := by decide +kernel
theorem dX7_about_92 : decode cX7_about 92 = .ok (.lreturn, 1) := by decide +kernel
theorem dX7_about_93 : decode cX7_about 93 = .ok (.aload_n 0, 1) := by decide +kernel
theorem dX7_about_94 : decode cX7_about 94 = .ok (.iload_n 1, 1) := by decide +kernel
theorem dX7_about_95 : decode cX7_about 95 = .ok (.iconst 4, 1) := by decide +kernel
theorem dX7_about_96 : decode cX7_about 96 = .ok (.invokevirtual 40, 3) := by decide +kernel
theorem dX7_about_99 : decode cX7_about 99 = .ok (.lreturn, 1) := by decide +kernel
theorem dX7_about_100 : decode cX7_about 100 = .ok (.aload_n 0, 1) := by decide +kernel
theorem dX7_about_101 : decode cX7_about 101 = .ok (.iload_n 1, 1) := by decide +kernel
theorem dX7_about_102 : decode cX7_about 102 = .ok (.iconst 5, 1) := by decide +kernel
theorem dX7_about_103 : decode cX7_about 103 = .ok (.invokevirtual 40, 3) := by decide +kernel
theorem dX7_about_106 : decode cX7_about 106 = .ok (.lreturn, 1) := by decide +kernel
theorem dX7_about_107 : decode cX7_about 107 = .ok (.aload_n 0, 1) := by decide +kernel
theorem dX7_about_108 : decode cX7_about 108 = .ok (.iload_n 1, 1) := by decide +kernel
theorem dX7_about_109 : decode cX7_about 109 = .ok (.bipush 6, 2) := by decide +kernel
theorem dX7_about_111 : decode cX7_about 111 = .ok (.invokevirtual 40, 3) := by decide +kernel
theorem dX7_about_114 : decode cX7_about 114 = .ok (.lreturn, 1) := by decide +kernel
theorem dX7_about_115 : decode cX7_about 115 = .ok (.aload_n 0, 1) := by decide +kernel
theorem dX7_about_116 : decode cX7_about 116 = .ok (.iload_n 1, 1) := by decide +kernel
theorem dX7_about_117 : decode cX7_about 117 = .ok (.bipush 7, 2) := by decide +kernel
theorem dX7_about_119 : decode cX7_about 119 = .ok (.invokevirtual 40, 3) := by decide +kernel
theorem dX7_about_122 : decode cX7_about 122 = .ok (.lreturn, 1) := by decide +kernel
theorem dX7_about_123 : decode cX7_about 123 = .ok (.aload_n 0, 1) := by decide +kernel
theorem dX7_about_124 : decode cX7_about 124 = .ok (.iload_n 1, 1) := by decide +kernel
theorem dX7_about_125 : decode cX7_about 125 = .ok (.bipush 10, 2) := by decide +kernel
theorem dX7_about_127 : decode cX7_about 127 = .ok (.invokevirtual 40, 3) := by decide +kernel
theorem dX7_about_130 : decode cX7_about 130 = .ok (.lreturn, 1) := by decide +kernel
theorem dX7_about_131 : decode cX7_about 131 = .ok (.aload_n 0, 1) := by decide +kernel
theorem dX7_about_132 : decode cX7_about 132 = .ok (.iload_n 1, 1) := by decide +kernel
theorem dX7_about_133 : decode cX7_about 133 = .ok (.bipush 11, 2) := by decide +kernel
theorem dX7_about_135 : decode cX7_about 135 = .ok (.invokevirtual 40, 3) := by decide +kernel
theorem dX7_about_138 : decode cX7_about 138 = .ok (.lreturn, 1) := by decide +kernel
set_option maxRecDepth 20000 in
theorem ggX7_isOf_X7_isDue : GoodIn wsX7_isOf wsX7_isDue := goodIn_r _ [7, 8, 9, 10, 6, 11, 12, 13, 14, 15, 16, 17, 18, 19, 20, 21, 22, 23, 24, 25] (by decide +kernel) (by decide +kernel)
set_option maxRecDepth 20000 in
theorem gX7_isOf_X7_isDue : GoodIn wsX7_isOf (wsV RX7 44 RX7 yX7_isDue wsX7_isDue) := goodIn_app (goodIn_of _ (by decide +kernel)) ggX7_isOf_X7_isDue
set_option maxRecDepth 20000 in
theorem ggX7_isOf_X7_isIn : GoodIn wsX7_isOf wsX7_isIn := goodIn_r _ [11] (by decide +kernel) (by decide +kernel)
set_option maxRecDepth 20000 in
theorem gX7_isOf_X7_isIn : GoodIn wsX7_isOf (va_wsS RX7 36 yX7_isIn wsX7_isIn) := goodIn_app (goodIn_of _ (by decide +kernel)) ggX7_isOf_X7_isIn
set_option maxRecDepth 20000 in
theorem ggX7_isOf_X7_get : GoodIn wsX7_isOf wsX7_get := goodIn_r _ [15, 16, 17, 18, 19, 20, 21, 22, 23, 24, 25] (by decide +kernel) (by decide +kernel)
set_option maxRecDepth 20000 in
theorem gX7_isOf_X7_get : GoodIn wsX7_isOf (wsV RX7 40 RX7 yX7_get wsX7_get) := goodIn_app (goodIn_of _ (by decide +kernel)) ggX7_isOf_X7_get
theorem dX7_isOf_0 : decode cX7_isOf 0 = .ok (.aload_n 0, 1) := by decide +kernel
theorem dX7_isOf_1 : decode cX7_isOf 1 = .ok (.iload_n 1, 1) := by decide +kernel
theorem dX7_isOf_2 : decode cX7_isOf 2 = .ok (.invokevirtual 44, 3) := by decide +kernel
theorem dX7_isOf_5 : decode cX7_isOf 5 = .ok (.ifCond .eq 15, 3) := by decide +kernel
theorem dX7_isOf_8 : decode cX7_isOf 8 = .ok (.iload_n 2, 1) := by decide +kernel
theorem dX7_isOf_9 : decode cX7_isOf 9 = .ok (.i2l, 1) := by decide +kernel
theorem dX7_isOf_10 : decode cX7_isOf 10 = .ok (.lconst 0, 1) := by decide +kernel
theorem dX7_isOf_11 : decode cX7_isOf 11 = .ok (.ldc2_w 107, 3) := by decide +kernel
theorem dX7_isOf_14 : decode cX7_isOf 14 = .ok (.invokestatic 36, 3) := by decide +kernel
theorem dX7_isOf_17 : decode cX7_isOf 17 = .ok (.ifCond .ne 7, 3) := by decide +kernel
theorem dX7_isOf_20 : decode cX7_isOf 20 = .ok (.ldc2_w 73, 3) := by decide +kernel
theorem dX7_isOf_23 : decode cX7_isOf 23 = .ok (.lreturn, 1) := by decide +kernel
theorem dX7_isOf_24 : decode cX7_isOf 24 = .ok (.aload_n 0, 1) := by decide +kernel
theorem dX7_isOf_25 : decode cX7_isOf 25 = .ok (.iload_n 1, 1) := by decide +kernel
theorem dX7_isOf_26 : decode cX7_isOf 26 = .ok (.iconst 1, 1) := by decide +kernel
theorem dX7_isOf_27 : decode cX7_isOf 27 = .ok (.invokevirtual 40, 3) := by decide +kernel
theorem dX7_isOf_30 : decode cX7_isOf 30 = .ok (.lstore_n 3, 1) := by decide +kernel
theorem dX7_isOf_31 : decode cX7_isOf 31 = .ok (.lload_n 3, 1) := by decide +kernel
theorem dX7_isOf_32 : decode cX7_isOf 32 = .ok (.iload_n 2, 1) := by decide +kernel
theorem dX7_isOf_33 : decode cX7_isOf 33 = .ok (.i2l, 1) := by decide +kernel
theorem dX7_isOf_34 : decode cX7_isOf 34 = .ok (.lcmp, 1) := by decide +kernel
theorem dX7_isOf_35 : decode cX7_isOf 35 = .ok (.ifCond .eq 16, 3) := by decide +kernel
theorem dX7_isOf_38 : decode cX7_isOf 38 = .ok (.lload_n 3, 1) := by decide +kernel
theorem dX7_isOf_39 : decode cX7_isOf 39 = .ok (.ldc2_w 107, 3) := by decide +kernel
theorem dX7_isOf_42 : decode cX7_isOf 42 = .ok (.lcmp, 1) := by decide +kernel
theorem dX7_isOf_43 : decode cX7_isOf 43 = .ok (.ifCond .ne 12, 3) := by decide +kernel
theorem dX7_isOf_46 : decode cX7_isOf 46 = .ok (.iload_n 2, 1) := by decide +kernel
theorem dX7_isOf_47 : decode cX7_isOf 47 = .ok (.iconst 1, 1) := by decide +kernel
theorem dX7_isOf_48 : decode cX7_isOf 48 = .ok (.if_icmp .ne 7, 3) := by decide +kernel
theorem dX7_isOf_51 : decode cX7_isOf 51 = .ok (.lconst 1, 1) := by decide +kernel
theorem dX7_isOf_52 : decode cX7_isOf 52 = .ok (.goto 4, 3) := by decide +kernel
theorem dX7_isOf_55 : decode cX7_isOf 55 = .ok (.lconst 0, 1) := by decide +kernel
theorem dX7_isOf_56 : decode cX7_isOf 56 = .ok (.lreturn, 1) := by decide +kernel
theorem dX7_turnOf_0 : decode cX7_turnOf 0 = .ok (.bipush 6, 2) := by decide +kernel
theorem dX7_turnOf_2 : decode cX7_turnOf 2 = .ok (.iload_n 2, 1) := by decide +kernel
theorem dX7_turnOf_3 : decode cX7_turnOf 3 = .ok (.iconst 1, 1) := by decide +kernel
theorem dX7_turnOf_4 : decode cX7_turnOf 4 = .ok (.iadd, 1) := by decide +kernel
theorem dX7_turnOf_5 : decode cX7_turnOf 5 = .ok (.imul, 1) := by decide +kernel
theorem dX7_turnOf_6 : decode cX7_turnOf 6 = .ok (.istore_n 3, 1) := by decide +kernel
theorem dX7_turnOf_7 : decode cX7_turnOf 7 = .ok (.lload_n 0, 1) := by decide +kernel
theorem dX7_turnOf_8 : decode cX7_turnOf 8 = .ok (.iload_n 3, 1) := by decide +kernel
theorem dX7_turnOf_9 : decode cX7_turnOf 9 = .ok (.lshr, 1) := by decide +kernel
theorem dX7_turnOf_10 : decode cX7_turnOf 10 = .ok (.iload_n 3, 1) := by decide +kernel
theorem dX7_turnOf_11 : decode cX7_turnOf 11 = .ok (.lshl, 1) := by decide +kernel
theorem dX7_turnOf_12 : decode cX7_turnOf 12 = .ok (.lreturn, 1) := by decide +kernel
set_option maxRecDepth 20000 in
theorem ggX7_wheelOf_X7_turnOf : GoodIn wsX7_wheelOf wsX7_turnOf := goodIn_r _ [5] (by decide +kernel) (by decide +kernel)
set_option maxRecDepth 20000 in
theorem gX7_wheelOf_X7_turnOf : GoodIn wsX7_wheelOf (va_wsS RX7 114 yX7_turnOf wsX7_turnOf) := goodIn_app (goodIn_of _ (by decide +kernel)) ggX7_wheelOf_X7_turnOf
theorem dX7_wheelOf_0 : decode cX7_wheelOf 0 = .ok (.iconst 0, 1) := by decide +kernel
theorem dX7_wheelOf_1 : decode cX7_wheelOf 1 = .ok (.istore_n 3, 1) := by decide +kernel
theorem dX7_wheelOf_2 : decode cX7_wheelOf 2 = .ok (.iload_n 3, 1) := by decide +kernel
theorem dX7_wheelOf_3 : decode cX7_wheelOf 3 = .ok (.iconst 5, 1) := by decide +kernel
theorem dX7_wheelOf_4 : decode cX7_wheelOf 4 = .ok (.if_icmp .ge 26, 3) := by decide +kernel
theorem dX7_wheelOf_7 : decode cX7_wheelOf 7 = .ok (.aload_n 0, 1) := by decide +kernel
theorem dX7_wheelOf_8 : decode cX7_wheelOf 8 = .ok (.getfield 7, 3) := by decide +kernel
theorem dX7_wheelOf_11 : decode cX7_wheelOf 11 = .ok (.sipush 3700, 3) := by decide +kernel
theorem dX7_wheelOf_14 : decode cX7_wheelOf 14 = .ok (.laload, 1) := by decide +kernel
theorem dX7_wheelOf_15 : decode cX7_wheelOf 15 = .ok (.lload_n 1, 1) := by decide +kernel
theorem dX7_wheelOf_16 : decode cX7_wheelOf 16 = .ok (.iload_n 3, 1) := by decide +kernel
theorem dX7_wheelOf_17 : decode cX7_wheelOf 17 = .ok (.invokestatic 114, 3) := by decide +kernel
theorem dX7_wheelOf_20 : decode cX7_wheelOf 20 = .ok (.lcmp, 1) := by decide +kernel
theorem dX7_wheelOf_21 : decode cX7_wheelOf 21 = .ok (.ifCond .ge 9, 3) := by decide +kernel
theorem dX7_wheelOf_24 : decode cX7_wheelOf 24 = .ok (.iinc 3 1, 3) := by decide +kernel
theorem dX7_wheelOf_27 : decode cX7_wheelOf 27 = .ok (.goto (-25), 3) := by decide +kernel
theorem dX7_wheelOf_30 : decode cX7_wheelOf 30 = .ok (.iload_n 3, 1) := by decide +kernel
theorem dX7_wheelOf_31 : decode cX7_wheelOf 31 = .ok (.ireturn, 1) := by decide +kernel
theorem dX7_slotOf_0 : decode cX7_slotOf 0 = .ok (.iload_n 2, 1) := by decide +kernel
theorem dX7_slotOf_1 : decode cX7_slotOf 1 = .ok (.iconst 5, 1) := by decide +kernel
theorem dX7_slotOf_2 : decode cX7_slotOf 2 = .ok (.if_icmp .ne 7, 3) := by decide +kernel
theorem dX7_slotOf_5 : decode cX7_slotOf 5 = .ok (.iconst 0, 1) := by decide +kernel
theorem dX7_slotOf_6 : decode cX7_slotOf 6 = .ok (.goto 14, 3) := by decide +kernel
theorem dX7_slotOf_9 : decode cX7_slotOf 9 = .ok (.lload_n 0, 1) := by decide +kernel
theorem dX7_slotOf_10 : decode cX7_slotOf 10 = .ok (.bipush 6, 2) := by decide +kernel
theorem dX7_slotOf_12 : decode cX7_slotOf 12 = .ok (.iload_n 2, 1) := by decide +kernel
theorem dX7_slotOf_13 : decode cX7_slotOf 13 = .ok (.imul, 1) := by decide +kernel
theorem dX7_slotOf_14 : decode cX7_slotOf 14 = .ok (.lshr, 1) := by decide +kernel
theorem dX7_slotOf_15 : decode cX7_slotOf 15 = .ok (.ldc2_w 118, 3) := by decide +kernel
theorem dX7_slotOf_18 : decode cX7_slotOf 18 = .ok (.land, 1) := by decide +kernel
theorem dX7_slotOf_19 : decode cX7_slotOf 19 = .ok (.l2i, 1) := by decide +kernel
theorem dX7_slotOf_20 : decode cX7_slotOf 20 = .ok (.ireturn, 1) := by decide +kernel
set_option maxRecDepth 20000 in
theorem ggX7_movesOf_X7_turnOf : GoodIn wsX7_movesOf wsX7_turnOf := goodIn_r _ [4] (by decide +kernel) (by decide +kernel)
set_option maxRecDepth 20000 in
theorem gX7_movesOf_X7_turnOf : GoodIn wsX7_movesOf (va_wsS RX7 114 yX7_turnOf wsX7_turnOf) := goodIn_app (goodIn_of _ (by decide +kernel)) ggX7_movesOf_X7_turnOf
theorem dX7_movesOf_0 : decode cX7_movesOf 0 = .ok (.iconst 0, 1) := by decide +kernel
theorem dX7_movesOf_1 : decode cX7_movesOf 1 = .ok (.istore 6, 2) := by decide +kernel
theorem dX7_movesOf_3 : decode cX7_movesOf 3 = .ok (.iconst 0, 1) := by decide +kernel
theorem dX7_movesOf_4 : decode cX7_movesOf 4 = .ok (.istore 7, 2) := by decide +kernel
theorem dX7_movesOf_6 : decode cX7_movesOf 6 = .ok (.iload 7, 2) := by decide +kernel
theorem dX7_movesOf_8 : decode cX7_movesOf 8 = .ok (.iconst 5, 1) := by decide +kernel
theorem dX7_movesOf_9 : decode cX7_movesOf 9 = .ok (.if_icmp .ge 73, 3) := by decide +kernel
theorem dX7_movesOf_12 : decode cX7_movesOf 12 = .ok (.lload_n 0, 1) := by decide +kernel
theorem dX7_movesOf_13 : decode cX7_movesOf 13 = .ok (.iload 7, 2) := by decide +kernel
theorem dX7_movesOf_15 : decode cX7_movesOf 15 = .ok (.invokestatic 114, 3) := by decide +kernel
theorem dX7_movesOf_18 : decode cX7_movesOf 18 = .ok (.lstore 8, 2) := by decide +kernel
theorem dX7_movesOf_20 : decode cX7_movesOf 20 = .ok (.iload 7, 2) := by decide +kernel
theorem dX7_movesOf_22 : decode cX7_movesOf 22 = .ok (.ifCond .eq 17, 3) := by decide +kernel
theorem dX7_movesOf_25 : decode cX7_movesOf 25 = .ok (.lload_n 0, 1) := by decide +kernel
theorem dX7_movesOf_26 : decode cX7_movesOf 26 = .ok (.iload 7, 2) := by decide +kernel
theorem dX7_movesOf_28 : decode cX7_movesOf 28 = .ok (.iconst 1, 1) := by decide +kernel
theorem dX7_movesOf_29 : decode cX7_movesOf 29 = .ok (.isub, 1) := by decide +kernel
theorem dX7_movesOf_30 : decode cX7_movesOf 30 = .ok (.invokestatic 114, 3) := by decide +kernel
theorem dX7_movesOf_33 : decode cX7_movesOf 33 = .ok (.lload 8, 2) := by decide +kernel
theorem dX7_movesOf_35 : decode cX7_movesOf 35 = .ok (.lcmp, 1) := by decide +kernel
theorem dX7_movesOf_36 : decode cX7_movesOf 36 = .ok (.ifCond .eq 7, 3) := by decide +kernel
theorem dX7_movesOf_39 : decode cX7_movesOf 39 = .ok (.iconst 1, 1) := by decide +kernel
theorem dX7_movesOf_40 : decode cX7_movesOf 40 = .ok (.goto 4, 3) := by decide +kernel
theorem dX7_movesOf_43 : decode cX7_movesOf 43 = .ok (.iconst 0, 1) := by decide +kernel
theorem dX7_movesOf_44 : decode cX7_movesOf 44 = .ok (.istore 10, 2) := by decide +kernel
theorem dX7_movesOf_46 : decode cX7_movesOf 46 = .ok (.iload 6, 2) := by decide +kernel
theorem dX7_movesOf_48 : decode cX7_movesOf 48 = .ok (.iload 10, 2) := by decide +kernel
theorem dX7_movesOf_50 : decode cX7_movesOf 50 = .ok (.ifCond .eq 22, 3) := by decide +kernel
theorem dX7_movesOf_53 : decode cX7_movesOf 53 = .ok (.lload 8, 2) := by decide +kernel
theorem dX7_movesOf_55 : decode cX7_movesOf 55 = .ok (.lload_n 2, 1) := by decide +kernel
theorem dX7_movesOf_56 : decode cX7_movesOf 56 = .ok (.lcmp, 1) := by decide +kernel
theorem dX7_movesOf_57 : decode cX7_movesOf 57 = .ok (.ifCond .le 15, 3) := by decide +kernel
theorem dX7_movesOf_60 : decode cX7_movesOf 60 = .ok (.lload 8, 2) := by decide +kernel
theorem dX7_movesOf_62 : decode cX7_movesOf 62 = .ok (.lload 4, 2) := by decide +kernel
theorem dX7_movesOf_64 : decode cX7_movesOf 64 = .ok (.lcmp, 1) := by decide +kernel
theorem dX7_movesOf_65 : decode cX7_movesOf 65 = .ok (.ifCond .gt 7, 3) := by decide +kernel
theorem dX7_movesOf_68 : decode cX7_movesOf 68 = .ok (.iconst 1, 1) := by decide +kernel
theorem dX7_movesOf_69 : decode cX7_movesOf 69 = .ok (.goto 4, 3) := by decide +kernel
theorem dX7_movesOf_72 : decode cX7_movesOf 72 = .ok (.iconst 0, 1) := by decide +kernel
theorem dX7_movesOf_73 : decode cX7_movesOf 73 = .ok (.iadd, 1) := by decide +kernel
theorem dX7_movesOf_74 : decode cX7_movesOf 74 = .ok (.istore 6, 2) := by decide +kernel
theorem dX7_movesOf_76 : decode cX7_movesOf 76 = .ok (.iinc 7 1, 3) := by decide +kernel
theorem dX7_movesOf_79 : decode cX7_movesOf 79 = .ok (.goto (-73), 3) := by decide +kernel
theorem dX7_movesOf_82 : decode cX7_movesOf 82 = .ok (.iload 6, 2) := by decide +kernel
theorem dX7_movesOf_84 : decode cX7_movesOf 84 = .ok (.ireturn, 1) := by decide +kernel
set_option maxRecDepth 20000 in
theorem ggX7_pass_X7_hasTick : GoodIn wsX7_pass wsX7_hasTick := goodIn_r _ [6, 7, 8, 9, 10, 5, 11, 12, 13, 14, 15, 16, 17, 18, 19, 1, 30, 31, 32, 33, 34, 35, 36, 37, 38] (by decide +kernel) (by decide +kernel)
set_option maxRecDepth 20000 in
theorem gX7_pass_X7_hasTick : GoodIn wsX7_pass (wsV RX7 96 RX7 yX7_hasTick wsX7_hasTick) := goodIn_app (goodIn_of _ (by decide +kernel)) ggX7_pass_X7_hasTick
set_option maxRecDepth 20000 in
theorem ggX7_pass_X7_get : GoodIn wsX7_pass wsX7_get := goodIn_r _ [19, 1, 30, 31, 32, 33, 34, 35, 36, 37, 38] (by decide +kernel) (by decide +kernel)
set_option maxRecDepth 20000 in
theorem gX7_pass_X7_get : GoodIn wsX7_pass (wsV RX7 40 RX7 yX7_get wsX7_get) := goodIn_app (goodIn_of _ (by decide +kernel)) ggX7_pass_X7_get
set_option maxRecDepth 20000 in
theorem ggX7_pass_X7_movesOf : GoodIn wsX7_pass wsX7_movesOf := goodIn_r _ [22, 23, 24, 5, 25] (by decide +kernel) (by decide +kernel)
set_option maxRecDepth 20000 in
theorem gX7_pass_X7_movesOf : GoodIn wsX7_pass (va_wsS RX7 120 yX7_movesOf wsX7_movesOf) := goodIn_app (goodIn_of _ (by decide +kernel)) ggX7_pass_X7_movesOf
set_option maxRecDepth 20000 in
theorem ggX7_pass_X7_put : GoodIn wsX7_pass wsX7_put := goodIn_r _ [29, 1, 30, 31, 32, 33, 34, 35, 36, 37, 38] (by decide +kernel) (by decide +kernel)
set_option maxRecDepth 20000 in
theorem gX7_pass_X7_put : GoodIn wsX7_pass (wsV RX7 52 RX7 yX7_put wsX7_put) := goodIn_app (goodIn_of _ (by decide +kernel)) ggX7_pass_X7_put
theorem dX7_pass_0 : decode cX7_pass 0 = .ok (.iconst 0, 1) := by decide +kernel
theorem dX7_pass_1 : decode cX7_pass 1 = .ok (.istore_n 3, 1) := by decide +kernel
theorem dX7_pass_2 : decode cX7_pass 2 = .ok (.iload_n 3, 1) := by decide +kernel
theorem dX7_pass_3 : decode cX7_pass 3 = .ok (.sipush 200, 3) := by decide +kernel
theorem dX7_pass_6 : decode cX7_pass 6 = .ok (.if_icmp .ge 69, 3) := by decide +kernel
theorem dX7_pass_9 : decode cX7_pass 9 = .ok (.aload_n 0, 1) := by decide +kernel
theorem dX7_pass_10 : decode cX7_pass 10 = .ok (.iload_n 3, 1) := by decide +kernel
theorem dX7_pass_11 : decode cX7_pass 11 = .ok (.invokevirtual 96, 3) := by decide +kernel
theorem dX7_pass_14 : decode cX7_pass 14 = .ok (.ifCond .eq 55, 3) := by decide +kernel
theorem dX7_pass_17 : decode cX7_pass 17 = .ok (.aload_n 0, 1) := by decide +kernel
theorem dX7_pass_18 : decode cX7_pass 18 = .ok (.iload_n 3, 1) := by decide +kernel
theorem dX7_pass_19 : decode cX7_pass 19 = .ok (.iconst 3, 1) := by decide +kernel
theorem dX7_pass_20 : decode cX7_pass 20 = .ok (.invokevirtual 40, 3) := by decide +kernel
theorem dX7_pass_23 : decode cX7_pass 23 = .ok (.aload_n 0, 1) := by decide +kernel
theorem dX7_pass_24 : decode cX7_pass 24 = .ok (.getfield 7, 3) := by decide +kernel
theorem dX7_pass_27 : decode cX7_pass 27 = .ok (.sipush 3700, 3) := by decide +kernel
theorem dX7_pass_30 : decode cX7_pass 30 = .ok (.laload, 1) := by decide +kernel
theorem dX7_pass_31 : decode cX7_pass 31 = .ok (.lload_n 1, 1) := by decide +kernel
theorem dX7_pass_32 : decode cX7_pass 32 = .ok (.invokestatic 120, 3) := by decide +kernel
theorem dX7_pass_35 : decode cX7_pass 35 = .ok (.istore 4, 2) := by decide +kernel
theorem dX7_pass_37 : decode cX7_pass 37 = .ok (.aload_n 0, 1) := by decide +kernel
theorem dX7_pass_38 : decode cX7_pass 38 = .ok (.iload_n 3, 1) := by decide +kernel
theorem dX7_pass_39 : decode cX7_pass 39 = .ok (.bipush 12, 2) := by decide +kernel
theorem dX7_pass_41 : decode cX7_pass 41 = .ok (.aload_n 0, 1) := by decide +kernel
theorem dX7_pass_42 : decode cX7_pass 42 = .ok (.iload_n 3, 1) := by decide +kernel
theorem dX7_pass_43 : decode cX7_pass 43 = .ok (.bipush 12, 2) := by decide +kernel
theorem dX7_pass_45 : decode cX7_pass 45 = .ok (.invokevirtual 40, 3) := by decide +kernel
theorem dX7_pass_48 : decode cX7_pass 48 = .ok (.iload 4, 2) := by decide +kernel
theorem dX7_pass_50 : decode cX7_pass 50 = .ok (.i2l, 1) := by decide +kernel
theorem dX7_pass_51 : decode cX7_pass 51 = .ok (.ladd, 1) := by decide +kernel
theorem dX7_pass_52 : decode cX7_pass 52 = .ok (.invokevirtual 52, 3) := by decide +kernel
theorem dX7_pass_55 : decode cX7_pass 55 = .ok (.aload_n 0, 1) := by decide +kernel
theorem dX7_pass_56 : decode cX7_pass 56 = .ok (.getfield 7, 3) := by decide +kernel
theorem dX7_pass_59 : decode cX7_pass 59 = .ok (.sipush 3704, 3) := by decide +kernel
theorem dX7_pass_62 : decode cX7_pass 62 = .ok (.dup2, 1) := by decide +kernel
theorem dX7_pass_63 : decode cX7_pass 63 = .ok (.laload, 1) := by decide +kernel
theorem dX7_pass_64 : decode cX7_pass 64 = .ok (.iload 4, 2) := by decide +kernel
theorem dX7_pass_66 : decode cX7_pass 66 = .ok (.i2l, 1) := by decide +kernel
theorem dX7_pass_67 : decode cX7_pass 67 = .ok (.ladd, 1) := by decide +kernel
theorem dX7_pass_68 : decode cX7_pass 68 = .ok (.lastore, 1) := by decide +kernel
theorem dX7_pass_69 : decode cX7_pass 69 = .ok (.iinc 3 1, 3) := by decide +kernel
theorem dX7_pass_72 : decode cX7_pass 72 = .ok (.goto (-70), 3) := by decide +kernel
theorem dX7_pass_75 : decode cX7_pass 75 = .ok (.aload_n 0, 1) := by decide +kernel
theorem dX7_pass_76 : decode cX7_pass 76 = .ok (.getfield 7, 3) := by decide +kernel
theorem dX7_pass_79 : decode cX7_pass 79 = .ok (.sipush 3700, 3) := by decide +kernel
theorem dX7_pass_82 : decode cX7_pass 82 = .ok (.lload_n 1, 1) := by decide +kernel
theorem dX7_pass_83 : decode cX7_pass 83 = .ok (.lastore, 1) := by decide +kernel
theorem dX7_pass_84 : decode cX7_pass 84 = .ok (.return_, 1) := by decide +kernel
set_option maxRecDepth 20000 in
theorem ggX7_nextTick_X7_hasTick : GoodIn wsX7_nextTick wsX7_hasTick := goodIn_r _ [6, 7, 8, 9, 10, 5, 11, 12, 13, 14, 15, 16, 17, 18, 19, 20, 21, 22, 23, 24, 25, 26, 27, 28, 29] (by decide +kernel) (by decide +kernel)
set_option maxRecDepth 20000 in
theorem gX7_nextTick_X7_hasTick : GoodIn wsX7_nextTick (wsV RX7 96 RX7 yX7_hasTick wsX7_hasTick) := goodIn_app (goodIn_of _ (by decide +kernel)) ggX7_nextTick_X7_hasTick
set_option maxRecDepth 20000 in
theorem ggX7_nextTick_X7_get : GoodIn wsX7_nextTick wsX7_get := goodIn_r _ [19, 20, 21, 22, 23, 24, 25, 26, 27, 28, 29] (by decide +kernel) (by decide +kernel)
set_option maxRecDepth 20000 in
theorem gX7_nextTick_X7_get : GoodIn wsX7_nextTick (wsV RX7 40 RX7 yX7_get wsX7_get) := goodIn_app (goodIn_of _ (by decide +kernel)) ggX7_nextTick_X7_get
theorem dX7_nextTick_0 : decode cX7_nextTick 0 = .ok (.ldc2_w 67, 3) := by decide +kernel
theorem dX7_nextTick_3 : decode cX7_nextTick 3 = .ok (.lstore_n 1, 1) := by decide +kernel
theorem dX7_nextTick_4 : decode cX7_nextTick 4 = .ok (.iconst 0, 1) := by decide +kernel
theorem dX7_nextTick_5 : decode cX7_nextTick 5 = .ok (.istore_n 3, 1) := by decide +kernel
theorem dX7_nextTick_6 : decode cX7_nextTick 6 = .ok (.iload_n 3, 1) := by decide +kernel
theorem dX7_nextTick_7 : decode cX7_nextTick 7 = .ok (.sipush 200, 3) := by decide +kernel
theorem dX7_nextTick_10 : decode cX7_nextTick 10 = .ok (.if_icmp .ge 39, 3) := by decide +kernel
theorem dX7_nextTick_13 : decode cX7_nextTick 13 = .ok (.aload_n 0, 1) := by decide +kernel
theorem dX7_nextTick_14 : decode cX7_nextTick 14 = .ok (.iload_n 3, 1) := by decide +kernel
theorem dX7_nextTick_15 : decode cX7_nextTick 15 = .ok (.invokevirtual 96, 3) := by decide +kernel
theorem dX7_nextTick_18 : decode cX7_nextTick 18 = .ok (.ifCond .eq 23, 3) := by decide +kernel
theorem dX7_nextTick_21 : decode cX7_nextTick 21 = .ok (.aload_n 0, 1) := by decide +kernel
theorem dX7_nextTick_22 : decode cX7_nextTick 22 = .ok (.iload_n 3, 1) := by decide +kernel
theorem dX7_nextTick_23 : decode cX7_nextTick 23 = .ok (.iconst 3, 1) := by decide +kernel
theorem dX7_nextTick_24 : decode cX7_nextTick 24 = .ok (.invokevirtual 40, 3) := by decide +kernel
theorem dX7_nextTick_27 : decode cX7_nextTick 27 = .ok (.lload_n 1, 1) := by decide +kernel
theorem dX7_nextTick_28 : decode cX7_nextTick 28 = .ok (.lcmp, 1) := by decide +kernel
theorem dX7_nextTick_29 : decode cX7_nextTick 29 = .ok (.ifCond .ge 12, 3) := by decide +kernel
theorem dX7_nextTick_32 : decode cX7_nextTick 32 = .ok (.aload_n 0, 1) := by decide +kernel
theorem dX7_nextTick_33 : decode cX7_nextTick 33 = .ok (.iload_n 3, 1) := by decide +kernel
theorem dX7_nextTick_34 : decode cX7_nextTick 34 = .ok (.iconst 3, 1) := by decide +kernel
theorem dX7_nextTick_35 : decode cX7_nextTick 35 = .ok (.invokevirtual 40, 3) := by decide +kernel
theorem dX7_nextTick_38 : decode cX7_nextTick 38 = .ok (.goto 4, 3) := by decide +kernel
theorem dX7_nextTick_41 : decode cX7_nextTick 41 = .ok (.lload_n 1, 1) := by decide +kernel
theorem dX7_nextTick_42 : decode cX7_nextTick 42 = .ok (.lstore_n 1, 1) := by decide +kernel
theorem dX7_nextTick_43 : decode cX7_nextTick 43 = .ok (.iinc 3 1, 3) := by decide +kernel
theorem dX7_nextTick_46 : decode cX7_nextTick 46 = .ok (.goto (-40), 3) := by decide +kernel
theorem dX7_nextTick_49 : decode cX7_nextTick 49 = .ok (.lload_n 1, 1) := by decide +kernel
theorem dX7_nextTick_50 : decode cX7_nextTick 50 = .ok (.lreturn, 1) := by decide +kernel
set_option maxRecDepth 20000 in
theorem ggX7_find_X7_hasTick : GoodIn wsX7_find wsX7_hasTick := goodIn_r _ [7, 8, 9, 10, 11, 6, 12, 13, 14, 15, 16, 17, 18, 19, 20, 21, 22, 23, 24, 25, 26, 27, 28, 29, 30] (by decide +kernel) (by decide +kernel)
set_option maxRecDepth 20000 in
theorem gX7_find_X7_hasTick : GoodIn wsX7_find (wsV RX7 96 RX7 yX7_hasTick wsX7_hasTick) := goodIn_app (goodIn_of _ (by decide +kernel)) ggX7_find_X7_hasTick
set_option maxRecDepth 20000 in
theorem ggX7_find_X7_get : GoodIn wsX7_find wsX7_get := goodIn_r _ [20, 21, 22, 23, 24, 25, 26, 27, 28, 29, 30] (by decide +kernel) (by decide +kernel)
set_option maxRecDepth 20000 in
theorem gX7_find_X7_get : GoodIn wsX7_find (wsV RX7 40 RX7 yX7_get wsX7_get) := goodIn_app (goodIn_of _ (by decide +kernel)) ggX7_find_X7_get
theorem dX7_find_0 : decode cX7_find 0 = .ok (.aload_n 0, 1) := by decide +kernel
theorem dX7_find_1 : decode cX7_find 1 = .ok (.getfield 124, 3) := by decide +kernel
theorem dX7_find_4 : decode cX7_find 4 = .ok (.istore 5, 2) := by decide +kernel
theorem dX7_find_6 : decode cX7_find 6 = .ok (.iconst 0, 1) := by decide +kernel
theorem dX7_find_7 : decode cX7_find 7 = .ok (.istore 6, 2) := by decide +kernel
theorem dX7_find_9 : decode cX7_find 9 = .ok (.iload 6, 2) := by decide +kernel
theorem dX7_find_11 : decode cX7_find 11 = .ok (.sipush 200, 3) := by decide +kernel
theorem dX7_find_14 : decode cX7_find 14 = .ok (.if_icmp .ge 153, 3) := by decide +kernel
theorem dX7_find_17 : decode cX7_find 17 = .ok (.aload_n 0, 1) := by decide +kernel
theorem dX7_find_18 : decode cX7_find 18 = .ok (.iload 6, 2) := by decide +kernel
theorem dX7_find_20 : decode cX7_find 20 = .ok (.invokevirtual 96, 3) := by decide +kernel
theorem dX7_find_23 : decode cX7_find 23 = .ok (.ifCond .eq 49, 3) := by decide +kernel
theorem dX7_find_26 : decode cX7_find 26 = .ok (.aload_n 0, 1) := by decide +kernel
theorem dX7_find_27 : decode cX7_find 27 = .ok (.iload 6, 2) := by decide +kernel
theorem dX7_find_29 : decode cX7_find 29 = .ok (.iconst 1, 1) := by decide +kernel
theorem dX7_find_30 : decode cX7_find 30 = .ok (.invokevirtual 40, 3) := by decide +kernel
theorem dX7_find_33 : decode cX7_find 33 = .ok (.iload_n 1, 1) := by decide +kernel
theorem dX7_find_34 : decode cX7_find 34 = .ok (.i2l, 1) := by decide +kernel
theorem dX7_find_35 : decode cX7_find 35 = .ok (.lcmp, 1) := by decide +kernel
theorem dX7_find_36 : decode cX7_find 36 = .ok (.ifCond .ne 36, 3) := by decide +kernel
theorem dX7_find_39 : decode cX7_find 39 = .ok (.aload_n 0, 1) := by decide +kernel
theorem dX7_find_40 : decode cX7_find 40 = .ok (.iload 6, 2) := by decide +kernel
theorem dX7_find_42 : decode cX7_find 42 = .ok (.iconst 3, 1) := by decide +kernel
theorem dX7_find_43 : decode cX7_find 43 = .ok (.invokevirtual 40, 3) := by decide +kernel
theorem dX7_find_46 : decode cX7_find 46 = .ok (.lload_n 2, 1) := by decide +kernel
theorem dX7_find_47 : decode cX7_find 47 = .ok (.lcmp, 1) := by decide +kernel
theorem dX7_find_48 : decode cX7_find 48 = .ok (.ifCond .eq 20, 3) := by decide +kernel
theorem dX7_find_51 : decode cX7_find 51 = .ok (.iload 4, 2) := by decide +kernel
theorem dX7_find_53 : decode cX7_find 53 = .ok (.ifCond .eq 19, 3) := by decide +kernel
theorem dX7_find_56 : decode cX7_find 56 = .ok (.aload_n 0, 1) := by decide +kernel
theorem dX7_find_57 : decode cX7_find 57 = .ok (.iload 6, 2) := by decide +kernel
theorem dX7_find_59 : decode cX7_find 59 = .ok (.iconst 4, 1) := by decide +kernel
theorem dX7_find_60 : decode cX7_find 60 = .ok (.invokevirtual 40, 3) := by decide +kernel
theorem dX7_find_63 : decode cX7_find 63 = .ok (.lload_n 2, 1) := by decide +kernel
theorem dX7_find_64 : decode cX7_find 64 = .ok (.lcmp, 1) := by decide +kernel
theorem dX7_find_65 : decode cX7_find 65 = .ok (.ifCond .gt 7, 3) := by decide +kernel
theorem dX7_find_68 : decode cX7_find 68 = .ok (.iconst 1, 1) := by decide +kernel
theorem dX7_find_69 : decode cX7_find 69 = .ok (.goto 4, 3) := by decide +kernel
theorem dX7_find_72 : decode cX7_find 72 = .ok (.iconst 0, 1) := by decide +kernel
theorem dX7_find_73 : decode cX7_find 73 = .ok (.istore 7, 2) := by decide +kernel
theorem dX7_find_75 : decode cX7_find 75 = .ok (.iload 7, 2) := by decide +kernel
theorem dX7_find_77 : decode cX7_find 77 = .ok (.ifCond .eq 84, 3) := by decide +kernel
theorem dX7_find_80 : decode cX7_find 80 = .ok (.aload_n 0, 1) := by decide +kernel
theorem dX7_find_81 : decode cX7_find 81 = .ok (.getfield 124, 3) := by decide +kernel
theorem dX7_find_84 : decode cX7_find 84 = .ok (.istore 8, 2) := by decide +kernel
theorem dX7_find_86 : decode cX7_find 86 = .ok (.iload 8, 2) := by decide +kernel
theorem dX7_find_88 : decode cX7_find 88 = .ok (.iload 5, 2) := by decide +kernel
theorem dX7_find_90 : decode cX7_find 90 = .ok (.if_icmp .le 52, 3) := by decide +kernel
theorem dX7_find_93 : decode cX7_find 93 = .ok (.aload_n 0, 1) := by decide +kernel
theorem dX7_find_94 : decode cX7_find 94 = .ok (.aload_n 0, 1) := by decide +kernel
theorem dX7_find_95 : decode cX7_find 95 = .ok (.getfield 16, 3) := by decide +kernel
theorem dX7_find_98 : decode cX7_find 98 = .ok (.iload 8, 2) := by decide +kernel
theorem dX7_find_100 : decode cX7_find 100 = .ok (.iconst 1, 1) := by decide +kernel
theorem dX7_find_101 : decode cX7_find 101 = .ok (.isub, 1) := by decide +kernel
theorem dX7_find_102 : decode cX7_find 102 = .ok (.iaload, 1) := by decide +kernel
theorem dX7_find_103 : decode cX7_find 103 = .ok (.bipush 11, 2) := by decide +kernel
theorem dX7_find_105 : decode cX7_find 105 = .ok (.invokevirtual 40, 3) := by decide +kernel
theorem dX7_find_108 : decode cX7_find 108 = .ok (.aload_n 0, 1) := by decide +kernel
theorem dX7_find_109 : decode cX7_find 109 = .ok (.iload 6, 2) := by decide +kernel
theorem dX7_find_111 : decode cX7_find 111 = .ok (.bipush 11, 2) := by decide +kernel
theorem dX7_find_113 : decode cX7_find 113 = .ok (.invokevirtual 40, 3) := by decide +kernel
theorem dX7_find_116 : decode cX7_find 116 = .ok (.lcmp, 1) := by decide +kernel
theorem dX7_find_117 : decode cX7_find 117 = .ok (.ifCond .le 25, 3) := by decide +kernel
theorem dX7_find_120 : decode cX7_find 120 = .ok (.aload_n 0, 1) := by decide +kernel
theorem dX7_find_121 : decode cX7_find 121 = .ok (.getfield 16, 3) := by decide +kernel
theorem dX7_find_124 : decode cX7_find 124 = .ok (.iload 8, 2) := by decide +kernel
theorem dX7_find_126 : decode cX7_find 126 = .ok (.aload_n 0, 1) := by decide +kernel
theorem dX7_find_127 : decode cX7_find 127 = .ok (.getfield 16, 3) := by decide +kernel
theorem dX7_find_130 : decode cX7_find 130 = .ok (.iload 8, 2) := by decide +kernel
theorem dX7_find_132 : decode cX7_find 132 = .ok (.iconst 1, 1) := by decide +kernel
theorem dX7_find_133 : decode cX7_find 133 = .ok (.isub, 1) := by decide +kernel
theorem dX7_find_134 : decode cX7_find 134 = .ok (.iaload, 1) := by decide +kernel
theorem dX7_find_135 : decode cX7_find 135 = .ok (.iastore, 1) := by decide +kernel
theorem dX7_find_136 : decode cX7_find 136 = .ok (.iinc 8 (-1), 3) := by decide +kernel
theorem dX7_find_139 : decode cX7_find 139 = .ok (.goto (-53), 3) := by decide +kernel
theorem dX7_find_142 : decode cX7_find 142 = .ok (.aload_n 0, 1) := by decide +kernel
theorem dX7_find_143 : decode cX7_find 143 = .ok (.getfield 16, 3) := by decide +kernel
theorem dX7_find_146 : decode cX7_find 146 = .ok (.iload 8, 2) := by decide +kernel
theorem dX7_find_148 : decode cX7_find 148 = .ok (.iload 6, 2) := by decide +kernel
theorem dX7_find_150 : decode cX7_find 150 = .ok (.iastore, 1) := by decide +kernel
theorem dX7_find_151 : decode cX7_find 151 = .ok (.aload_n 0, 1) := by decide +kernel
theorem dX7_find_152 : decode cX7_find 152 = .ok (.dup, 1) := by decide +kernel
theorem dX7_find_153 : decode cX7_find 153 = .ok (.getfield 124, 3) := by decide +kernel
theorem dX7_find_156 : decode cX7_find 156 = .ok (.iconst 1, 1) := by decide +kernel
theorem dX7_find_157 : decode cX7_find 157 = .ok (.iadd, 1) := by decide +kernel
theorem dX7_find_158 : decode cX7_find 158 = .ok (.putfield 124, 3) := by decide +kernel
theorem dX7_find_161 : decode cX7_find 161 = .ok (.iinc 6 1, 3) := by decide +kernel
theorem dX7_find_164 : decode cX7_find 164 = .ok (.goto (-155), 3) := by decide +kernel
theorem dX7_find_167 : decode cX7_find 167 = .ok (.return_, 1) := by decide +kernel
set_option maxRecDepth 20000 in
theorem ggX7_findAll_X7_find : GoodIn wsX7_findAll wsX7_find := goodIn_r _ [6, 1, 7, 8, 9, 10, 5, 11, 12, 13, 14, 15, 16, 17, 18, 19, 20, 21, 22, 23, 24, 25, 26, 27, 28, 29, 30, 31, 32, 33, 34] (by decide +kernel) (by decide +kernel)
set_option maxRecDepth 20000 in
theorem gX7_findAll_X7_find : GoodIn wsX7_findAll (wsV RX7 127 RX7 yX7_find wsX7_find) := goodIn_app (goodIn_of _ (by decide +kernel)) ggX7_findAll_X7_find
theorem dX7_findAll_0 : decode cX7_findAll 0 = .ok (.aload_n 0, 1) := by decide +kernel
theorem dX7_findAll_1 : decode cX7_findAll 1 = .ok (.iconst 0, 1) := by decide +kernel
theorem dX7_findAll_2 : decode cX7_findAll 2 = .ok (.putfield 124, 3) := by decide +kernel
theorem dX7_findAll_5 : decode cX7_findAll 5 = .ok (.aload_n 0, 1) := by decide +kernel
theorem dX7_findAll_6 : decode cX7_findAll 6 = .ok (.iconst 0, 1) := by decide +kernel
theorem dX7_findAll_7 : decode cX7_findAll 7 = .ok (.lload_n 1, 1) := by decide +kernel
theorem dX7_findAll_8 : decode cX7_findAll 8 = .ok (.iconst 0, 1) := by decide +kernel
theorem dX7_findAll_9 : decode cX7_findAll 9 = .ok (.invokevirtual 127, 3) := by decide +kernel
theorem dX7_findAll_12 : decode cX7_findAll 12 = .ok (.aload_n 0, 1) := by decide +kernel
theorem dX7_findAll_13 : decode cX7_findAll 13 = .ok (.iconst 1, 1) := by decide +kernel
theorem dX7_findAll_14 : decode cX7_findAll 14 = .ok (.lload_n 1, 1) := by decide +kernel
theorem dX7_findAll_15 : decode cX7_findAll 15 = .ok (.iconst 0, 1) := by decide +kernel
theorem dX7_findAll_16 : decode cX7_findAll 16 = .ok (.invokevirtual 127, 3) := by decide +kernel
theorem dX7_findAll_19 : decode cX7_findAll 19 = .ok (.aload_n 0, 1) := by decide +kernel
theorem dX7_findAll_20 : decode cX7_findAll 20 = .ok (.iconst 3, 1) := by decide +kernel
theorem dX7_findAll_21 : decode cX7_findAll 21 = .ok (.lload_n 1, 1) := by decide +kernel
theorem dX7_findAll_22 : decode cX7_findAll 22 = .ok (.iconst 0, 1) := by decide +kernel
theorem dX7_findAll_23 : decode cX7_findAll 23 = .ok (.invokevirtual 127, 3) := by decide +kernel
theorem dX7_findAll_26 : decode cX7_findAll 26 = .ok (.aload_n 0, 1) := by decide +kernel
theorem dX7_findAll_27 : decode cX7_findAll 27 = .ok (.iconst 4, 1) := by decide +kernel
theorem dX7_findAll_28 : decode cX7_findAll 28 = .ok (.lload_n 1, 1) := by decide +kernel
theorem dX7_findAll_29 : decode cX7_findAll 29 = .ok (.iconst 0, 1) := by decide +kernel
theorem dX7_findAll_30 : decode cX7_findAll 30 = .ok (.invokevirtual 127, 3) := by decide +kernel
theorem dX7_findAll_33 : decode cX7_findAll 33 = .ok (.aload_n 0, 1) := by decide +kernel
theorem dX7_findAll_34 : decode cX7_findAll 34 = .ok (.iconst 2, 1) := by decide +kernel
theorem dX7_findAll_35 : decode cX7_findAll 35 = .ok (.lload_n 1, 1) := by decide +kernel
theorem dX7_findAll_36 : decode cX7_findAll 36 = .ok (.aload_n 0, 1) := by decide +kernel
theorem dX7_findAll_37 : decode cX7_findAll 37 = .ok (.getfield 124, 3) := by decide +kernel
theorem dX7_findAll_40 : decode cX7_findAll 40 = .ok (.ifCond .le 7, 3) := by decide +kernel
theorem dX7_findAll_43 : decode cX7_findAll 43 = .ok (.iconst 1, 1) := by decide +kernel
theorem dX7_findAll_44 : decode cX7_findAll 44 = .ok (.goto 4, 3) := by decide +kernel
theorem dX7_findAll_47 : decode cX7_findAll 47 = .ok (.iconst 0, 1) := by decide +kernel
theorem dX7_findAll_48 : decode cX7_findAll 48 = .ok (.invokevirtual 127, 3) := by decide +kernel
theorem dX7_findAll_51 : decode cX7_findAll 51 = .ok (.return_, 1) := by decide +kernel
set_option maxRecDepth 20000 in
theorem ggX7_tell_X7_waits : GoodIn wsX7_tell wsX7_waits := goodIn_r _ [7, 1, 8, 9, 10, 6, 11, 12, 13, 14, 15, 16, 17, 18, 19, 20, 29, 30, 31, 32, 33, 34, 35, 36, 37] (by decide +kernel) (by decide +kernel)
set_option maxRecDepth 20000 in
theorem gX7_tell_X7_waits : GoodIn wsX7_tell (wsV RX7 91 RX7 yX7_waits wsX7_waits) := goodIn_app (goodIn_of _ (by decide +kernel)) ggX7_tell_X7_waits
set_option maxRecDepth 20000 in
theorem ggX7_tell_X7_get : GoodIn wsX7_tell wsX7_get := goodIn_r _ [19, 20, 29, 30, 31, 32, 33, 34, 35, 36, 37] (by decide +kernel) (by decide +kernel)
set_option maxRecDepth 20000 in
theorem gX7_tell_X7_get : GoodIn wsX7_tell (wsV RX7 40 RX7 yX7_get wsX7_get) := goodIn_app (goodIn_of _ (by decide +kernel)) ggX7_tell_X7_get
set_option maxRecDepth 20000 in
theorem ggX7_tell_X7_put : GoodIn wsX7_tell wsX7_put := goodIn_r _ [24, 20, 29, 30, 31, 32, 33, 34, 35, 36, 37] (by decide +kernel) (by decide +kernel)
set_option maxRecDepth 20000 in
theorem gX7_tell_X7_put : GoodIn wsX7_tell (wsV RX7 52 RX7 yX7_put wsX7_put) := goodIn_app (goodIn_of _ (by decide +kernel)) ggX7_tell_X7_put
set_option maxRecDepth 20000 in
theorem ggX7_tell_X7_tick : GoodIn wsX7_tell wsX7_tick := goodIn_r _ [28, 21, 22, 23, 6, 24, 20, 29, 30, 31, 32, 33, 34, 35, 36, 37] (by decide +kernel) (by decide +kernel)
set_option maxRecDepth 20000 in
theorem gX7_tell_X7_tick : GoodIn wsX7_tell (wsV RX7 81 RX7 yX7_tick wsX7_tick) := goodIn_app (goodIn_of _ (by decide +kernel)) ggX7_tell_X7_tick
theorem dX7_tell_0 : decode cX7_tell 0 = .ok (.iconst 0, 1) := by decide +kernel
theorem dX7_tell_1 : decode cX7_tell 1 = .ok (.istore 4, 2) := by decide +kernel
theorem dX7_tell_3 : decode cX7_tell 3 = .ok (.iload 4, 2) := by decide +kernel
theorem dX7_tell_5 : decode cX7_tell 5 = .ok (.sipush 200, 3) := by decide +kernel
theorem dX7_tell_8 : decode cX7_tell 8 = .ok (.if_icmp .ge 78, 3) := by decide +kernel
theorem dX7_tell_11 : decode cX7_tell 11 = .ok (.aload_n 0, 1) := by decide +kernel
theorem dX7_tell_12 : decode cX7_tell 12 = .ok (.iload 4, 2) := by decide +kernel
theorem dX7_tell_14 : decode cX7_tell 14 = .ok (.invokevirtual 91, 3) := by decide +kernel
theorem dX7_tell_17 : decode cX7_tell 17 = .ok (.ifCond .eq 63, 3) := by decide +kernel
theorem dX7_tell_20 : decode cX7_tell 20 = .ok (.aload_n 0, 1) := by decide +kernel
theorem dX7_tell_21 : decode cX7_tell 21 = .ok (.iload 4, 2) := by decide +kernel
theorem dX7_tell_23 : decode cX7_tell 23 = .ok (.bipush 7, 2) := by decide +kernel
theorem dX7_tell_25 : decode cX7_tell 25 = .ok (.invokevirtual 40, 3) := by decide +kernel
theorem dX7_tell_28 : decode cX7_tell 28 = .ok (.iload_n 1, 1) := by decide +kernel
theorem dX7_tell_29 : decode cX7_tell 29 = .ok (.i2l, 1) := by decide +kernel
theorem dX7_tell_30 : decode cX7_tell 30 = .ok (.lcmp, 1) := by decide +kernel
theorem dX7_tell_31 : decode cX7_tell 31 = .ok (.ifCond .ne 49, 3) := by decide +kernel
theorem dX7_tell_34 : decode cX7_tell 34 = .ok (.aload_n 0, 1) := by decide +kernel
theorem dX7_tell_35 : decode cX7_tell 35 = .ok (.iload 4, 2) := by decide +kernel
theorem dX7_tell_37 : decode cX7_tell 37 = .ok (.bipush 7, 2) := by decide +kernel
theorem dX7_tell_39 : decode cX7_tell 39 = .ok (.ldc2_w 48, 3) := by decide +kernel
theorem dX7_tell_42 : decode cX7_tell 42 = .ok (.invokevirtual 52, 3) := by decide +kernel
theorem dX7_tell_45 : decode cX7_tell 45 = .ok (.lload_n 2, 1) := by decide +kernel
theorem dX7_tell_46 : decode cX7_tell 46 = .ok (.aload_n 0, 1) := by decide +kernel
theorem dX7_tell_47 : decode cX7_tell 47 = .ok (.iload 4, 2) := by decide +kernel
theorem dX7_tell_49 : decode cX7_tell 49 = .ok (.bipush 8, 2) := by decide +kernel
theorem dX7_tell_51 : decode cX7_tell 51 = .ok (.invokevirtual 40, 3) := by decide +kernel
theorem dX7_tell_54 : decode cX7_tell 54 = .ok (.ladd, 1) := by decide +kernel
theorem dX7_tell_55 : decode cX7_tell 55 = .ok (.lstore 5, 2) := by decide +kernel
theorem dX7_tell_57 : decode cX7_tell 57 = .ok (.aload_n 0, 1) := by decide +kernel
theorem dX7_tell_58 : decode cX7_tell 58 = .ok (.iload 4, 2) := by decide +kernel
theorem dX7_tell_60 : decode cX7_tell 60 = .ok (.lload 5, 2) := by decide +kernel
theorem dX7_tell_62 : decode cX7_tell 62 = .ok (.ldc2_w 67, 3) := by decide +kernel
theorem dX7_tell_65 : decode cX7_tell 65 = .ok (.lcmp, 1) := by decide +kernel
theorem dX7_tell_66 : decode cX7_tell 66 = .ok (.ifCond .le 9, 3) := by decide +kernel
theorem dX7_tell_69 : decode cX7_tell 69 = .ok (.ldc2_w 67, 3) := by decide +kernel
theorem dX7_tell_72 : decode cX7_tell 72 = .ok (.goto 5, 3) := by decide +kernel
theorem dX7_tell_75 : decode cX7_tell 75 = .ok (.lload 5, 2) := by decide +kernel
theorem dX7_tell_77 : decode cX7_tell 77 = .ok (.invokevirtual 81, 3) := by decide +kernel
theorem dX7_tell_80 : decode cX7_tell 80 = .ok (.iinc 4 1, 3) := by decide +kernel
theorem dX7_tell_83 : decode cX7_tell 83 = .ok (.goto (-80), 3) := by decide +kernel
theorem dX7_tell_86 : decode cX7_tell 86 = .ok (.return_, 1) := by decide +kernel
set_option maxRecDepth 20000 in
theorem ggX7_goesOn_X7_get : GoodIn wsX7_goesOn wsX7_get := goodIn_r _ [7, 8, 17, 18, 19, 20, 21, 22, 23, 24, 25] (by decide +kernel) (by decide +kernel)
set_option maxRecDepth 20000 in
theorem gX7_goesOn_X7_get : GoodIn wsX7_goesOn (wsV RX7 40 RX7 yX7_get wsX7_get) := goodIn_app (goodIn_of _ (by decide +kernel)) ggX7_goesOn_X7_get
set_option maxRecDepth 20000 in
theorem ggX7_goesOn_X7_put : GoodIn wsX7_goesOn wsX7_put := goodIn_r _ [12, 8, 17, 18, 19, 20, 21, 22, 23, 24, 25] (by decide +kernel) (by decide +kernel)
set_option maxRecDepth 20000 in
theorem gX7_goesOn_X7_put : GoodIn wsX7_goesOn (wsV RX7 52 RX7 yX7_put wsX7_put) := goodIn_app (goodIn_of _ (by decide +kernel)) ggX7_goesOn_X7_put
set_option maxRecDepth 20000 in
theorem ggX7_goesOn_X7_tick : GoodIn wsX7_goesOn wsX7_tick := goodIn_r _ [16, 9, 10, 11, 6, 12, 8, 17, 18, 19, 20, 21, 22, 23, 24, 25] (by decide +kernel) (by decide +kernel)
set_option maxRecDepth 20000 in
theorem gX7_goesOn_X7_tick : GoodIn wsX7_goesOn (wsV RX7 81 RX7 yX7_tick wsX7_tick) := goodIn_app (goodIn_of _ (by decide +kernel)) ggX7_goesOn_X7_tick
theorem dX7_goesOn_0 : decode cX7_goesOn 0 = .ok (.aload_n 0, 1) := by decide +kernel
theorem dX7_goesOn_1 : decode cX7_goesOn 1 = .ok (.iload_n 1, 1) := by decide +kernel
theorem dX7_goesOn_2 : decode cX7_goesOn 2 = .ok (.iconst 1, 1) := by decide +kernel
theorem dX7_goesOn_3 : decode cX7_goesOn 3 = .ok (.invokevirtual 40, 3) := by decide +kernel
theorem dX7_goesOn_6 : decode cX7_goesOn 6 = .ok (.lstore 4, 2) := by decide +kernel
theorem dX7_goesOn_8 : decode cX7_goesOn 8 = .ok (.lload 4, 2) := by decide +kernel
theorem dX7_goesOn_10 : decode cX7_goesOn 10 = .ok (.lconst 1, 1) := by decide +kernel
theorem dX7_goesOn_11 : decode cX7_goesOn 11 = .ok (.lcmp, 1) := by decide +kernel
theorem dX7_goesOn_12 : decode cX7_goesOn 12 = .ok (.ifCond .eq 20, 3) := by decide +kernel
theorem dX7_goesOn_15 : decode cX7_goesOn 15 = .ok (.lload 4, 2) := by decide +kernel
theorem dX7_goesOn_17 : decode cX7_goesOn 17 = .ok (.ldc2_w 107, 3) := by decide +kernel
theorem dX7_goesOn_20 : decode cX7_goesOn 20 = .ok (.lcmp, 1) := by decide +kernel
theorem dX7_goesOn_21 : decode cX7_goesOn 21 = .ok (.ifCond .eq 11, 3) := by decide +kernel
theorem dX7_goesOn_24 : decode cX7_goesOn 24 = .ok (.aload_n 0, 1) := by decide +kernel
theorem dX7_goesOn_25 : decode cX7_goesOn 25 = .ok (.iload_n 1, 1) := by decide +kernel
theorem dX7_goesOn_26 : decode cX7_goesOn 26 = .ok (.iconst 0, 1) := by decide +kernel
theorem dX7_goesOn_27 : decode cX7_goesOn 27 = .ok (.lconst 0, 1) := by decide +kernel
theorem dX7_goesOn_28 : decode cX7_goesOn 28 = .ok (.invokevirtual 52, 3) := by decide +kernel
theorem dX7_goesOn_31 : decode cX7_goesOn 31 = .ok (.return_, 1) := by decide +kernel
theorem dX7_goesOn_32 : decode cX7_goesOn 32 = .ok (.aload_n 0, 1) := by decide +kernel
theorem dX7_goesOn_33 : decode cX7_goesOn 33 = .ok (.iload_n 1, 1) := by decide +kernel
theorem dX7_goesOn_34 : decode cX7_goesOn 34 = .ok (.bipush 6, 2) := by decide +kernel
theorem dX7_goesOn_36 : decode cX7_goesOn 36 = .ok (.invokevirtual 40, 3) := by decide +kernel
theorem dX7_goesOn_39 : decode cX7_goesOn 39 = .ok (.lstore 6, 2) := by decide +kernel
theorem dX7_goesOn_41 : decode cX7_goesOn 41 = .ok (.lload_n 2, 1) := by decide +kernel
theorem dX7_goesOn_42 : decode cX7_goesOn 42 = .ok (.aload_n 0, 1) := by decide +kernel
theorem dX7_goesOn_43 : decode cX7_goesOn 43 = .ok (.iload_n 1, 1) := by decide +kernel
theorem dX7_goesOn_44 : decode cX7_goesOn 44 = .ok (.iconst 5, 1) := by decide +kernel
theorem dX7_goesOn_45 : decode cX7_goesOn 45 = .ok (.invokevirtual 40, 3) := by decide +kernel
theorem dX7_goesOn_48 : decode cX7_goesOn 48 = .ok (.ladd, 1) := by decide +kernel
theorem dX7_goesOn_49 : decode cX7_goesOn 49 = .ok (.lstore 8, 2) := by decide +kernel
theorem dX7_goesOn_51 : decode cX7_goesOn 51 = .ok (.lload 6, 2) := by decide +kernel
theorem dX7_goesOn_53 : decode cX7_goesOn 53 = .ok (.lconst 1, 1) := by decide +kernel
theorem dX7_goesOn_54 : decode cX7_goesOn 54 = .ok (.lcmp, 1) := by decide +kernel
theorem dX7_goesOn_55 : decode cX7_goesOn 55 = .ok (.ifCond .eq 12, 3) := by decide +kernel
theorem dX7_goesOn_58 : decode cX7_goesOn 58 = .ok (.lload 8, 2) := by decide +kernel
theorem dX7_goesOn_60 : decode cX7_goesOn 60 = .ok (.ldc2_w 67, 3) := by decide +kernel
theorem dX7_goesOn_63 : decode cX7_goesOn 63 = .ok (.lcmp, 1) := by decide +kernel
theorem dX7_goesOn_64 : decode cX7_goesOn 64 = .ok (.ifCond .le 11, 3) := by decide +kernel
theorem dX7_goesOn_67 : decode cX7_goesOn 67 = .ok (.aload_n 0, 1) := by decide +kernel
theorem dX7_goesOn_68 : decode cX7_goesOn 68 = .ok (.iload_n 1, 1) := by decide +kernel
theorem dX7_goesOn_69 : decode cX7_goesOn 69 = .ok (.iconst 0, 1) := by decide +kernel
theorem dX7_goesOn_70 : decode cX7_goesOn 70 = .ok (.lconst 0, 1) := by decide +kernel
theorem dX7_goesOn_71 : decode cX7_goesOn 71 = .ok (.invokevirtual 52, 3) := by decide +kernel
theorem dX7_goesOn_74 : decode cX7_goesOn 74 = .ok (.return_, 1) := by decide +kernel
theorem dX7_goesOn_75 : decode cX7_goesOn 75 = .ok (.aload_n 0, 1) := by decide +kernel
theorem dX7_goesOn_76 : decode cX7_goesOn 76 = .ok (.iload_n 1, 1) := by decide +kernel
theorem dX7_goesOn_77 : decode cX7_goesOn 77 = .ok (.bipush 6, 2) := by decide +kernel
theorem dX7_goesOn_79 : decode cX7_goesOn 79 = .ok (.lload 6, 2) := by decide +kernel
theorem dX7_goesOn_81 : decode cX7_goesOn 81 = .ok (.lconst 0, 1) := by decide +kernel
theorem dX7_goesOn_82 : decode cX7_goesOn 82 = .ok (.lcmp, 1) := by decide +kernel
theorem dX7_goesOn_83 : decode cX7_goesOn 83 = .ok (.ifCond .ne 7, 3) := by decide +kernel
theorem dX7_goesOn_86 : decode cX7_goesOn 86 = .ok (.lconst 0, 1) := by decide +kernel
theorem dX7_goesOn_87 : decode cX7_goesOn 87 = .ok (.goto 7, 3) := by decide +kernel
theorem dX7_goesOn_90 : decode cX7_goesOn 90 = .ok (.lload 6, 2) := by decide +kernel
theorem dX7_goesOn_92 : decode cX7_goesOn 92 = .ok (.lconst 1, 1) := by decide +kernel
theorem dX7_goesOn_93 : decode cX7_goesOn 93 = .ok (.lsub, 1) := by decide +kernel
theorem dX7_goesOn_94 : decode cX7_goesOn 94 = .ok (.invokevirtual 52, 3) := by decide +kernel
theorem dX7_goesOn_97 : decode cX7_goesOn 97 = .ok (.aload_n 0, 1) := by decide +kernel
theorem dX7_goesOn_98 : decode cX7_goesOn 98 = .ok (.iload_n 1, 1) := by decide +kernel
theorem dX7_goesOn_99 : decode cX7_goesOn 99 = .ok (.lload 8, 2) := by decide +kernel
theorem dX7_goesOn_101 : decode cX7_goesOn 101 = .ok (.invokevirtual 81, 3) := by decide +kernel
theorem dX7_goesOn_104 : decode cX7_goesOn 104 = .ok (.return_, 1) := by decide +kernel
set_option maxRecDepth 20000 in
theorem ggX7_goAll_X7_get : GoodIn wsX7_goAll wsX7_get := goodIn_r _ [10, 5, 42, 43, 44, 45, 46, 47, 48, 49, 50] (by decide +kernel) (by decide +kernel)
set_option maxRecDepth 20000 in
theorem gX7_goAll_X7_get : GoodIn wsX7_goAll (wsV RX7 40 RX7 yX7_get wsX7_get) := goodIn_app (goodIn_of _ (by decide +kernel)) ggX7_goAll_X7_get
set_option maxRecDepth 20000 in
theorem ggX7_goAll_X7_tell : GoodIn wsX7_goAll wsX7_tell := goodIn_r _ [14, 15, 16, 17, 18, 19, 9, 20, 21, 22, 23, 24, 25, 26, 27, 28, 6, 7, 8, 10, 5, 29, 30, 31, 32, 33, 34, 35, 36, 42, 43, 44, 45, 46, 47, 48, 49, 50] (by decide +kernel) (by decide +kernel)
set_option maxRecDepth 20000 in
theorem gX7_goAll_X7_tell : GoodIn wsX7_goAll (wsV RX7 135 RX7 yX7_tell wsX7_tell) := goodIn_app (goodIn_of _ (by decide +kernel)) ggX7_goAll_X7_tell
set_option maxRecDepth 20000 in
theorem ggX7_goAll_X7_goesOn : GoodIn wsX7_goAll wsX7_goesOn := goodIn_r _ [40, 41, 16, 6, 7, 8, 9, 10, 5, 29, 30, 31, 32, 33, 34, 35, 36, 42, 43, 44, 45, 46, 47, 48, 49, 50] (by decide +kernel) (by decide +kernel)
set_option maxRecDepth 20000 in
theorem gX7_goAll_X7_goesOn : GoodIn wsX7_goAll (wsV RX7 138 RX7 yX7_goesOn wsX7_goesOn) := goodIn_app (goodIn_of _ (by decide +kernel)) ggX7_goAll_X7_goesOn
theorem dX7_goAll_0 : decode cX7_goAll 0 = .ok (.iconst 0, 1) := by decide +kernel
theorem dX7_goAll_1 : decode cX7_goAll 1 = .ok (.istore_n 3, 1) := by decide +kernel
theorem dX7_goAll_2 : decode cX7_goAll 2 = .ok (.iload_n 3, 1) := by decide +kernel
theorem dX7_goAll_3 : decode cX7_goAll 3 = .ok (.aload_n 0, 1) := by decide +kernel
theorem dX7_goAll_4 : decode cX7_goAll 4 = .ok (.getfield 124, 3) := by decide +kernel
theorem dX7_goAll_7 : decode cX7_goAll 7 = .ok (.if_icmp .ge 110, 3) := by decide +kernel
theorem dX7_goAll_10 : decode cX7_goAll 10 = .ok (.aload_n 0, 1) := by decide +kernel
theorem dX7_goAll_11 : decode cX7_goAll 11 = .ok (.getfield 16, 3) := by decide +kernel
theorem dX7_goAll_14 : decode cX7_goAll 14 = .ok (.iload_n 3, 1) := by decide +kernel
theorem dX7_goAll_15 : decode cX7_goAll 15 = .ok (.iaload, 1) := by decide +kernel
theorem dX7_goAll_16 : decode cX7_goAll 16 = .ok (.istore 4, 2) := by decide +kernel
theorem dX7_goAll_18 : decode cX7_goAll 18 = .ok (.ldc2_w 131, 3) := by decide +kernel
theorem dX7_goAll_21 : decode cX7_goAll 21 = .ok (.ldc2_w 133, 3) := by decide +kernel
theorem dX7_goAll_24 : decode cX7_goAll 24 = .ok (.aload_n 0, 1) := by decide +kernel
theorem dX7_goAll_25 : decode cX7_goAll 25 = .ok (.getfield 7, 3) := by decide +kernel
theorem dX7_goAll_28 : decode cX7_goAll 28 = .ok (.sipush 3702, 3) := by decide +kernel
theorem dX7_goAll_31 : decode cX7_goAll 31 = .ok (.laload, 1) := by decide +kernel
theorem dX7_goAll_32 : decode cX7_goAll 32 = .ok (.lmul, 1) := by decide +kernel
theorem dX7_goAll_33 : decode cX7_goAll 33 = .ok (.ladd, 1) := by decide +kernel
theorem dX7_goAll_34 : decode cX7_goAll 34 = .ok (.l2i, 1) := by decide +kernel
theorem dX7_goAll_35 : decode cX7_goAll 35 = .ok (.istore 5, 2) := by decide +kernel
theorem dX7_goAll_37 : decode cX7_goAll 37 = .ok (.aload_n 0, 1) := by decide +kernel
theorem dX7_goAll_38 : decode cX7_goAll 38 = .ok (.getfield 7, 3) := by decide +kernel
theorem dX7_goAll_41 : decode cX7_goAll 41 = .ok (.iload 5, 2) := by decide +kernel
theorem dX7_goAll_43 : decode cX7_goAll 43 = .ok (.iload 4, 2) := by decide +kernel
theorem dX7_goAll_45 : decode cX7_goAll 45 = .ok (.i2l, 1) := by decide +kernel
theorem dX7_goAll_46 : decode cX7_goAll 46 = .ok (.lastore, 1) := by decide +kernel
theorem dX7_goAll_47 : decode cX7_goAll 47 = .ok (.aload_n 0, 1) := by decide +kernel
theorem dX7_goAll_48 : decode cX7_goAll 48 = .ok (.getfield 7, 3) := by decide +kernel
theorem dX7_goAll_51 : decode cX7_goAll 51 = .ok (.iload 5, 2) := by decide +kernel
theorem dX7_goAll_53 : decode cX7_goAll 53 = .ok (.iconst 1, 1) := by decide +kernel
theorem dX7_goAll_54 : decode cX7_goAll 54 = .ok (.iadd, 1) := by decide +kernel
theorem dX7_goAll_55 : decode cX7_goAll 55 = .ok (.lload_n 1, 1) := by decide +kernel
theorem dX7_goAll_56 : decode cX7_goAll 56 = .ok (.lastore, 1) := by decide +kernel
theorem dX7_goAll_57 : decode cX7_goAll 57 = .ok (.aload_n 0, 1) := by decide +kernel
theorem dX7_goAll_58 : decode cX7_goAll 58 = .ok (.getfield 7, 3) := by decide +kernel
theorem dX7_goAll_61 : decode cX7_goAll 61 = .ok (.iload 5, 2) := by decide +kernel
theorem dX7_goAll_63 : decode cX7_goAll 63 = .ok (.iconst 2, 1) := by decide +kernel
theorem dX7_goAll_64 : decode cX7_goAll 64 = .ok (.iadd, 1) := by decide +kernel
theorem dX7_goAll_65 : decode cX7_goAll 65 = .ok (.aload_n 0, 1) := by decide +kernel
theorem dX7_goAll_66 : decode cX7_goAll 66 = .ok (.iload 4, 2) := by decide +kernel
theorem dX7_goAll_68 : decode cX7_goAll 68 = .ok (.iconst 2, 1) := by decide +kernel
theorem dX7_goAll_69 : decode cX7_goAll 69 = .ok (.invokevirtual 40, 3) := by decide +kernel
theorem dX7_goAll_72 : decode cX7_goAll 72 = .ok (.lastore, 1) := by decide +kernel
theorem dX7_goAll_73 : decode cX7_goAll 73 = .ok (.aload_n 0, 1) := by decide +kernel
theorem dX7_goAll_74 : decode cX7_goAll 74 = .ok (.getfield 7, 3) := by decide +kernel
theorem dX7_goAll_77 : decode cX7_goAll 77 = .ok (.sipush 3702, 3) := by decide +kernel
theorem dX7_goAll_80 : decode cX7_goAll 80 = .ok (.dup2, 1) := by decide +kernel
theorem dX7_goAll_81 : decode cX7_goAll 81 = .ok (.laload, 1) := by decide +kernel
theorem dX7_goAll_82 : decode cX7_goAll 82 = .ok (.lconst 1, 1) := by decide +kernel
theorem dX7_goAll_83 : decode cX7_goAll 83 = .ok (.ladd, 1) := by decide +kernel
theorem dX7_goAll_84 : decode cX7_goAll 84 = .ok (.lastore, 1) := by decide +kernel
theorem dX7_goAll_85 : decode cX7_goAll 85 = .ok (.aload_n 0, 1) := by decide +kernel
theorem dX7_goAll_86 : decode cX7_goAll 86 = .ok (.getfield 7, 3) := by decide +kernel
theorem dX7_goAll_89 : decode cX7_goAll 89 = .ok (.sipush 3703, 3) := by decide +kernel
theorem dX7_goAll_92 : decode cX7_goAll 92 = .ok (.dup2, 1) := by decide +kernel
theorem dX7_goAll_93 : decode cX7_goAll 93 = .ok (.laload, 1) := by decide +kernel
theorem dX7_goAll_94 : decode cX7_goAll 94 = .ok (.lconst 1, 1) := by decide +kernel
theorem dX7_goAll_95 : decode cX7_goAll 95 = .ok (.ladd, 1) := by decide +kernel
theorem dX7_goAll_96 : decode cX7_goAll 96 = .ok (.lastore, 1) := by decide +kernel
theorem dX7_goAll_97 : decode cX7_goAll 97 = .ok (.aload_n 0, 1) := by decide +kernel
theorem dX7_goAll_98 : decode cX7_goAll 98 = .ok (.iload 4, 2) := by decide +kernel
theorem dX7_goAll_100 : decode cX7_goAll 100 = .ok (.lload_n 1, 1) := by decide +kernel
theorem dX7_goAll_101 : decode cX7_goAll 101 = .ok (.invokevirtual 135, 3) := by decide +kernel
theorem dX7_goAll_104 : decode cX7_goAll 104 = .ok (.aload_n 0, 1) := by decide +kernel
theorem dX7_goAll_105 : decode cX7_goAll 105 = .ok (.iload 4, 2) := by decide +kernel
theorem dX7_goAll_107 : decode cX7_goAll 107 = .ok (.lload_n 1, 1) := by decide +kernel
theorem dX7_goAll_108 : decode cX7_goAll 108 = .ok (.invokevirtual 138, 3) := by decide +kernel
theorem dX7_goAll_111 : decode cX7_goAll 111 = .ok (.iinc 3 1, 3) := by decide +kernel
theorem dX7_goAll_114 : decode cX7_goAll 114 = .ok (.goto (-112), 3) := by decide +kernel
theorem dX7_goAll_117 : decode cX7_goAll 117 = .ok (.return_, 1) := by decide +kernel
set_option maxRecDepth 20000 in
theorem ggX7_go_X7_isIn : GoodIn wsX7_go wsX7_isIn := goodIn_r _ [9] (by decide +kernel) (by decide +kernel)
set_option maxRecDepth 20000 in
theorem gX7_go_X7_isIn : GoodIn wsX7_go (va_wsS RX7 36 yX7_isIn wsX7_isIn) := goodIn_app (goodIn_of _ (by decide +kernel)) ggX7_go_X7_isIn
set_option maxRecDepth 20000 in
theorem ggX7_go_X7_keep : GoodIn wsX7_go wsX7_keep := goodIn_r _ [13, 14, 15, 1, 81, 82, 83, 84, 85, 86, 87, 88, 89] (by decide +kernel) (by decide +kernel)
set_option maxRecDepth 20000 in
theorem gX7_go_X7_keep : GoodIn wsX7_go (wsV RX7 60 RX7 yX7_keep wsX7_keep) := goodIn_app (goodIn_of _ (by decide +kernel)) ggX7_go_X7_keep
set_option maxRecDepth 20000 in
theorem ggX7_go_X7_nextTick : GoodIn wsX7_go wsX7_nextTick := goodIn_r _ [19, 20, 21, 22, 23, 8, 24, 25, 26, 27, 28, 29, 30, 6, 7, 9, 31, 32, 33, 34, 1, 81, 82, 83, 84, 85, 86, 87, 88, 89] (by decide +kernel) (by decide +kernel)
set_option maxRecDepth 20000 in
theorem gX7_go_X7_nextTick : GoodIn wsX7_go (wsV RX7 143 RX7 yX7_nextTick wsX7_nextTick) := goodIn_app (goodIn_of _ (by decide +kernel)) ggX7_go_X7_nextTick
set_option maxRecDepth 20000 in
theorem ggX7_go_X7_findAll : GoodIn wsX7_go wsX7_findAll := goodIn_r _ [38, 4, 39, 40, 41, 8, 42, 43, 21, 22, 23, 24, 25, 26, 27, 28, 29, 30, 6, 7, 9, 31, 32, 33, 34, 1, 81, 82, 83, 84, 85, 86, 87, 88, 89] (by decide +kernel) (by decide +kernel)
set_option maxRecDepth 20000 in
theorem gX7_go_X7_findAll : GoodIn wsX7_go (wsV RX7 147 RX7 yX7_findAll wsX7_findAll) := goodIn_app (goodIn_of _ (by decide +kernel)) ggX7_go_X7_findAll
set_option maxRecDepth 20000 in
theorem ggX7_go_X7_pass : GoodIn wsX7_go wsX7_pass := goodIn_r _ [47, 1, 21, 22, 23, 8, 24, 25, 26, 27, 28, 29, 30, 6, 7, 9, 31, 32, 33, 34, 48, 49, 50, 51, 52, 53, 54, 55, 56, 57, 81, 82, 83, 84, 85, 86, 87, 88, 89] (by decide +kernel) (by decide +kernel)
set_option maxRecDepth 20000 in
theorem gX7_go_X7_pass : GoodIn wsX7_go (wsV RX7 153 RX7 yX7_pass wsX7_pass) := goodIn_app (goodIn_of _ (by decide +kernel)) ggX7_go_X7_pass
set_option maxRecDepth 20000 in
theorem ggX7_go_X7_goAll : GoodIn wsX7_go wsX7_goAll := goodIn_r _ [61, 4, 43, 62, 63, 1, 31, 32, 33, 8, 34, 64, 65, 66, 67, 25, 20, 68, 69, 70, 71, 26, 27, 28, 29, 30, 6, 7, 9, 54, 55, 56, 57, 72, 73, 74, 75, 76, 77, 78, 79, 80, 81, 82, 83, 84, 85, 86, 87, 88, 89] (by decide +kernel) (by decide +kernel)
set_option maxRecDepth 20000 in
theorem gX7_go_X7_goAll : GoodIn wsX7_go (wsV RX7 156 RX7 yX7_goAll wsX7_goAll) := goodIn_app (goodIn_of _ (by decide +kernel)) ggX7_go_X7_goAll
theorem dX7_go_0 : decode cX7_go 0 = .ok (.lload_n 1, 1) := by decide +kernel
theorem dX7_go_1 : decode cX7_go 1 = .ok (.aload_n 0, 1) := by decide +kernel
theorem dX7_go_2 : decode cX7_go 2 = .ok (.getfield 7, 3) := by decide +kernel
theorem dX7_go_5 : decode cX7_go 5 = .ok (.sipush 3700, 3) := by decide +kernel
theorem dX7_go_8 : decode cX7_go 8 = .ok (.laload, 1) := by decide +kernel
theorem dX7_go_9 : decode cX7_go 9 = .ok (.ldc2_w 141, 3) := by decide +kernel
theorem dX7_go_12 : decode cX7_go 12 = .ok (.invokestatic 36, 3) := by decide +kernel
theorem dX7_go_15 : decode cX7_go 15 = .ok (.ifCond .ne 7, 3) := by decide +kernel
theorem dX7_go_18 : decode cX7_go 18 = .ok (.ldc2_w 73, 3) := by decide +kernel
theorem dX7_go_21 : decode cX7_go 21 = .ok (.lreturn, 1) := by decide +kernel
theorem dX7_go_22 : decode cX7_go 22 = .ok (.aload_n 0, 1) := by decide +kernel
theorem dX7_go_23 : decode cX7_go 23 = .ok (.invokevirtual 60, 3) := by decide +kernel
theorem dX7_go_26 : decode cX7_go 26 = .ok (.aload_n 0, 1) := by decide +kernel
theorem dX7_go_27 : decode cX7_go 27 = .ok (.getfield 7, 3) := by decide +kernel
theorem dX7_go_30 : decode cX7_go 30 = .ok (.sipush 3702, 3) := by decide +kernel
theorem dX7_go_33 : decode cX7_go 33 = .ok (.lconst 0, 1) := by decide +kernel
theorem dX7_go_34 : decode cX7_go 34 = .ok (.lastore, 1) := by decide +kernel
theorem dX7_go_35 : decode cX7_go 35 = .ok (.iconst 1, 1) := by decide +kernel
theorem dX7_go_36 : decode cX7_go 36 = .ok (.istore_n 3, 1) := by decide +kernel
theorem dX7_go_37 : decode cX7_go 37 = .ok (.iload_n 3, 1) := by decide +kernel
theorem dX7_go_38 : decode cX7_go 38 = .ok (.ifCond .eq 85, 3) := by decide +kernel
theorem dX7_go_41 : decode cX7_go 41 = .ok (.aload_n 0, 1) := by decide +kernel
theorem dX7_go_42 : decode cX7_go 42 = .ok (.invokevirtual 143, 3) := by decide +kernel
theorem dX7_go_45 : decode cX7_go 45 = .ok (.lstore 4, 2) := by decide +kernel
theorem dX7_go_47 : decode cX7_go 47 = .ok (.lload 4, 2) := by decide +kernel
theorem dX7_go_49 : decode cX7_go 49 = .ok (.lload_n 1, 1) := by decide +kernel
theorem dX7_go_50 : decode cX7_go 50 = .ok (.lcmp, 1) := by decide +kernel
theorem dX7_go_51 : decode cX7_go 51 = .ok (.ifCond .gt 7, 3) := by decide +kernel
theorem dX7_go_54 : decode cX7_go 54 = .ok (.iconst 1, 1) := by decide +kernel
theorem dX7_go_55 : decode cX7_go 55 = .ok (.goto 4, 3) := by decide +kernel
theorem dX7_go_58 : decode cX7_go 58 = .ok (.iconst 0, 1) := by decide +kernel
theorem dX7_go_59 : decode cX7_go 59 = .ok (.istore_n 3, 1) := by decide +kernel
theorem dX7_go_60 : decode cX7_go 60 = .ok (.iload_n 3, 1) := by decide +kernel
theorem dX7_go_61 : decode cX7_go 61 = .ok (.ifCond .eq 59, 3) := by decide +kernel
theorem dX7_go_64 : decode cX7_go 64 = .ok (.aload_n 0, 1) := by decide +kernel
theorem dX7_go_65 : decode cX7_go 65 = .ok (.lload 4, 2) := by decide +kernel
theorem dX7_go_67 : decode cX7_go 67 = .ok (.invokevirtual 147, 3) := by decide +kernel
theorem dX7_go_70 : decode cX7_go 70 = .ok (.aload_n 0, 1) := by decide +kernel
theorem dX7_go_71 : decode cX7_go 71 = .ok (.getfield 7, 3) := by decide +kernel
theorem dX7_go_74 : decode cX7_go 74 = .ok (.sipush 3702, 3) := by decide +kernel
theorem dX7_go_77 : decode cX7_go 77 = .ok (.laload, 1) := by decide +kernel
theorem dX7_go_78 : decode cX7_go 78 = .ok (.aload_n 0, 1) := by decide +kernel
theorem dX7_go_79 : decode cX7_go 79 = .ok (.getfield 124, 3) := by decide +kernel
theorem dX7_go_82 : decode cX7_go 82 = .ok (.i2l, 1) := by decide +kernel
theorem dX7_go_83 : decode cX7_go 83 = .ok (.ladd, 1) := by decide +kernel
theorem dX7_go_84 : decode cX7_go 84 = .ok (.ldc2_w 151, 3) := by decide +kernel
theorem dX7_go_87 : decode cX7_go 87 = .ok (.lcmp, 1) := by decide +kernel
theorem dX7_go_88 : decode cX7_go 88 = .ok (.ifCond .le 20, 3) := by decide +kernel
theorem dX7_go_91 : decode cX7_go 91 = .ok (.aload_n 0, 1) := by decide +kernel
theorem dX7_go_92 : decode cX7_go 92 = .ok (.lload 4, 2) := by decide +kernel
theorem dX7_go_94 : decode cX7_go 94 = .ok (.lconst 1, 1) := by decide +kernel
theorem dX7_go_95 : decode cX7_go 95 = .ok (.lsub, 1) := by decide +kernel
theorem dX7_go_96 : decode cX7_go 96 = .ok (.invokevirtual 153, 3) := by decide +kernel
theorem dX7_go_99 : decode cX7_go 99 = .ok (.aload_n 0, 1) := by decide +kernel
theorem dX7_go_100 : decode cX7_go 100 = .ok (.getfield 7, 3) := by decide +kernel
theorem dX7_go_103 : decode cX7_go 103 = .ok (.sipush 3700, 3) := by decide +kernel
theorem dX7_go_106 : decode cX7_go 106 = .ok (.laload, 1) := by decide +kernel
theorem dX7_go_107 : decode cX7_go 107 = .ok (.lreturn, 1) := by decide +kernel
theorem dX7_go_108 : decode cX7_go 108 = .ok (.aload_n 0, 1) := by decide +kernel
theorem dX7_go_109 : decode cX7_go 109 = .ok (.lload 4, 2) := by decide +kernel
theorem dX7_go_111 : decode cX7_go 111 = .ok (.invokevirtual 153, 3) := by decide +kernel
theorem dX7_go_114 : decode cX7_go 114 = .ok (.aload_n 0, 1) := by decide +kernel
theorem dX7_go_115 : decode cX7_go 115 = .ok (.lload 4, 2) := by decide +kernel
theorem dX7_go_117 : decode cX7_go 117 = .ok (.invokevirtual 156, 3) := by decide +kernel
theorem dX7_go_120 : decode cX7_go 120 = .ok (.goto (-83), 3) := by decide +kernel
theorem dX7_go_123 : decode cX7_go 123 = .ok (.aload_n 0, 1) := by decide +kernel
theorem dX7_go_124 : decode cX7_go 124 = .ok (.lload_n 1, 1) := by decide +kernel
theorem dX7_go_125 : decode cX7_go 125 = .ok (.invokevirtual 153, 3) := by decide +kernel
theorem dX7_go_128 : decode cX7_go 128 = .ok (.aload_n 0, 1) := by decide +kernel
theorem dX7_go_129 : decode cX7_go 129 = .ok (.getfield 7, 3) := by decide +kernel
theorem dX7_go_132 : decode cX7_go 132 = .ok (.sipush 3700, 3) := by decide +kernel
theorem dX7_go_135 : decode cX7_go 135 = .ok (.laload, 1) := by decide +kernel
theorem dX7_go_136 : decode cX7_go 136 = .ok (.lreturn, 1) := by decide +kernel
set_option maxRecDepth 20000 in
theorem ggX7_went_X7_isIn : GoodIn wsX7_went wsX7_isIn := goodIn_r _ [8] (by decide +kernel) (by decide +kernel)
set_option maxRecDepth 20000 in
theorem gX7_went_X7_isIn : GoodIn wsX7_went (va_wsS RX7 36 yX7_isIn wsX7_isIn) := goodIn_app (goodIn_of _ (by decide +kernel)) ggX7_went_X7_isIn
theorem dX7_went_0 : decode cX7_went 0 = .ok (.iload_n 1, 1) := by decide +kernel
theorem dX7_went_1 : decode cX7_went 1 = .ok (.ifCond .lt 15, 3) := by decide +kernel
theorem dX7_went_4 : decode cX7_went 4 = .ok (.iload_n 2, 1) := by decide +kernel
theorem dX7_went_5 : decode cX7_went 5 = .ok (.i2l, 1) := by decide +kernel
theorem dX7_went_6 : decode cX7_went 6 = .ok (.lconst 0, 1) := by decide +kernel
theorem dX7_went_7 : decode cX7_went 7 = .ok (.ldc2_w 99, 3) := by decide +kernel
theorem dX7_went_10 : decode cX7_went 10 = .ok (.invokestatic 36, 3) := by decide +kernel
theorem dX7_went_13 : decode cX7_went 13 = .ok (.ifCond .ne 7, 3) := by decide +kernel
theorem dX7_went_16 : decode cX7_went 16 = .ok (.ldc2_w 73, 3) := by decide +kernel
theorem dX7_went_19 : decode cX7_went 19 = .ok (.lreturn, 1) := by decide +kernel
theorem dX7_went_20 : decode cX7_went 20 = .ok (.iload_n 1, 1) := by decide +kernel
theorem dX7_went_21 : decode cX7_went 21 = .ok (.i2l, 1) := by decide +kernel
theorem dX7_went_22 : decode cX7_went 22 = .ok (.aload_n 0, 1) := by decide +kernel
theorem dX7_went_23 : decode cX7_went 23 = .ok (.getfield 7, 3) := by decide +kernel
theorem dX7_went_26 : decode cX7_went 26 = .ok (.sipush 3702, 3) := by decide +kernel
theorem dX7_went_29 : decode cX7_went 29 = .ok (.laload, 1) := by decide +kernel
theorem dX7_went_30 : decode cX7_went 30 = .ok (.lcmp, 1) := by decide +kernel
theorem dX7_went_31 : decode cX7_went 31 = .ok (.ifCond .ge 20, 3) := by decide +kernel
theorem dX7_went_34 : decode cX7_went 34 = .ok (.aload_n 0, 1) := by decide +kernel
theorem dX7_went_35 : decode cX7_went 35 = .ok (.getfield 7, 3) := by decide +kernel
theorem dX7_went_38 : decode cX7_went 38 = .ok (.sipush 2800, 3) := by decide +kernel
theorem dX7_went_41 : decode cX7_went 41 = .ok (.iconst 3, 1) := by decide +kernel
theorem dX7_went_42 : decode cX7_went 42 = .ok (.iload_n 1, 1) := by decide +kernel
theorem dX7_went_43 : decode cX7_went 43 = .ok (.imul, 1) := by decide +kernel
theorem dX7_went_44 : decode cX7_went 44 = .ok (.iadd, 1) := by decide +kernel
theorem dX7_went_45 : decode cX7_went 45 = .ok (.iload_n 2, 1) := by decide +kernel
theorem dX7_went_46 : decode cX7_went 46 = .ok (.iadd, 1) := by decide +kernel
theorem dX7_went_47 : decode cX7_went 47 = .ok (.laload, 1) := by decide +kernel
theorem dX7_went_48 : decode cX7_went 48 = .ok (.goto 6, 3) := by decide +kernel
theorem dX7_went_51 : decode cX7_went 51 = .ok (.ldc2_w 48, 3) := by decide +kernel
theorem dX7_went_54 : decode cX7_went 54 = .ok (.lreturn, 1) := by decide +kernel
set_option maxRecDepth 20000 in
theorem ggX7_next_X7_nextTick : GoodIn wsX7_next wsX7_nextTick := goodIn_r _ [7, 1, 8, 9, 10, 6, 11, 2, 12, 13, 14, 15, 16, 17, 18, 19, 20, 21, 22, 23, 24, 25, 26, 27, 28, 29, 30, 31, 32, 33] (by decide +kernel) (by decide +kernel)
set_option maxRecDepth 20000 in
theorem gX7_next_X7_nextTick : GoodIn wsX7_next (wsV RX7 143 RX7 yX7_nextTick wsX7_nextTick) := goodIn_app (goodIn_of _ (by decide +kernel)) ggX7_next_X7_nextTick
theorem dX7_next_0 : decode cX7_next 0 = .ok (.aload_n 0, 1) := by decide +kernel
theorem dX7_next_1 : decode cX7_next 1 = .ok (.invokevirtual 143, 3) := by decide +kernel
theorem dX7_next_4 : decode cX7_next 4 = .ok (.lstore_n 1, 1) := by decide +kernel
theorem dX7_next_5 : decode cX7_next 5 = .ok (.lload_n 1, 1) := by decide +kernel
theorem dX7_next_6 : decode cX7_next 6 = .ok (.ldc2_w 67, 3) := by decide +kernel
theorem dX7_next_9 : decode cX7_next 9 = .ok (.lcmp, 1) := by decide +kernel
theorem dX7_next_10 : decode cX7_next 10 = .ok (.ifCond .ne 9, 3) := by decide +kernel
theorem dX7_next_13 : decode cX7_next 13 = .ok (.ldc2_w 48, 3) := by decide +kernel
theorem dX7_next_16 : decode cX7_next 16 = .ok (.goto 4, 3) := by decide +kernel
theorem dX7_next_19 : decode cX7_next 19 = .ok (.lload_n 1, 1) := by decide +kernel
theorem dX7_next_20 : decode cX7_next 20 = .ok (.lreturn, 1) := by decide +kernel
set_option maxRecDepth 20000 in
theorem ggX7_gather_X7_hasTick : GoodIn wsX7_gather wsX7_hasTick := goodIn_r _ [10, 3, 11, 12, 13, 9, 14, 15, 16, 17, 18, 19, 20, 21, 22, 23, 28, 29, 30, 31, 32, 33, 34, 35, 36] (by decide +kernel) (by decide +kernel)
set_option maxRecDepth 20000 in
theorem gX7_gather_X7_hasTick : GoodIn wsX7_gather (wsV RX7 96 RX7 yX7_hasTick wsX7_hasTick) := goodIn_app (goodIn_of _ (by decide +kernel)) ggX7_gather_X7_hasTick
set_option maxRecDepth 20000 in
theorem ggX7_gather_X7_get : GoodIn wsX7_gather wsX7_get := goodIn_r _ [22, 23, 28, 29, 30, 31, 32, 33, 34, 35, 36] (by decide +kernel) (by decide +kernel)
set_option maxRecDepth 20000 in
theorem gX7_gather_X7_get : GoodIn wsX7_gather (wsV RX7 40 RX7 yX7_get wsX7_get) := goodIn_app (goodIn_of _ (by decide +kernel)) ggX7_gather_X7_get
set_option maxRecDepth 20000 in
theorem ggX7_gather_X7_isAhead : GoodIn wsX7_gather wsX7_isAhead := goodIn_r _ [27, 19, 20, 21, 9, 22, 23, 28, 29, 30, 31, 32, 33, 34, 35, 36] (by decide +kernel) (by decide +kernel)
set_option maxRecDepth 20000 in
theorem gX7_gather_X7_isAhead : GoodIn wsX7_gather (wsV RX7 162 RX7 yX7_isAhead wsX7_isAhead) := goodIn_app (goodIn_of _ (by decide +kernel)) ggX7_gather_X7_isAhead
theorem dX7_gather_0 : decode cX7_gather 0 = .ok (.aload_n 0, 1) := by decide +kernel
theorem dX7_gather_1 : decode cX7_gather 1 = .ok (.iconst 0, 1) := by decide +kernel
theorem dX7_gather_2 : decode cX7_gather 2 = .ok (.putfield 159, 3) := by decide +kernel
theorem dX7_gather_5 : decode cX7_gather 5 = .ok (.iconst 0, 1) := by decide +kernel
theorem dX7_gather_6 : decode cX7_gather 6 = .ok (.istore_n 1, 1) := by decide +kernel
theorem dX7_gather_7 : decode cX7_gather 7 = .ok (.iload_n 1, 1) := by decide +kernel
theorem dX7_gather_8 : decode cX7_gather 8 = .ok (.sipush 200, 3) := by decide +kernel
theorem dX7_gather_11 : decode cX7_gather 11 = .ok (.if_icmp .ge 118, 3) := by decide +kernel
theorem dX7_gather_14 : decode cX7_gather 14 = .ok (.aload_n 0, 1) := by decide +kernel
theorem dX7_gather_15 : decode cX7_gather 15 = .ok (.getfield 23, 3) := by decide +kernel
theorem dX7_gather_18 : decode cX7_gather 18 = .ok (.iload_n 1, 1) := by decide +kernel
theorem dX7_gather_19 : decode cX7_gather 19 = .ok (.aload_n 0, 1) := by decide +kernel
theorem dX7_gather_20 : decode cX7_gather 20 = .ok (.iload_n 1, 1) := by decide +kernel
theorem dX7_gather_21 : decode cX7_gather 21 = .ok (.invokevirtual 96, 3) := by decide +kernel
theorem dX7_gather_24 : decode cX7_gather 24 = .ok (.ifCond .eq 12, 3) := by decide +kernel
theorem dX7_gather_27 : decode cX7_gather 27 = .ok (.aload_n 0, 1) := by decide +kernel
theorem dX7_gather_28 : decode cX7_gather 28 = .ok (.iload_n 1, 1) := by decide +kernel
theorem dX7_gather_29 : decode cX7_gather 29 = .ok (.iconst 3, 1) := by decide +kernel
theorem dX7_gather_30 : decode cX7_gather 30 = .ok (.invokevirtual 40, 3) := by decide +kernel
theorem dX7_gather_33 : decode cX7_gather 33 = .ok (.goto 6, 3) := by decide +kernel
theorem dX7_gather_36 : decode cX7_gather 36 = .ok (.ldc2_w 48, 3) := by decide +kernel
theorem dX7_gather_39 : decode cX7_gather 39 = .ok (.lastore, 1) := by decide +kernel
theorem dX7_gather_40 : decode cX7_gather 40 = .ok (.aload_n 0, 1) := by decide +kernel
theorem dX7_gather_41 : decode cX7_gather 41 = .ok (.iload_n 1, 1) := by decide +kernel
theorem dX7_gather_42 : decode cX7_gather 42 = .ok (.invokevirtual 96, 3) := by decide +kernel
theorem dX7_gather_45 : decode cX7_gather 45 = .ok (.ifCond .eq 78, 3) := by decide +kernel
theorem dX7_gather_48 : decode cX7_gather 48 = .ok (.aload_n 0, 1) := by decide +kernel
theorem dX7_gather_49 : decode cX7_gather 49 = .ok (.iload_n 1, 1) := by decide +kernel
theorem dX7_gather_50 : decode cX7_gather 50 = .ok (.iconst 1, 1) := by decide +kernel
theorem dX7_gather_51 : decode cX7_gather 51 = .ok (.invokevirtual 40, 3) := by decide +kernel
theorem dX7_gather_54 : decode cX7_gather 54 = .ok (.ldc2_w 99, 3) := by decide +kernel
theorem dX7_gather_57 : decode cX7_gather 57 = .ok (.lcmp, 1) := by decide +kernel
theorem dX7_gather_58 : decode cX7_gather 58 = .ok (.ifCond .ne 65, 3) := by decide +kernel
theorem dX7_gather_61 : decode cX7_gather 61 = .ok (.aload_n 0, 1) := by decide +kernel
theorem dX7_gather_62 : decode cX7_gather 62 = .ok (.getfield 159, 3) := by decide +kernel
theorem dX7_gather_65 : decode cX7_gather 65 = .ok (.istore_n 2, 1) := by decide +kernel
theorem dX7_gather_66 : decode cX7_gather 66 = .ok (.iload_n 2, 1) := by decide +kernel
theorem dX7_gather_67 : decode cX7_gather 67 = .ok (.ifCond .le 39, 3) := by decide +kernel
theorem dX7_gather_70 : decode cX7_gather 70 = .ok (.aload_n 0, 1) := by decide +kernel
theorem dX7_gather_71 : decode cX7_gather 71 = .ok (.iload_n 1, 1) := by decide +kernel
theorem dX7_gather_72 : decode cX7_gather 72 = .ok (.aload_n 0, 1) := by decide +kernel
theorem dX7_gather_73 : decode cX7_gather 73 = .ok (.getfield 20, 3) := by decide +kernel
theorem dX7_gather_76 : decode cX7_gather 76 = .ok (.iload_n 2, 1) := by decide +kernel
theorem dX7_gather_77 : decode cX7_gather 77 = .ok (.iconst 1, 1) := by decide +kernel
theorem dX7_gather_78 : decode cX7_gather 78 = .ok (.isub, 1) := by decide +kernel
theorem dX7_gather_79 : decode cX7_gather 79 = .ok (.iaload, 1) := by decide +kernel
theorem dX7_gather_80 : decode cX7_gather 80 = .ok (.invokevirtual 162, 3) := by decide +kernel
theorem dX7_gather_83 : decode cX7_gather 83 = .ok (.ifCond .eq 23, 3) := by decide +kernel
theorem dX7_gather_86 : decode cX7_gather 86 = .ok (.aload_n 0, 1) := by decide +kernel
theorem dX7_gather_87 : decode cX7_gather 87 = .ok (.getfield 20, 3) := by decide +kernel
theorem dX7_gather_90 : decode cX7_gather 90 = .ok (.iload_n 2, 1) := by decide +kernel
theorem dX7_gather_91 : decode cX7_gather 91 = .ok (.aload_n 0, 1) := by decide +kernel
theorem dX7_gather_92 : decode cX7_gather 92 = .ok (.getfield 20, 3) := by decide +kernel
theorem dX7_gather_95 : decode cX7_gather 95 = .ok (.iload_n 2, 1) := by decide +kernel
theorem dX7_gather_96 : decode cX7_gather 96 = .ok (.iconst 1, 1) := by decide +kernel
theorem dX7_gather_97 : decode cX7_gather 97 = .ok (.isub, 1) := by decide +kernel
theorem dX7_gather_98 : decode cX7_gather 98 = .ok (.iaload, 1) := by decide +kernel
theorem dX7_gather_99 : decode cX7_gather 99 = .ok (.iastore, 1) := by decide +kernel
theorem dX7_gather_100 : decode cX7_gather 100 = .ok (.iinc 2 (-1), 3) := by decide +kernel
theorem dX7_gather_103 : decode cX7_gather 103 = .ok (.goto (-37), 3) := by decide +kernel
theorem dX7_gather_106 : decode cX7_gather 106 = .ok (.aload_n 0, 1) := by decide +kernel
theorem dX7_gather_107 : decode cX7_gather 107 = .ok (.getfield 20, 3) := by decide +kernel
theorem dX7_gather_110 : decode cX7_gather 110 = .ok (.iload_n 2, 1) := by decide +kernel
theorem dX7_gather_111 : decode cX7_gather 111 = .ok (.iload_n 1, 1) := by decide +kernel
theorem dX7_gather_112 : decode cX7_gather 112 = .ok (.iastore, 1) := by decide +kernel
theorem dX7_gather_113 : decode cX7_gather 113 = .ok (.aload_n 0, 1) := by decide +kernel
theorem dX7_gather_114 : decode cX7_gather 114 = .ok (.dup, 1) := by decide +kernel
theorem dX7_gather_115 : decode cX7_gather 115 = .ok (.getfield 159, 3) := by decide +kernel
theorem dX7_gather_118 : decode cX7_gather 118 = .ok (.iconst 1, 1) := by decide +kernel
theorem dX7_gather_119 : decode cX7_gather 119 = .ok (.iadd, 1) := by decide +kernel
theorem dX7_gather_120 : decode cX7_gather 120 = .ok (.putfield 159, 3) := by decide +kernel
theorem dX7_gather_123 : decode cX7_gather 123 = .ok (.iinc 1 1, 3) := by decide +kernel
theorem dX7_gather_126 : decode cX7_gather 126 = .ok (.goto (-119), 3) := by decide +kernel
theorem dX7_gather_129 : decode cX7_gather 129 = .ok (.return_, 1) := by decide +kernel
set_option maxRecDepth 20000 in
theorem ggX7_isAhead_X7_get : GoodIn wsX7_isAhead wsX7_get := goodIn_r _ [5, 6, 7, 8, 9, 10, 11, 12, 13, 14, 15] (by decide +kernel) (by decide +kernel)
set_option maxRecDepth 20000 in
theorem gX7_isAhead_X7_get : GoodIn wsX7_isAhead (wsV RX7 40 RX7 yX7_get wsX7_get) := goodIn_app (goodIn_of _ (by decide +kernel)) ggX7_isAhead_X7_get
theorem dX7_isAhead_0 : decode cX7_isAhead 0 = .ok (.aload_n 0, 1) := by decide +kernel
theorem dX7_isAhead_1 : decode cX7_isAhead 1 = .ok (.iload_n 1, 1) := by decide +kernel
theorem dX7_isAhead_2 : decode cX7_isAhead 2 = .ok (.iconst 3, 1) := by decide +kernel
theorem dX7_isAhead_3 : decode cX7_isAhead 3 = .ok (.invokevirtual 40, 3) := by decide +kernel
theorem dX7_isAhead_6 : decode cX7_isAhead 6 = .ok (.aload_n 0, 1) := by decide +kernel
theorem dX7_isAhead_7 : decode cX7_isAhead 7 = .ok (.iload_n 2, 1) := by decide +kernel
theorem dX7_isAhead_8 : decode cX7_isAhead 8 = .ok (.iconst 3, 1) := by decide +kernel
theorem dX7_isAhead_9 : decode cX7_isAhead 9 = .ok (.invokevirtual 40, 3) := by decide +kernel
theorem dX7_isAhead_12 : decode cX7_isAhead 12 = .ok (.lcmp, 1) := by decide +kernel
theorem dX7_isAhead_13 : decode cX7_isAhead 13 = .ok (.ifCond .lt 37, 3) := by decide +kernel
theorem dX7_isAhead_16 : decode cX7_isAhead 16 = .ok (.aload_n 0, 1) := by decide +kernel
theorem dX7_isAhead_17 : decode cX7_isAhead 17 = .ok (.iload_n 1, 1) := by decide +kernel
theorem dX7_isAhead_18 : decode cX7_isAhead 18 = .ok (.iconst 3, 1) := by decide +kernel
theorem dX7_isAhead_19 : decode cX7_isAhead 19 = .ok (.invokevirtual 40, 3) := by decide +kernel
theorem dX7_isAhead_22 : decode cX7_isAhead 22 = .ok (.aload_n 0, 1) := by decide +kernel
theorem dX7_isAhead_23 : decode cX7_isAhead 23 = .ok (.iload_n 2, 1) := by decide +kernel
theorem dX7_isAhead_24 : decode cX7_isAhead 24 = .ok (.iconst 3, 1) := by decide +kernel
theorem dX7_isAhead_25 : decode cX7_isAhead 25 = .ok (.invokevirtual 40, 3) := by decide +kernel
theorem dX7_isAhead_28 : decode cX7_isAhead 28 = .ok (.lcmp, 1) := by decide +kernel
theorem dX7_isAhead_29 : decode cX7_isAhead 29 = .ok (.ifCond .ne 25, 3) := by decide +kernel
theorem dX7_isAhead_32 : decode cX7_isAhead 32 = .ok (.aload_n 0, 1) := by decide +kernel
theorem dX7_isAhead_33 : decode cX7_isAhead 33 = .ok (.iload_n 1, 1) := by decide +kernel
theorem dX7_isAhead_34 : decode cX7_isAhead 34 = .ok (.bipush 11, 2) := by decide +kernel
theorem dX7_isAhead_36 : decode cX7_isAhead 36 = .ok (.invokevirtual 40, 3) := by decide +kernel
theorem dX7_isAhead_39 : decode cX7_isAhead 39 = .ok (.aload_n 0, 1) := by decide +kernel
theorem dX7_isAhead_40 : decode cX7_isAhead 40 = .ok (.iload_n 2, 1) := by decide +kernel
theorem dX7_isAhead_41 : decode cX7_isAhead 41 = .ok (.bipush 11, 2) := by decide +kernel
theorem dX7_isAhead_43 : decode cX7_isAhead 43 = .ok (.invokevirtual 40, 3) := by decide +kernel
theorem dX7_isAhead_46 : decode cX7_isAhead 46 = .ok (.lcmp, 1) := by decide +kernel
theorem dX7_isAhead_47 : decode cX7_isAhead 47 = .ok (.ifCond .ge 7, 3) := by decide +kernel
theorem dX7_isAhead_50 : decode cX7_isAhead 50 = .ok (.iconst 1, 1) := by decide +kernel
theorem dX7_isAhead_51 : decode cX7_isAhead 51 = .ok (.goto 4, 3) := by decide +kernel
theorem dX7_isAhead_54 : decode cX7_isAhead 54 = .ok (.iconst 0, 1) := by decide +kernel
theorem dX7_isAhead_55 : decode cX7_isAhead 55 = .ok (.ireturn, 1) := by decide +kernel
set_option maxRecDepth 20000 in
theorem ggX7_fastIn_X7_get : GoodIn wsX7_fastIn wsX7_get := goodIn_r _ [9, 1, 13, 14, 15, 16, 17, 18, 19, 20, 21] (by decide +kernel) (by decide +kernel)
set_option maxRecDepth 20000 in
theorem gX7_fastIn_X7_get : GoodIn wsX7_fastIn (wsV RX7 40 RX7 yX7_get wsX7_get) := goodIn_app (goodIn_of _ (by decide +kernel)) ggX7_fastIn_X7_get
set_option maxRecDepth 20000 in
theorem ggX7_fastIn_X7_isIn : GoodIn wsX7_fastIn wsX7_isIn := goodIn_r _ [12] (by decide +kernel) (by decide +kernel)
set_option maxRecDepth 20000 in
theorem gX7_fastIn_X7_isIn : GoodIn wsX7_fastIn (va_wsS RX7 36 yX7_isIn wsX7_isIn) := goodIn_app (goodIn_of _ (by decide +kernel)) ggX7_fastIn_X7_isIn
theorem dX7_fastIn_0 : decode cX7_fastIn 0 = .ok (.aload_n 0, 1) := by decide +kernel
theorem dX7_fastIn_1 : decode cX7_fastIn 1 = .ok (.iload_n 1, 1) := by decide +kernel
theorem dX7_fastIn_2 : decode cX7_fastIn 2 = .ok (.iconst 4, 1) := by decide +kernel
theorem dX7_fastIn_3 : decode cX7_fastIn 3 = .ok (.invokevirtual 40, 3) := by decide +kernel
theorem dX7_fastIn_6 : decode cX7_fastIn 6 = .ok (.aload_n 0, 1) := by decide +kernel
theorem dX7_fastIn_7 : decode cX7_fastIn 7 = .ok (.getfield 7, 3) := by decide +kernel
theorem dX7_fastIn_10 : decode cX7_fastIn 10 = .ok (.sipush 3700, 3) := by decide +kernel
theorem dX7_fastIn_13 : decode cX7_fastIn 13 = .ok (.laload, 1) := by decide +kernel
theorem dX7_fastIn_14 : decode cX7_fastIn 14 = .ok (.lcmp, 1) := by decide +kernel
theorem dX7_fastIn_15 : decode cX7_fastIn 15 = .ok (.ifCond .le 12, 3) := by decide +kernel
theorem dX7_fastIn_18 : decode cX7_fastIn 18 = .ok (.aload_n 0, 1) := by decide +kernel
theorem dX7_fastIn_19 : decode cX7_fastIn 19 = .ok (.iload_n 1, 1) := by decide +kernel
theorem dX7_fastIn_20 : decode cX7_fastIn 20 = .ok (.iconst 4, 1) := by decide +kernel
theorem dX7_fastIn_21 : decode cX7_fastIn 21 = .ok (.invokevirtual 40, 3) := by decide +kernel
theorem dX7_fastIn_24 : decode cX7_fastIn 24 = .ok (.goto 13, 3) := by decide +kernel
theorem dX7_fastIn_27 : decode cX7_fastIn 27 = .ok (.aload_n 0, 1) := by decide +kernel
theorem dX7_fastIn_28 : decode cX7_fastIn 28 = .ok (.getfield 7, 3) := by decide +kernel
theorem dX7_fastIn_31 : decode cX7_fastIn 31 = .ok (.sipush 3700, 3) := by decide +kernel
theorem dX7_fastIn_34 : decode cX7_fastIn 34 = .ok (.laload, 1) := by decide +kernel
theorem dX7_fastIn_35 : decode cX7_fastIn 35 = .ok (.lconst 1, 1) := by decide +kernel
theorem dX7_fastIn_36 : decode cX7_fastIn 36 = .ok (.ladd, 1) := by decide +kernel
theorem dX7_fastIn_37 : decode cX7_fastIn 37 = .ok (.lstore_n 2, 1) := by decide +kernel
theorem dX7_fastIn_38 : decode cX7_fastIn 38 = .ok (.ldc2_w 48, 3) := by decide +kernel
theorem dX7_fastIn_41 : decode cX7_fastIn 41 = .ok (.lstore 4, 2) := by decide +kernel
theorem dX7_fastIn_43 : decode cX7_fastIn 43 = .ok (.iconst 0, 1) := by decide +kernel
theorem dX7_fastIn_44 : decode cX7_fastIn 44 = .ok (.istore 6, 2) := by decide +kernel
theorem dX7_fastIn_46 : decode cX7_fastIn 46 = .ok (.iload 6, 2) := by decide +kernel
theorem dX7_fastIn_48 : decode cX7_fastIn 48 = .ok (.sipush 200, 3) := by decide +kernel
theorem dX7_fastIn_51 : decode cX7_fastIn 51 = .ok (.if_icmp .ge 87, 3) := by decide +kernel
theorem dX7_fastIn_54 : decode cX7_fastIn 54 = .ok (.aload_n 0, 1) := by decide +kernel
theorem dX7_fastIn_55 : decode cX7_fastIn 55 = .ok (.getfield 26, 3) := by decide +kernel
theorem dX7_fastIn_58 : decode cX7_fastIn 58 = .ok (.iload 6, 2) := by decide +kernel
theorem dX7_fastIn_60 : decode cX7_fastIn 60 = .ok (.baload, 1) := by decide +kernel
theorem dX7_fastIn_61 : decode cX7_fastIn 61 = .ok (.ifCond .eq 27, 3) := by decide +kernel
theorem dX7_fastIn_64 : decode cX7_fastIn 64 = .ok (.aload_n 0, 1) := by decide +kernel
theorem dX7_fastIn_65 : decode cX7_fastIn 65 = .ok (.getfield 23, 3) := by decide +kernel
theorem dX7_fastIn_68 : decode cX7_fastIn 68 = .ok (.iload 6, 2) := by decide +kernel
theorem dX7_fastIn_70 : decode cX7_fastIn 70 = .ok (.laload, 1) := by decide +kernel
theorem dX7_fastIn_71 : decode cX7_fastIn 71 = .ok (.lload_n 2, 1) := by decide +kernel
theorem dX7_fastIn_72 : decode cX7_fastIn 72 = .ok (.aload_n 0, 1) := by decide +kernel
theorem dX7_fastIn_73 : decode cX7_fastIn 73 = .ok (.iload_n 1, 1) := by decide +kernel
theorem dX7_fastIn_74 : decode cX7_fastIn 74 = .ok (.iconst 3, 1) := by decide +kernel
theorem dX7_fastIn_75 : decode cX7_fastIn 75 = .ok (.invokevirtual 40, 3) := by decide +kernel
theorem dX7_fastIn_78 : decode cX7_fastIn 78 = .ok (.invokestatic 36, 3) := by decide +kernel
theorem dX7_fastIn_81 : decode cX7_fastIn 81 = .ok (.ifCond .eq 7, 3) := by decide +kernel
theorem dX7_fastIn_84 : decode cX7_fastIn 84 = .ok (.iconst 1, 1) := by decide +kernel
theorem dX7_fastIn_85 : decode cX7_fastIn 85 = .ok (.goto 4, 3) := by decide +kernel
theorem dX7_fastIn_88 : decode cX7_fastIn 88 = .ok (.iconst 0, 1) := by decide +kernel
theorem dX7_fastIn_89 : decode cX7_fastIn 89 = .ok (.istore 7, 2) := by decide +kernel
theorem dX7_fastIn_91 : decode cX7_fastIn 91 = .ok (.iload 7, 2) := by decide +kernel
theorem dX7_fastIn_93 : decode cX7_fastIn 93 = .ok (.ifCond .eq 35, 3) := by decide +kernel
theorem dX7_fastIn_96 : decode cX7_fastIn 96 = .ok (.lload 4, 2) := by decide +kernel
theorem dX7_fastIn_98 : decode cX7_fastIn 98 = .ok (.ldc2_w 48, 3) := by decide +kernel
theorem dX7_fastIn_101 : decode cX7_fastIn 101 = .ok (.lcmp, 1) := by decide +kernel
theorem dX7_fastIn_102 : decode cX7_fastIn 102 = .ok (.ifCond .eq 16, 3) := by decide +kernel
theorem dX7_fastIn_105 : decode cX7_fastIn 105 = .ok (.aload_n 0, 1) := by decide +kernel
theorem dX7_fastIn_106 : decode cX7_fastIn 106 = .ok (.getfield 23, 3) := by decide +kernel
theorem dX7_fastIn_109 : decode cX7_fastIn 109 = .ok (.iload 6, 2) := by decide +kernel
theorem dX7_fastIn_111 : decode cX7_fastIn 111 = .ok (.laload, 1) := by decide +kernel
theorem dX7_fastIn_112 : decode cX7_fastIn 112 = .ok (.lload 4, 2) := by decide +kernel
theorem dX7_fastIn_114 : decode cX7_fastIn 114 = .ok (.lcmp, 1) := by decide +kernel
theorem dX7_fastIn_115 : decode cX7_fastIn 115 = .ok (.ifCond .ge 13, 3) := by decide +kernel
theorem dX7_fastIn_118 : decode cX7_fastIn 118 = .ok (.aload_n 0, 1) := by decide +kernel
theorem dX7_fastIn_119 : decode cX7_fastIn 119 = .ok (.getfield 23, 3) := by decide +kernel
theorem dX7_fastIn_122 : decode cX7_fastIn 122 = .ok (.iload 6, 2) := by decide +kernel
theorem dX7_fastIn_124 : decode cX7_fastIn 124 = .ok (.laload, 1) := by decide +kernel
theorem dX7_fastIn_125 : decode cX7_fastIn 125 = .ok (.goto 5, 3) := by decide +kernel
theorem dX7_fastIn_128 : decode cX7_fastIn 128 = .ok (.lload 4, 2) := by decide +kernel
theorem dX7_fastIn_130 : decode cX7_fastIn 130 = .ok (.lstore 4, 2) := by decide +kernel
theorem dX7_fastIn_132 : decode cX7_fastIn 132 = .ok (.iinc 6 1, 3) := by decide +kernel
theorem dX7_fastIn_135 : decode cX7_fastIn 135 = .ok (.goto (-89), 3) := by decide +kernel
theorem dX7_fastIn_138 : decode cX7_fastIn 138 = .ok (.lload 4, 2) := by decide +kernel
theorem dX7_fastIn_140 : decode cX7_fastIn 140 = .ok (.lreturn, 1) := by decide +kernel
set_option maxRecDepth 20000 in
theorem ggX7_settled_X7_gather : GoodIn wsX7_settled wsX7_gather := goodIn_r _ [11, 3, 6, 5, 2, 4, 12, 13, 14, 10, 15, 16, 17, 18, 19, 20, 21, 22, 23, 24, 25, 26, 27, 28, 29, 30, 31, 32, 37, 38, 39, 40, 41, 42, 43, 44, 45] (by decide +kernel) (by decide +kernel)
set_option maxRecDepth 20000 in
theorem gX7_settled_X7_gather : GoodIn wsX7_settled (wsV RX7 165 RX7 yX7_gather wsX7_gather) := goodIn_app (goodIn_of _ (by decide +kernel)) ggX7_settled_X7_gather
set_option maxRecDepth 20000 in
theorem ggX7_settled_X7_hasTick : GoodIn wsX7_settled wsX7_hasTick := goodIn_r _ [15, 5, 16, 17, 18, 10, 19, 20, 21, 22, 23, 24, 25, 26, 27, 28, 37, 38, 39, 40, 41, 42, 43, 44, 45] (by decide +kernel) (by decide +kernel)
set_option maxRecDepth 20000 in
theorem gX7_settled_X7_hasTick : GoodIn wsX7_settled (wsV RX7 96 RX7 yX7_hasTick wsX7_hasTick) := goodIn_app (goodIn_of _ (by decide +kernel)) ggX7_settled_X7_hasTick
set_option maxRecDepth 20000 in
theorem ggX7_settled_X7_get : GoodIn wsX7_settled wsX7_get := goodIn_r _ [27, 28, 37, 38, 39, 40, 41, 42, 43, 44, 45] (by decide +kernel) (by decide +kernel)
set_option maxRecDepth 20000 in
theorem gX7_settled_X7_get : GoodIn wsX7_settled (wsV RX7 40 RX7 yX7_get wsX7_get) := goodIn_app (goodIn_of _ (by decide +kernel)) ggX7_settled_X7_get
set_option maxRecDepth 20000 in
theorem ggX7_settled_X7_fastIn : GoodIn wsX7_settled wsX7_fastIn := goodIn_r _ [36, 28, 5, 1, 6, 24, 25, 26, 10, 27, 21, 22, 23, 37, 38, 39, 40, 41, 42, 43, 44, 45] (by decide +kernel) (by decide +kernel)
set_option maxRecDepth 20000 in
theorem gX7_settled_X7_fastIn : GoodIn wsX7_settled (wsV RX7 168 RX7 yX7_fastIn wsX7_fastIn) := goodIn_app (goodIn_of _ (by decide +kernel)) ggX7_settled_X7_fastIn
theorem dX7_settled_0 : decode cX7_settled 0 = .ok (.aload_n 0, 1) := by decide +kernel
theorem dX7_settled_1 : decode cX7_settled 1 = .ok (.invokevirtual 165, 3) := by decide +kernel
theorem dX7_settled_4 : decode cX7_settled 4 = .ok (.iconst 0, 1) := by decide +kernel
theorem dX7_settled_5 : decode cX7_settled 5 = .ok (.istore_n 1, 1) := by decide +kernel
theorem dX7_settled_6 : decode cX7_settled 6 = .ok (.iload_n 1, 1) := by decide +kernel
theorem dX7_settled_7 : decode cX7_settled 7 = .ok (.sipush 200, 3) := by decide +kernel
theorem dX7_settled_10 : decode cX7_settled 10 = .ok (.if_icmp .ge 41, 3) := by decide +kernel
theorem dX7_settled_13 : decode cX7_settled 13 = .ok (.aload_n 0, 1) := by decide +kernel
theorem dX7_settled_14 : decode cX7_settled 14 = .ok (.getfield 26, 3) := by decide +kernel
theorem dX7_settled_17 : decode cX7_settled 17 = .ok (.iload_n 1, 1) := by decide +kernel
theorem dX7_settled_18 : decode cX7_settled 18 = .ok (.aload_n 0, 1) := by decide +kernel
theorem dX7_settled_19 : decode cX7_settled 19 = .ok (.iload_n 1, 1) := by decide +kernel
theorem dX7_settled_20 : decode cX7_settled 20 = .ok (.invokevirtual 96, 3) := by decide +kernel
theorem dX7_settled_23 : decode cX7_settled 23 = .ok (.ifCond .eq 20, 3) := by decide +kernel
theorem dX7_settled_26 : decode cX7_settled 26 = .ok (.aload_n 0, 1) := by decide +kernel
theorem dX7_settled_27 : decode cX7_settled 27 = .ok (.iload_n 1, 1) := by decide +kernel
theorem dX7_settled_28 : decode cX7_settled 28 = .ok (.iconst 1, 1) := by decide +kernel
theorem dX7_settled_29 : decode cX7_settled 29 = .ok (.invokevirtual 40, 3) := by decide +kernel
theorem dX7_settled_32 : decode cX7_settled 32 = .ok (.ldc2_w 99, 3) := by decide +kernel
theorem dX7_settled_35 : decode cX7_settled 35 = .ok (.lcmp, 1) := by decide +kernel
theorem dX7_settled_36 : decode cX7_settled 36 = .ok (.ifCond .eq 7, 3) := by decide +kernel
theorem dX7_settled_39 : decode cX7_settled 39 = .ok (.iconst 1, 1) := by decide +kernel
theorem dX7_settled_40 : decode cX7_settled 40 = .ok (.goto 4, 3) := by decide +kernel
theorem dX7_settled_43 : decode cX7_settled 43 = .ok (.iconst 0, 1) := by decide +kernel
theorem dX7_settled_44 : decode cX7_settled 44 = .ok (.bastore, 1) := by decide +kernel
theorem dX7_settled_45 : decode cX7_settled 45 = .ok (.iinc 1 1, 3) := by decide +kernel
theorem dX7_settled_48 : decode cX7_settled 48 = .ok (.goto (-42), 3) := by decide +kernel
theorem dX7_settled_51 : decode cX7_settled 51 = .ok (.iconst 0, 1) := by decide +kernel
theorem dX7_settled_52 : decode cX7_settled 52 = .ok (.istore_n 1, 1) := by decide +kernel
theorem dX7_settled_53 : decode cX7_settled 53 = .ok (.iconst 0, 1) := by decide +kernel
theorem dX7_settled_54 : decode cX7_settled 54 = .ok (.istore_n 2, 1) := by decide +kernel
theorem dX7_settled_55 : decode cX7_settled 55 = .ok (.iload_n 2, 1) := by decide +kernel
theorem dX7_settled_56 : decode cX7_settled 56 = .ok (.aload_n 0, 1) := by decide +kernel
theorem dX7_settled_57 : decode cX7_settled 57 = .ok (.getfield 159, 3) := by decide +kernel
theorem dX7_settled_60 : decode cX7_settled 60 = .ok (.if_icmp .ge 53, 3) := by decide +kernel
theorem dX7_settled_63 : decode cX7_settled 63 = .ok (.aload_n 0, 1) := by decide +kernel
theorem dX7_settled_64 : decode cX7_settled 64 = .ok (.getfield 20, 3) := by decide +kernel
theorem dX7_settled_67 : decode cX7_settled 67 = .ok (.iload_n 2, 1) := by decide +kernel
theorem dX7_settled_68 : decode cX7_settled 68 = .ok (.iaload, 1) := by decide +kernel
theorem dX7_settled_69 : decode cX7_settled 69 = .ok (.istore_n 3, 1) := by decide +kernel
theorem dX7_settled_70 : decode cX7_settled 70 = .ok (.aload_n 0, 1) := by decide +kernel
theorem dX7_settled_71 : decode cX7_settled 71 = .ok (.iload_n 3, 1) := by decide +kernel
theorem dX7_settled_72 : decode cX7_settled 72 = .ok (.invokevirtual 168, 3) := by decide +kernel
theorem dX7_settled_75 : decode cX7_settled 75 = .ok (.lstore 4, 2) := by decide +kernel
theorem dX7_settled_77 : decode cX7_settled 77 = .ok (.lload 4, 2) := by decide +kernel
theorem dX7_settled_79 : decode cX7_settled 79 = .ok (.ldc2_w 48, 3) := by decide +kernel
theorem dX7_settled_82 : decode cX7_settled 82 = .ok (.lcmp, 1) := by decide +kernel
theorem dX7_settled_83 : decode cX7_settled 83 = .ok (.ifCond .ne 16, 3) := by decide +kernel
theorem dX7_settled_86 : decode cX7_settled 86 = .ok (.aload_n 0, 1) := by decide +kernel
theorem dX7_settled_87 : decode cX7_settled 87 = .ok (.getfield 26, 3) := by decide +kernel
theorem dX7_settled_90 : decode cX7_settled 90 = .ok (.iload_n 3, 1) := by decide +kernel
theorem dX7_settled_91 : decode cX7_settled 91 = .ok (.iconst 1, 1) := by decide +kernel
theorem dX7_settled_92 : decode cX7_settled 92 = .ok (.bastore, 1) := by decide +kernel
theorem dX7_settled_93 : decode cX7_settled 93 = .ok (.iinc 1 1, 3) := by decide +kernel
theorem dX7_settled_96 : decode cX7_settled 96 = .ok (.goto 11, 3) := by decide +kernel
theorem dX7_settled_99 : decode cX7_settled 99 = .ok (.aload_n 0, 1) := by decide +kernel
theorem dX7_settled_100 : decode cX7_settled 100 = .ok (.getfield 23, 3) := by decide +kernel
theorem dX7_settled_103 : decode cX7_settled 103 = .ok (.iload_n 3, 1) := by decide +kernel
theorem dX7_settled_104 : decode cX7_settled 104 = .ok (.lload 4, 2) := by decide +kernel
theorem dX7_settled_106 : decode cX7_settled 106 = .ok (.lastore, 1) := by decide +kernel
theorem dX7_settled_107 : decode cX7_settled 107 = .ok (.iinc 2 1, 3) := by decide +kernel
theorem dX7_settled_110 : decode cX7_settled 110 = .ok (.goto (-55), 3) := by decide +kernel
theorem dX7_settled_113 : decode cX7_settled 113 = .ok (.iload_n 1, 1) := by decide +kernel
theorem dX7_settled_114 : decode cX7_settled 114 = .ok (.ireturn, 1) := by decide +kernel
set_option maxRecDepth 20000 in
theorem ggX7_fewest_X7_settled : GoodIn wsX7_fewest wsX7_settled := goodIn_r _ [5, 6, 7, 8, 9, 10, 11, 12, 13, 14, 4, 15, 16, 17, 18, 19, 20, 21, 22, 23, 24, 25, 26, 27, 28, 29, 30, 31, 32, 33, 34, 35, 36, 37, 38, 39, 40, 41, 42, 43, 44, 45, 46, 47, 48, 49] (by decide +kernel) (by decide +kernel)
set_option maxRecDepth 20000 in
theorem gX7_fewest_X7_settled : GoodIn wsX7_fewest (wsV RX7 172 RX7 yX7_settled wsX7_settled) := goodIn_app (goodIn_of _ (by decide +kernel)) ggX7_fewest_X7_settled
theorem dX7_fewest_0 : decode cX7_fewest 0 = .ok (.aload_n 0, 1) := by decide +kernel
theorem dX7_fewest_1 : decode cX7_fewest 1 = .ok (.invokevirtual 172, 3) := by decide +kernel
theorem dX7_fewest_4 : decode cX7_fewest 4 = .ok (.i2l, 1) := by decide +kernel
theorem dX7_fewest_5 : decode cX7_fewest 5 = .ok (.lreturn, 1) := by decide +kernel
set_option maxRecDepth 20000 in
theorem ggX7_settle_X7_keep : GoodIn wsX7_settle wsX7_keep := goodIn_r _ [8, 9, 10, 11, 55, 56, 57, 58, 59, 60, 61, 62, 63] (by decide +kernel) (by decide +kernel)
set_option maxRecDepth 20000 in
theorem gX7_settle_X7_keep : GoodIn wsX7_settle (wsV RX7 60 RX7 yX7_keep wsX7_keep) := goodIn_app (goodIn_of _ (by decide +kernel)) ggX7_settle_X7_keep
set_option maxRecDepth 20000 in
theorem ggX7_settle_X7_settled : GoodIn wsX7_settle wsX7_settled := goodIn_r _ [15, 16, 17, 1, 2, 18, 3, 19, 20, 21, 7, 22, 23, 24, 25, 26, 27, 28, 29, 30, 31, 32, 33, 34, 35, 36, 37, 38, 11, 39, 40, 41, 42, 43, 44, 45, 46, 55, 56, 57, 58, 59, 60, 61, 62, 63] (by decide +kernel) (by decide +kernel)
set_option maxRecDepth 20000 in
theorem gX7_settle_X7_settled : GoodIn wsX7_settle (wsV RX7 172 RX7 yX7_settled wsX7_settled) := goodIn_app (goodIn_of _ (by decide +kernel)) ggX7_settle_X7_settled
set_option maxRecDepth 20000 in
theorem ggX7_settle_X7_get : GoodIn wsX7_settle wsX7_get := goodIn_r _ [38, 11, 55, 56, 57, 58, 59, 60, 61, 62, 63] (by decide +kernel) (by decide +kernel)
set_option maxRecDepth 20000 in
theorem gX7_settle_X7_get : GoodIn wsX7_settle (wsV RX7 40 RX7 yX7_get wsX7_get) := goodIn_app (goodIn_of _ (by decide +kernel)) ggX7_settle_X7_get
set_option maxRecDepth 20000 in
theorem ggX7_settle_X7_tick : GoodIn wsX7_settle wsX7_tick := goodIn_r _ [50, 51, 52, 53, 7, 54, 11, 55, 56, 57, 58, 59, 60, 61, 62, 63] (by decide +kernel) (by decide +kernel)
set_option maxRecDepth 20000 in
theorem gX7_settle_X7_tick : GoodIn wsX7_settle (wsV RX7 81 RX7 yX7_tick wsX7_tick) := goodIn_app (goodIn_of _ (by decide +kernel)) ggX7_settle_X7_tick
theorem dX7_settle_0 : decode cX7_settle 0 = .ok (.aload_n 0, 1) := by decide +kernel
theorem dX7_settle_1 : decode cX7_settle 1 = .ok (.invokevirtual 60, 3) := by decide +kernel
theorem dX7_settle_4 : decode cX7_settle 4 = .ok (.aload_n 0, 1) := by decide +kernel
theorem dX7_settle_5 : decode cX7_settle 5 = .ok (.invokevirtual 172, 3) := by decide +kernel
theorem dX7_settle_8 : decode cX7_settle 8 = .ok (.istore_n 1, 1) := by decide +kernel
theorem dX7_settle_9 : decode cX7_settle 9 = .ok (.iconst 0, 1) := by decide +kernel
theorem dX7_settle_10 : decode cX7_settle 10 = .ok (.istore_n 2, 1) := by decide +kernel
theorem dX7_settle_11 : decode cX7_settle 11 = .ok (.iconst 0, 1) := by decide +kernel
theorem dX7_settle_12 : decode cX7_settle 12 = .ok (.istore_n 3, 1) := by decide +kernel
theorem dX7_settle_13 : decode cX7_settle 13 = .ok (.iload_n 3, 1) := by decide +kernel
theorem dX7_settle_14 : decode cX7_settle 14 = .ok (.aload_n 0, 1) := by decide +kernel
theorem dX7_settle_15 : decode cX7_settle 15 = .ok (.getfield 159, 3) := by decide +kernel
theorem dX7_settle_18 : decode cX7_settle 18 = .ok (.if_icmp .ge 51, 3) := by decide +kernel
theorem dX7_settle_21 : decode cX7_settle 21 = .ok (.aload_n 0, 1) := by decide +kernel
theorem dX7_settle_22 : decode cX7_settle 22 = .ok (.getfield 20, 3) := by decide +kernel
theorem dX7_settle_25 : decode cX7_settle 25 = .ok (.iload_n 3, 1) := by decide +kernel
theorem dX7_settle_26 : decode cX7_settle 26 = .ok (.iaload, 1) := by decide +kernel
theorem dX7_settle_27 : decode cX7_settle 27 = .ok (.istore 4, 2) := by decide +kernel
theorem dX7_settle_29 : decode cX7_settle 29 = .ok (.aload_n 0, 1) := by decide +kernel
theorem dX7_settle_30 : decode cX7_settle 30 = .ok (.getfield 23, 3) := by decide +kernel
theorem dX7_settle_33 : decode cX7_settle 33 = .ok (.iload 4, 2) := by decide +kernel
theorem dX7_settle_35 : decode cX7_settle 35 = .ok (.laload, 1) := by decide +kernel
theorem dX7_settle_36 : decode cX7_settle 36 = .ok (.aload_n 0, 1) := by decide +kernel
theorem dX7_settle_37 : decode cX7_settle 37 = .ok (.iload 4, 2) := by decide +kernel
theorem dX7_settle_39 : decode cX7_settle 39 = .ok (.iconst 3, 1) := by decide +kernel
theorem dX7_settle_40 : decode cX7_settle 40 = .ok (.invokevirtual 40, 3) := by decide +kernel
theorem dX7_settle_43 : decode cX7_settle 43 = .ok (.lcmp, 1) := by decide +kernel
theorem dX7_settle_44 : decode cX7_settle 44 = .ok (.ifCond .eq 19, 3) := by decide +kernel
theorem dX7_settle_47 : decode cX7_settle 47 = .ok (.aload_n 0, 1) := by decide +kernel
theorem dX7_settle_48 : decode cX7_settle 48 = .ok (.iload 4, 2) := by decide +kernel
theorem dX7_settle_50 : decode cX7_settle 50 = .ok (.aload_n 0, 1) := by decide +kernel
theorem dX7_settle_51 : decode cX7_settle 51 = .ok (.getfield 23, 3) := by decide +kernel
theorem dX7_settle_54 : decode cX7_settle 54 = .ok (.iload 4, 2) := by decide +kernel
theorem dX7_settle_56 : decode cX7_settle 56 = .ok (.laload, 1) := by decide +kernel
theorem dX7_settle_57 : decode cX7_settle 57 = .ok (.invokevirtual 81, 3) := by decide +kernel
theorem dX7_settle_60 : decode cX7_settle 60 = .ok (.iinc 2 1, 3) := by decide +kernel
theorem dX7_settle_63 : decode cX7_settle 63 = .ok (.iinc 3 1, 3) := by decide +kernel
theorem dX7_settle_66 : decode cX7_settle 66 = .ok (.goto (-53), 3) := by decide +kernel
theorem dX7_settle_69 : decode cX7_settle 69 = .ok (.iload_n 2, 1) := by decide +kernel
theorem dX7_settle_70 : decode cX7_settle 70 = .ok (.i2l, 1) := by decide +kernel
theorem dX7_settle_71 : decode cX7_settle 71 = .ok (.lreturn, 1) := by decide +kernel
set_option maxRecDepth 20000 in
theorem ggX7_lies_X7_isDue : GoodIn wsX7_lies wsX7_isDue := goodIn_r _ [8, 9, 10, 11, 7, 12, 13, 14, 15, 16, 17, 33, 34, 35, 36, 37, 38, 39, 40, 41] (by decide +kernel) (by decide +kernel)
set_option maxRecDepth 20000 in
theorem gX7_lies_X7_isDue : GoodIn wsX7_lies (wsV RX7 44 RX7 yX7_isDue wsX7_isDue) := goodIn_app (goodIn_of _ (by decide +kernel)) ggX7_lies_X7_isDue
set_option maxRecDepth 20000 in
theorem ggX7_lies_X7_isIn : GoodIn wsX7_lies wsX7_isIn := goodIn_r _ [12] (by decide +kernel) (by decide +kernel)
set_option maxRecDepth 20000 in
theorem gX7_lies_X7_isIn : GoodIn wsX7_lies (va_wsS RX7 36 yX7_isIn wsX7_isIn) := goodIn_app (goodIn_of _ (by decide +kernel)) ggX7_lies_X7_isIn
set_option maxRecDepth 20000 in
theorem ggX7_lies_X7_hasTick : GoodIn wsX7_lies wsX7_hasTick := goodIn_r _ [21, 3, 4, 5, 6, 7, 8, 9, 10, 11, 12, 13, 14, 15, 16, 17, 33, 34, 35, 36, 37, 38, 39, 40, 41] (by decide +kernel) (by decide +kernel)
set_option maxRecDepth 20000 in
theorem gX7_lies_X7_hasTick : GoodIn wsX7_lies (wsV RX7 96 RX7 yX7_hasTick wsX7_hasTick) := goodIn_app (goodIn_of _ (by decide +kernel)) ggX7_lies_X7_hasTick
set_option maxRecDepth 20000 in
theorem ggX7_lies_X7_get : GoodIn wsX7_lies wsX7_get := goodIn_r _ [16, 17, 33, 34, 35, 36, 37, 38, 39, 40, 41] (by decide +kernel) (by decide +kernel)
set_option maxRecDepth 20000 in
theorem gX7_lies_X7_get : GoodIn wsX7_lies (wsV RX7 40 RX7 yX7_get wsX7_get) := goodIn_app (goodIn_of _ (by decide +kernel)) ggX7_lies_X7_get
set_option maxRecDepth 20000 in
theorem ggX7_lies_X7_wheelOf : GoodIn wsX7_lies wsX7_wheelOf := goodIn_r _ [25, 17, 26, 27, 7, 28, 33, 34, 35, 36, 37, 38, 39, 40, 41] (by decide +kernel) (by decide +kernel)
set_option maxRecDepth 20000 in
theorem gX7_lies_X7_wheelOf : GoodIn wsX7_lies (wsV RX7 175 RX7 yX7_wheelOf wsX7_wheelOf) := goodIn_app (goodIn_of _ (by decide +kernel)) ggX7_lies_X7_wheelOf
set_option maxRecDepth 20000 in
theorem ggX7_lies_X7_slotOf : GoodIn wsX7_lies wsX7_slotOf := goodIn_r _ [31, 32] (by decide +kernel) (by decide +kernel)
set_option maxRecDepth 20000 in
theorem gX7_lies_X7_slotOf : GoodIn wsX7_lies (va_wsS RX7 179 yX7_slotOf wsX7_slotOf) := goodIn_app (goodIn_of _ (by decide +kernel)) ggX7_lies_X7_slotOf
theorem dX7_lies_0 : decode cX7_lies 0 = .ok (.aload_n 0, 1) := by decide +kernel
theorem dX7_lies_1 : decode cX7_lies 1 = .ok (.iload_n 1, 1) := by decide +kernel
theorem dX7_lies_2 : decode cX7_lies 2 = .ok (.invokevirtual 44, 3) := by decide +kernel
theorem dX7_lies_5 : decode cX7_lies 5 = .ok (.ifCond .eq 15, 3) := by decide +kernel
theorem dX7_lies_8 : decode cX7_lies 8 = .ok (.iload_n 2, 1) := by decide +kernel
theorem dX7_lies_9 : decode cX7_lies 9 = .ok (.i2l, 1) := by decide +kernel
theorem dX7_lies_10 : decode cX7_lies 10 = .ok (.lconst 0, 1) := by decide +kernel
theorem dX7_lies_11 : decode cX7_lies 11 = .ok (.ldc2_w 99, 3) := by decide +kernel
theorem dX7_lies_14 : decode cX7_lies 14 = .ok (.invokestatic 36, 3) := by decide +kernel
theorem dX7_lies_17 : decode cX7_lies 17 = .ok (.ifCond .ne 7, 3) := by decide +kernel
theorem dX7_lies_20 : decode cX7_lies 20 = .ok (.ldc2_w 73, 3) := by decide +kernel
theorem dX7_lies_23 : decode cX7_lies 23 = .ok (.lreturn, 1) := by decide +kernel
theorem dX7_lies_24 : decode cX7_lies 24 = .ok (.aload_n 0, 1) := by decide +kernel
theorem dX7_lies_25 : decode cX7_lies 25 = .ok (.iload_n 1, 1) := by decide +kernel
theorem dX7_lies_26 : decode cX7_lies 26 = .ok (.invokevirtual 96, 3) := by decide +kernel
theorem dX7_lies_29 : decode cX7_lies 29 = .ok (.ifCond .ne 16, 3) := by decide +kernel
theorem dX7_lies_32 : decode cX7_lies 32 = .ok (.iload_n 2, 1) := by decide +kernel
theorem dX7_lies_33 : decode cX7_lies 33 = .ok (.iconst 2, 1) := by decide +kernel
theorem dX7_lies_34 : decode cX7_lies 34 = .ok (.if_icmp .ne 7, 3) := by decide +kernel
theorem dX7_lies_37 : decode cX7_lies 37 = .ok (.lconst 0, 1) := by decide +kernel
theorem dX7_lies_38 : decode cX7_lies 38 = .ok (.goto 6, 3) := by decide +kernel
theorem dX7_lies_41 : decode cX7_lies 41 = .ok (.ldc2_w 48, 3) := by decide +kernel
theorem dX7_lies_44 : decode cX7_lies 44 = .ok (.lreturn, 1) := by decide +kernel
theorem dX7_lies_45 : decode cX7_lies 45 = .ok (.aload_n 0, 1) := by decide +kernel
theorem dX7_lies_46 : decode cX7_lies 46 = .ok (.aload_n 0, 1) := by decide +kernel
theorem dX7_lies_47 : decode cX7_lies 47 = .ok (.iload_n 1, 1) := by decide +kernel
theorem dX7_lies_48 : decode cX7_lies 48 = .ok (.iconst 3, 1) := by decide +kernel
theorem dX7_lies_49 : decode cX7_lies 49 = .ok (.invokevirtual 40, 3) := by decide +kernel
theorem dX7_lies_52 : decode cX7_lies 52 = .ok (.invokevirtual 175, 3) := by decide +kernel
theorem dX7_lies_55 : decode cX7_lies 55 = .ok (.istore_n 3, 1) := by decide +kernel
theorem dX7_lies_56 : decode cX7_lies 56 = .ok (.iload_n 2, 1) := by decide +kernel
theorem dX7_lies_57 : decode cX7_lies 57 = .ok (.ifCond .ne 8, 3) := by decide +kernel
theorem dX7_lies_60 : decode cX7_lies 60 = .ok (.iload_n 3, 1) := by decide +kernel
theorem dX7_lies_61 : decode cX7_lies 61 = .ok (.i2l, 1) := by decide +kernel
theorem dX7_lies_62 : decode cX7_lies 62 = .ok (.goto 29, 3) := by decide +kernel
theorem dX7_lies_65 : decode cX7_lies 65 = .ok (.iload_n 2, 1) := by decide +kernel
theorem dX7_lies_66 : decode cX7_lies 66 = .ok (.iconst 1, 1) := by decide +kernel
theorem dX7_lies_67 : decode cX7_lies 67 = .ok (.if_icmp .ne 17, 3) := by decide +kernel
theorem dX7_lies_70 : decode cX7_lies 70 = .ok (.aload_n 0, 1) := by decide +kernel
theorem dX7_lies_71 : decode cX7_lies 71 = .ok (.iload_n 1, 1) := by decide +kernel
theorem dX7_lies_72 : decode cX7_lies 72 = .ok (.iconst 3, 1) := by decide +kernel
theorem dX7_lies_73 : decode cX7_lies 73 = .ok (.invokevirtual 40, 3) := by decide +kernel
theorem dX7_lies_76 : decode cX7_lies 76 = .ok (.iload_n 3, 1) := by decide +kernel
theorem dX7_lies_77 : decode cX7_lies 77 = .ok (.invokestatic 179, 3) := by decide +kernel
theorem dX7_lies_80 : decode cX7_lies 80 = .ok (.i2l, 1) := by decide +kernel
theorem dX7_lies_81 : decode cX7_lies 81 = .ok (.goto 10, 3) := by decide +kernel
theorem dX7_lies_84 : decode cX7_lies 84 = .ok (.aload_n 0, 1) := by decide +kernel
theorem dX7_lies_85 : decode cX7_lies 85 = .ok (.iload_n 1, 1) := by decide +kernel
theorem dX7_lies_86 : decode cX7_lies 86 = .ok (.bipush 12, 2) := by decide +kernel
theorem dX7_lies_88 : decode cX7_lies 88 = .ok (.invokevirtual 40, 3) := by decide +kernel
theorem dX7_lies_91 : decode cX7_lies 91 = .ok (.lreturn, 1) := by decide +kernel
set_option maxRecDepth 20000 in
theorem ggX7_liesIn_X7_hasTick : GoodIn wsX7_liesIn wsX7_hasTick := goodIn_r _ [5, 6, 7, 8, 9, 4, 10, 11, 12, 13, 14, 15, 16, 17, 18, 19, 31, 32, 33, 34, 35, 36, 37, 38, 39] (by decide +kernel) (by decide +kernel)
set_option maxRecDepth 20000 in
theorem gX7_liesIn_X7_hasTick : GoodIn wsX7_liesIn (wsV RX7 96 RX7 yX7_hasTick wsX7_hasTick) := goodIn_app (goodIn_of _ (by decide +kernel)) ggX7_liesIn_X7_hasTick
set_option maxRecDepth 20000 in
theorem ggX7_liesIn_X7_get : GoodIn wsX7_liesIn wsX7_get := goodIn_r _ [18, 19, 31, 32, 33, 34, 35, 36, 37, 38, 39] (by decide +kernel) (by decide +kernel)
set_option maxRecDepth 20000 in
theorem gX7_liesIn_X7_get : GoodIn wsX7_liesIn (wsV RX7 40 RX7 yX7_get wsX7_get) := goodIn_app (goodIn_of _ (by decide +kernel)) ggX7_liesIn_X7_get
set_option maxRecDepth 20000 in
theorem ggX7_liesIn_X7_wheelOf : GoodIn wsX7_liesIn wsX7_wheelOf := goodIn_r _ [23, 19, 24, 25, 4, 26, 31, 32, 33, 34, 35, 36, 37, 38, 39] (by decide +kernel) (by decide +kernel)
set_option maxRecDepth 20000 in
theorem gX7_liesIn_X7_wheelOf : GoodIn wsX7_liesIn (wsV RX7 175 RX7 yX7_wheelOf wsX7_wheelOf) := goodIn_app (goodIn_of _ (by decide +kernel)) ggX7_liesIn_X7_wheelOf
set_option maxRecDepth 20000 in
theorem ggX7_liesIn_X7_slotOf : GoodIn wsX7_liesIn wsX7_slotOf := goodIn_r _ [29, 30] (by decide +kernel) (by decide +kernel)
set_option maxRecDepth 20000 in
theorem gX7_liesIn_X7_slotOf : GoodIn wsX7_liesIn (va_wsS RX7 179 yX7_slotOf wsX7_slotOf) := goodIn_app (goodIn_of _ (by decide +kernel)) ggX7_liesIn_X7_slotOf
theorem dX7_liesIn_0 : decode cX7_liesIn 0 = .ok (.aload_n 0, 1) := by decide +kernel
theorem dX7_liesIn_1 : decode cX7_liesIn 1 = .ok (.iload_n 1, 1) := by decide +kernel
theorem dX7_liesIn_2 : decode cX7_liesIn 2 = .ok (.invokevirtual 96, 3) := by decide +kernel
theorem dX7_liesIn_5 : decode cX7_liesIn 5 = .ok (.ifCond .eq 35, 3) := by decide +kernel
theorem dX7_liesIn_8 : decode cX7_liesIn 8 = .ok (.aload_n 0, 1) := by decide +kernel
theorem dX7_liesIn_9 : decode cX7_liesIn 9 = .ok (.aload_n 0, 1) := by decide +kernel
theorem dX7_liesIn_10 : decode cX7_liesIn 10 = .ok (.iload_n 1, 1) := by decide +kernel
theorem dX7_liesIn_11 : decode cX7_liesIn 11 = .ok (.iconst 3, 1) := by decide +kernel
theorem dX7_liesIn_12 : decode cX7_liesIn 12 = .ok (.invokevirtual 40, 3) := by decide +kernel
theorem dX7_liesIn_15 : decode cX7_liesIn 15 = .ok (.invokevirtual 175, 3) := by decide +kernel
theorem dX7_liesIn_18 : decode cX7_liesIn 18 = .ok (.iload_n 2, 1) := by decide +kernel
theorem dX7_liesIn_19 : decode cX7_liesIn 19 = .ok (.if_icmp .ne 21, 3) := by decide +kernel
theorem dX7_liesIn_22 : decode cX7_liesIn 22 = .ok (.aload_n 0, 1) := by decide +kernel
theorem dX7_liesIn_23 : decode cX7_liesIn 23 = .ok (.iload_n 1, 1) := by decide +kernel
theorem dX7_liesIn_24 : decode cX7_liesIn 24 = .ok (.iconst 3, 1) := by decide +kernel
theorem dX7_liesIn_25 : decode cX7_liesIn 25 = .ok (.invokevirtual 40, 3) := by decide +kernel
theorem dX7_liesIn_28 : decode cX7_liesIn 28 = .ok (.iload_n 2, 1) := by decide +kernel
theorem dX7_liesIn_29 : decode cX7_liesIn 29 = .ok (.invokestatic 179, 3) := by decide +kernel
theorem dX7_liesIn_32 : decode cX7_liesIn 32 = .ok (.iload_n 3, 1) := by decide +kernel
theorem dX7_liesIn_33 : decode cX7_liesIn 33 = .ok (.if_icmp .ne 7, 3) := by decide +kernel
theorem dX7_liesIn_36 : decode cX7_liesIn 36 = .ok (.iconst 1, 1) := by decide +kernel
theorem dX7_liesIn_37 : decode cX7_liesIn 37 = .ok (.goto 4, 3) := by decide +kernel
theorem dX7_liesIn_40 : decode cX7_liesIn 40 = .ok (.iconst 0, 1) := by decide +kernel
theorem dX7_liesIn_41 : decode cX7_liesIn 41 = .ok (.ireturn, 1) := by decide +kernel
set_option maxRecDepth 20000 in
theorem ggX7_bits_X7_isIn : GoodIn wsX7_bits wsX7_isIn := goodIn_r _ [6] (by decide +kernel) (by decide +kernel)
set_option maxRecDepth 20000 in
theorem gX7_bits_X7_isIn : GoodIn wsX7_bits (va_wsS RX7 36 yX7_isIn wsX7_isIn) := goodIn_app (goodIn_of _ (by decide +kernel)) ggX7_bits_X7_isIn
set_option maxRecDepth 20000 in
theorem ggX7_bits_X7_hasTick : GoodIn wsX7_bits wsX7_hasTick := goodIn_r _ [10, 11, 12, 13, 14, 5, 15, 16, 3, 4, 6, 17, 18, 19, 20, 21, 33, 34, 35, 36, 37, 38, 39, 40, 41] (by decide +kernel) (by decide +kernel)
set_option maxRecDepth 20000 in
theorem gX7_bits_X7_hasTick : GoodIn wsX7_bits (wsV RX7 96 RX7 yX7_hasTick wsX7_hasTick) := goodIn_app (goodIn_of _ (by decide +kernel)) ggX7_bits_X7_hasTick
set_option maxRecDepth 20000 in
theorem ggX7_bits_X7_get : GoodIn wsX7_bits wsX7_get := goodIn_r _ [20, 21, 33, 34, 35, 36, 37, 38, 39, 40, 41] (by decide +kernel) (by decide +kernel)
set_option maxRecDepth 20000 in
theorem gX7_bits_X7_get : GoodIn wsX7_bits (wsV RX7 40 RX7 yX7_get wsX7_get) := goodIn_app (goodIn_of _ (by decide +kernel)) ggX7_bits_X7_get
set_option maxRecDepth 20000 in
theorem ggX7_bits_X7_wheelOf : GoodIn wsX7_bits wsX7_wheelOf := goodIn_r _ [25, 21, 26, 27, 5, 28, 33, 34, 35, 36, 37, 38, 39, 40, 41] (by decide +kernel) (by decide +kernel)
set_option maxRecDepth 20000 in
theorem gX7_bits_X7_wheelOf : GoodIn wsX7_bits (wsV RX7 175 RX7 yX7_wheelOf wsX7_wheelOf) := goodIn_app (goodIn_of _ (by decide +kernel)) ggX7_bits_X7_wheelOf
set_option maxRecDepth 20000 in
theorem ggX7_bits_X7_slotOf : GoodIn wsX7_bits wsX7_slotOf := goodIn_r _ [31, 32] (by decide +kernel) (by decide +kernel)
set_option maxRecDepth 20000 in
theorem gX7_bits_X7_slotOf : GoodIn wsX7_bits (va_wsS RX7 179 yX7_slotOf wsX7_slotOf) := goodIn_app (goodIn_of _ (by decide +kernel)) ggX7_bits_X7_slotOf
theorem dX7_bits_0 : decode cX7_bits 0 = .ok (.iload_n 1, 1) := by decide +kernel
theorem dX7_bits_1 : decode cX7_bits 1 = .ok (.i2l, 1) := by decide +kernel
theorem dX7_bits_2 : decode cX7_bits 2 = .ok (.lconst 0, 1) := by decide +kernel
theorem dX7_bits_3 : decode cX7_bits 3 = .ok (.ldc2_w 107, 3) := by decide +kernel
theorem dX7_bits_6 : decode cX7_bits 6 = .ok (.invokestatic 36, 3) := by decide +kernel
theorem dX7_bits_9 : decode cX7_bits 9 = .ok (.ifCond .ne 7, 3) := by decide +kernel
theorem dX7_bits_12 : decode cX7_bits 12 = .ok (.ldc2_w 73, 3) := by decide +kernel
theorem dX7_bits_15 : decode cX7_bits 15 = .ok (.lreturn, 1) := by decide +kernel
theorem dX7_bits_16 : decode cX7_bits 16 = .ok (.lconst 0, 1) := by decide +kernel
theorem dX7_bits_17 : decode cX7_bits 17 = .ok (.lstore_n 2, 1) := by decide +kernel
theorem dX7_bits_18 : decode cX7_bits 18 = .ok (.iconst 0, 1) := by decide +kernel
theorem dX7_bits_19 : decode cX7_bits 19 = .ok (.istore 4, 2) := by decide +kernel
theorem dX7_bits_21 : decode cX7_bits 21 = .ok (.iload 4, 2) := by decide +kernel
theorem dX7_bits_23 : decode cX7_bits 23 = .ok (.sipush 200, 3) := by decide +kernel
theorem dX7_bits_26 : decode cX7_bits 26 = .ok (.if_icmp .ge 49, 3) := by decide +kernel
theorem dX7_bits_29 : decode cX7_bits 29 = .ok (.aload_n 0, 1) := by decide +kernel
theorem dX7_bits_30 : decode cX7_bits 30 = .ok (.iload 4, 2) := by decide +kernel
theorem dX7_bits_32 : decode cX7_bits 32 = .ok (.invokevirtual 96, 3) := by decide +kernel
theorem dX7_bits_35 : decode cX7_bits 35 = .ok (.ifCond .eq 34, 3) := by decide +kernel
theorem dX7_bits_38 : decode cX7_bits 38 = .ok (.aload_n 0, 1) := by decide +kernel
theorem dX7_bits_39 : decode cX7_bits 39 = .ok (.aload_n 0, 1) := by decide +kernel
theorem dX7_bits_40 : decode cX7_bits 40 = .ok (.iload 4, 2) := by decide +kernel
theorem dX7_bits_42 : decode cX7_bits 42 = .ok (.iconst 3, 1) := by decide +kernel
theorem dX7_bits_43 : decode cX7_bits 43 = .ok (.invokevirtual 40, 3) := by decide +kernel
theorem dX7_bits_46 : decode cX7_bits 46 = .ok (.invokevirtual 175, 3) := by decide +kernel
theorem dX7_bits_49 : decode cX7_bits 49 = .ok (.iload_n 1, 1) := by decide +kernel
theorem dX7_bits_50 : decode cX7_bits 50 = .ok (.if_icmp .ne 19, 3) := by decide +kernel
theorem dX7_bits_53 : decode cX7_bits 53 = .ok (.lload_n 2, 1) := by decide +kernel
theorem dX7_bits_54 : decode cX7_bits 54 = .ok (.lconst 1, 1) := by decide +kernel
theorem dX7_bits_55 : decode cX7_bits 55 = .ok (.aload_n 0, 1) := by decide +kernel
theorem dX7_bits_56 : decode cX7_bits 56 = .ok (.iload 4, 2) := by decide +kernel
theorem dX7_bits_58 : decode cX7_bits 58 = .ok (.iconst 3, 1) := by decide +kernel
theorem dX7_bits_59 : decode cX7_bits 59 = .ok (.invokevirtual 40, 3) := by decide +kernel
theorem dX7_bits_62 : decode cX7_bits 62 = .ok (.iload_n 1, 1) := by decide +kernel
theorem dX7_bits_63 : decode cX7_bits 63 = .ok (.invokestatic 179, 3) := by decide +kernel
theorem dX7_bits_66 : decode cX7_bits 66 = .ok (.lshl, 1) := by decide +kernel
theorem dX7_bits_67 : decode cX7_bits 67 = .ok (.lor, 1) := by decide +kernel
theorem dX7_bits_68 : decode cX7_bits 68 = .ok (.lstore_n 2, 1) := by decide +kernel
theorem dX7_bits_69 : decode cX7_bits 69 = .ok (.iinc 4 1, 3) := by decide +kernel
theorem dX7_bits_72 : decode cX7_bits 72 = .ok (.goto (-51), 3) := by decide +kernel
theorem dX7_bits_75 : decode cX7_bits 75 = .ok (.lload_n 2, 1) := by decide +kernel
theorem dX7_bits_76 : decode cX7_bits 76 = .ok (.lreturn, 1) := by decide +kernel
set_option maxRecDepth 20000 in
theorem ggX7_isSlot_X7_isIn : GoodIn wsX7_isSlot wsX7_isIn := goodIn_r _ [6] (by decide +kernel) (by decide +kernel)
set_option maxRecDepth 20000 in
theorem gX7_isSlot_X7_isIn : GoodIn wsX7_isSlot (va_wsS RX7 36 yX7_isIn wsX7_isIn) := goodIn_app (goodIn_of _ (by decide +kernel)) ggX7_isSlot_X7_isIn
theorem dX7_isSlot_0 : decode cX7_isSlot 0 = .ok (.iload_n 0, 1) := by decide +kernel
theorem dX7_isSlot_1 : decode cX7_isSlot 1 = .ok (.i2l, 1) := by decide +kernel
theorem dX7_isSlot_2 : decode cX7_isSlot 2 = .ok (.lconst 0, 1) := by decide +kernel
theorem dX7_isSlot_3 : decode cX7_isSlot 3 = .ok (.ldc2_w 183, 3) := by decide +kernel
theorem dX7_isSlot_6 : decode cX7_isSlot 6 = .ok (.invokestatic 36, 3) := by decide +kernel
theorem dX7_isSlot_9 : decode cX7_isSlot 9 = .ok (.ifCond .eq 28, 3) := by decide +kernel
theorem dX7_isSlot_12 : decode cX7_isSlot 12 = .ok (.iload_n 1, 1) := by decide +kernel
theorem dX7_isSlot_13 : decode cX7_isSlot 13 = .ok (.i2l, 1) := by decide +kernel
theorem dX7_isSlot_14 : decode cX7_isSlot 14 = .ok (.lconst 0, 1) := by decide +kernel
theorem dX7_isSlot_15 : decode cX7_isSlot 15 = .ok (.iload_n 0, 1) := by decide +kernel
theorem dX7_isSlot_16 : decode cX7_isSlot 16 = .ok (.iconst 5, 1) := by decide +kernel
theorem dX7_isSlot_17 : decode cX7_isSlot 17 = .ok (.if_icmp .ne 7, 3) := by decide +kernel
theorem dX7_isSlot_20 : decode cX7_isSlot 20 = .ok (.lconst 0, 1) := by decide +kernel
theorem dX7_isSlot_21 : decode cX7_isSlot 21 = .ok (.goto 6, 3) := by decide +kernel
theorem dX7_isSlot_24 : decode cX7_isSlot 24 = .ok (.ldc2_w 118, 3) := by decide +kernel
theorem dX7_isSlot_27 : decode cX7_isSlot 27 = .ok (.invokestatic 36, 3) := by decide +kernel
theorem dX7_isSlot_30 : decode cX7_isSlot 30 = .ok (.ifCond .eq 7, 3) := by decide +kernel
theorem dX7_isSlot_33 : decode cX7_isSlot 33 = .ok (.iconst 1, 1) := by decide +kernel
theorem dX7_isSlot_34 : decode cX7_isSlot 34 = .ok (.goto 4, 3) := by decide +kernel
theorem dX7_isSlot_37 : decode cX7_isSlot 37 = .ok (.iconst 0, 1) := by decide +kernel
theorem dX7_isSlot_38 : decode cX7_isSlot 38 = .ok (.ireturn, 1) := by decide +kernel
set_option maxRecDepth 20000 in
theorem ggX7_many_X7_isSlot : GoodIn wsX7_many wsX7_isSlot := goodIn_r _ [5, 6, 7, 8, 9, 4, 10] (by decide +kernel) (by decide +kernel)
set_option maxRecDepth 20000 in
theorem gX7_many_X7_isSlot : GoodIn wsX7_many (va_wsS RX7 185 yX7_isSlot wsX7_isSlot) := goodIn_app (goodIn_of _ (by decide +kernel)) ggX7_many_X7_isSlot
set_option maxRecDepth 20000 in
theorem ggX7_many_X7_liesIn : GoodIn wsX7_many wsX7_liesIn := goodIn_r _ [14, 15, 16, 17, 4, 18, 19, 20, 21, 22, 23, 24, 8, 9, 10, 25, 26, 27, 28, 29, 30, 31, 32, 33, 34, 35, 36, 37, 38, 39, 7, 40, 41, 42, 43, 44, 45, 46, 47, 48] (by decide +kernel) (by decide +kernel)
set_option maxRecDepth 20000 in
theorem gX7_many_X7_liesIn : GoodIn wsX7_many (wsV RX7 188 RX7 yX7_liesIn wsX7_liesIn) := goodIn_app (goodIn_of _ (by decide +kernel)) ggX7_many_X7_liesIn
theorem dX7_many_0 : decode cX7_many 0 = .ok (.iload_n 1, 1) := by decide +kernel
theorem dX7_many_1 : decode cX7_many 1 = .ok (.iload_n 2, 1) := by decide +kernel
theorem dX7_many_2 : decode cX7_many 2 = .ok (.invokestatic 185, 3) := by decide +kernel
theorem dX7_many_5 : decode cX7_many 5 = .ok (.ifCond .ne 7, 3) := by decide +kernel
theorem dX7_many_8 : decode cX7_many 8 = .ok (.ldc2_w 73, 3) := by decide +kernel
theorem dX7_many_11 : decode cX7_many 11 = .ok (.lreturn, 1) := by decide +kernel
theorem dX7_many_12 : decode cX7_many 12 = .ok (.iconst 0, 1) := by decide +kernel
theorem dX7_many_13 : decode cX7_many 13 = .ok (.istore_n 3, 1) := by decide +kernel
theorem dX7_many_14 : decode cX7_many 14 = .ok (.iconst 0, 1) := by decide +kernel
theorem dX7_many_15 : decode cX7_many 15 = .ok (.istore 4, 2) := by decide +kernel
theorem dX7_many_17 : decode cX7_many 17 = .ok (.iload 4, 2) := by decide +kernel
theorem dX7_many_19 : decode cX7_many 19 = .ok (.sipush 200, 3) := by decide +kernel
theorem dX7_many_22 : decode cX7_many 22 = .ok (.if_icmp .ge 28, 3) := by decide +kernel
theorem dX7_many_25 : decode cX7_many 25 = .ok (.iload_n 3, 1) := by decide +kernel
theorem dX7_many_26 : decode cX7_many 26 = .ok (.aload_n 0, 1) := by decide +kernel
theorem dX7_many_27 : decode cX7_many 27 = .ok (.iload 4, 2) := by decide +kernel
theorem dX7_many_29 : decode cX7_many 29 = .ok (.iload_n 1, 1) := by decide +kernel
theorem dX7_many_30 : decode cX7_many 30 = .ok (.iload_n 2, 1) := by decide +kernel
theorem dX7_many_31 : decode cX7_many 31 = .ok (.invokevirtual 188, 3) := by decide +kernel
theorem dX7_many_34 : decode cX7_many 34 = .ok (.ifCond .eq 7, 3) := by decide +kernel
theorem dX7_many_37 : decode cX7_many 37 = .ok (.iconst 1, 1) := by decide +kernel
theorem dX7_many_38 : decode cX7_many 38 = .ok (.goto 4, 3) := by decide +kernel
theorem dX7_many_41 : decode cX7_many 41 = .ok (.iconst 0, 1) := by decide +kernel
theorem dX7_many_42 : decode cX7_many 42 = .ok (.iadd, 1) := by decide +kernel
theorem dX7_many_43 : decode cX7_many 43 = .ok (.istore_n 3, 1) := by decide +kernel
theorem dX7_many_44 : decode cX7_many 44 = .ok (.iinc 4 1, 3) := by decide +kernel
theorem dX7_many_47 : decode cX7_many 47 = .ok (.goto (-30), 3) := by decide +kernel
theorem dX7_many_50 : decode cX7_many 50 = .ok (.iload_n 3, 1) := by decide +kernel
theorem dX7_many_51 : decode cX7_many 51 = .ok (.i2l, 1) := by decide +kernel
theorem dX7_many_52 : decode cX7_many 52 = .ok (.lreturn, 1) := by decide +kernel
set_option maxRecDepth 20000 in
theorem ggX7_in_X7_isSlot : GoodIn wsX7_in wsX7_isSlot := goodIn_r _ [6, 7, 8, 9, 10, 5, 11] (by decide +kernel) (by decide +kernel)
set_option maxRecDepth 20000 in
theorem gX7_in_X7_isSlot : GoodIn wsX7_in (va_wsS RX7 185 yX7_isSlot wsX7_isSlot) := goodIn_app (goodIn_of _ (by decide +kernel)) ggX7_in_X7_isSlot
set_option maxRecDepth 20000 in
theorem ggX7_in_X7_liesIn : GoodIn wsX7_in wsX7_liesIn := goodIn_r _ [15, 16, 17, 18, 5, 19, 2, 20, 21, 22, 23, 24, 9, 10, 11, 25, 26, 27, 28, 29, 30, 31, 32, 33, 34, 35, 36, 37, 38, 39, 8, 40, 41, 42, 43, 44, 45, 46, 47, 48] (by decide +kernel) (by decide +kernel)
set_option maxRecDepth 20000 in
theorem gX7_in_X7_liesIn : GoodIn wsX7_in (wsV RX7 188 RX7 yX7_liesIn wsX7_liesIn) := goodIn_app (goodIn_of _ (by decide +kernel)) ggX7_in_X7_liesIn
theorem dX7_in_0 : decode cX7_in 0 = .ok (.iload_n 1, 1) := by decide +kernel
theorem dX7_in_1 : decode cX7_in 1 = .ok (.iload_n 2, 1) := by decide +kernel
theorem dX7_in_2 : decode cX7_in 2 = .ok (.invokestatic 185, 3) := by decide +kernel
theorem dX7_in_5 : decode cX7_in 5 = .ok (.ifCond .eq 7, 3) := by decide +kernel
theorem dX7_in_8 : decode cX7_in 8 = .ok (.iload_n 3, 1) := by decide +kernel
theorem dX7_in_9 : decode cX7_in 9 = .ok (.ifCond .ge 7, 3) := by decide +kernel
theorem dX7_in_12 : decode cX7_in 12 = .ok (.ldc2_w 73, 3) := by decide +kernel
theorem dX7_in_15 : decode cX7_in 15 = .ok (.lreturn, 1) := by decide +kernel
theorem dX7_in_16 : decode cX7_in 16 = .ok (.iconst 0, 1) := by decide +kernel
theorem dX7_in_17 : decode cX7_in 17 = .ok (.istore 4, 2) := by decide +kernel
theorem dX7_in_19 : decode cX7_in 19 = .ok (.iconst 0, 1) := by decide +kernel
theorem dX7_in_20 : decode cX7_in 20 = .ok (.istore 5, 2) := by decide +kernel
theorem dX7_in_22 : decode cX7_in 22 = .ok (.iload 5, 2) := by decide +kernel
theorem dX7_in_24 : decode cX7_in 24 = .ok (.sipush 200, 3) := by decide +kernel
theorem dX7_in_27 : decode cX7_in 27 = .ok (.if_icmp .ge 33, 3) := by decide +kernel
theorem dX7_in_30 : decode cX7_in 30 = .ok (.aload_n 0, 1) := by decide +kernel
theorem dX7_in_31 : decode cX7_in 31 = .ok (.iload 5, 2) := by decide +kernel
theorem dX7_in_33 : decode cX7_in 33 = .ok (.iload_n 1, 1) := by decide +kernel
theorem dX7_in_34 : decode cX7_in 34 = .ok (.iload_n 2, 1) := by decide +kernel
theorem dX7_in_35 : decode cX7_in 35 = .ok (.invokevirtual 188, 3) := by decide +kernel
theorem dX7_in_38 : decode cX7_in 38 = .ok (.ifCond .eq 16, 3) := by decide +kernel
theorem dX7_in_41 : decode cX7_in 41 = .ok (.iload 4, 2) := by decide +kernel
theorem dX7_in_43 : decode cX7_in 43 = .ok (.iload_n 3, 1) := by decide +kernel
theorem dX7_in_44 : decode cX7_in 44 = .ok (.if_icmp .ne 7, 3) := by decide +kernel
theorem dX7_in_47 : decode cX7_in 47 = .ok (.iload 5, 2) := by decide +kernel
theorem dX7_in_49 : decode cX7_in 49 = .ok (.i2l, 1) := by decide +kernel
theorem dX7_in_50 : decode cX7_in 50 = .ok (.lreturn, 1) := by decide +kernel
theorem dX7_in_51 : decode cX7_in 51 = .ok (.iinc 4 1, 3) := by decide +kernel
theorem dX7_in_54 : decode cX7_in 54 = .ok (.iinc 5 1, 3) := by decide +kernel
theorem dX7_in_57 : decode cX7_in 57 = .ok (.goto (-35), 3) := by decide +kernel
theorem dX7_in_60 : decode cX7_in 60 = .ok (.ldc2_w 48, 3) := by decide +kernel
theorem dX7_in_63 : decode cX7_in 63 = .ok (.lreturn, 1) := by decide +kernel
theorem dX7_now_0 : decode cX7_now 0 = .ok (.aload_n 0, 1) := by decide +kernel
theorem dX7_now_1 : decode cX7_now 1 = .ok (.getfield 7, 3) := by decide +kernel
theorem dX7_now_4 : decode cX7_now 4 = .ok (.sipush 3700, 3) := by decide +kernel
theorem dX7_now_7 : decode cX7_now 7 = .ok (.laload, 1) := by decide +kernel
theorem dX7_now_8 : decode cX7_now 8 = .ok (.lreturn, 1) := by decide +kernel
set_option maxRecDepth 20000 in
theorem ggX7_manyOf_X7_isDue : GoodIn wsX7_manyOf wsX7_isDue := goodIn_r _ [5, 6, 7, 8, 4, 9, 10, 11, 12, 13, 14, 28, 29, 30, 31, 32, 33, 34, 35, 36] (by decide +kernel) (by decide +kernel)
set_option maxRecDepth 20000 in
theorem gX7_manyOf_X7_isDue : GoodIn wsX7_manyOf (wsV RX7 44 RX7 yX7_isDue wsX7_isDue) := goodIn_app (goodIn_of _ (by decide +kernel)) ggX7_manyOf_X7_isDue
set_option maxRecDepth 20000 in
theorem ggX7_manyOf_X7_hasTick : GoodIn wsX7_manyOf wsX7_hasTick := goodIn_r _ [18, 19, 1, 2, 3, 4, 5, 6, 7, 8, 9, 10, 11, 12, 13, 14, 28, 29, 30, 31, 32, 33, 34, 35, 36] (by decide +kernel) (by decide +kernel)
set_option maxRecDepth 20000 in
theorem gX7_manyOf_X7_hasTick : GoodIn wsX7_manyOf (wsV RX7 96 RX7 yX7_hasTick wsX7_hasTick) := goodIn_app (goodIn_of _ (by decide +kernel)) ggX7_manyOf_X7_hasTick
set_option maxRecDepth 20000 in
theorem ggX7_manyOf_X7_waits : GoodIn wsX7_manyOf wsX7_waits := goodIn_r _ [23, 19, 1, 2, 3, 4, 5, 6, 7, 8, 9, 10, 11, 12, 13, 14, 28, 29, 30, 31, 32, 33, 34, 35, 36] (by decide +kernel) (by decide +kernel)
set_option maxRecDepth 20000 in
theorem gX7_manyOf_X7_waits : GoodIn wsX7_manyOf (wsV RX7 91 RX7 yX7_waits wsX7_waits) := goodIn_app (goodIn_of _ (by decide +kernel)) ggX7_manyOf_X7_waits
set_option maxRecDepth 20000 in
theorem ggX7_manyOf_X7_rests : GoodIn wsX7_manyOf wsX7_rests := goodIn_r _ [27, 19, 1, 2, 3, 4, 5, 6, 7, 8, 9, 10, 11, 12, 13, 14, 28, 29, 30, 31, 32, 33, 34, 35, 36] (by decide +kernel) (by decide +kernel)
set_option maxRecDepth 20000 in
theorem gX7_manyOf_X7_rests : GoodIn wsX7_manyOf (wsV RX7 109 RX7 yX7_rests wsX7_rests) := goodIn_app (goodIn_of _ (by decide +kernel)) ggX7_manyOf_X7_rests
theorem dX7_manyOf_0 : decode cX7_manyOf 0 = .ok (.iconst 0, 1) := by decide +kernel
theorem dX7_manyOf_1 : decode cX7_manyOf 1 = .ok (.istore_n 2, 1) := by decide +kernel
theorem dX7_manyOf_2 : decode cX7_manyOf 2 = .ok (.iconst 0, 1) := by decide +kernel
theorem dX7_manyOf_3 : decode cX7_manyOf 3 = .ok (.istore_n 3, 1) := by decide +kernel
theorem dX7_manyOf_4 : decode cX7_manyOf 4 = .ok (.iload_n 3, 1) := by decide +kernel
theorem dX7_manyOf_5 : decode cX7_manyOf 5 = .ok (.sipush 200, 3) := by decide +kernel
theorem dX7_manyOf_8 : decode cX7_manyOf 8 = .ok (.if_icmp .ge 67, 3) := by decide +kernel
theorem dX7_manyOf_11 : decode cX7_manyOf 11 = .ok (.iload_n 1, 1) := by decide +kernel
theorem dX7_manyOf_12 : decode cX7_manyOf 12 = .ok (.ifCond .ne 11, 3) := by decide +kernel
theorem dX7_manyOf_15 : decode cX7_manyOf 15 = .ok (.aload_n 0, 1) := by decide +kernel
theorem dX7_manyOf_16 : decode cX7_manyOf 16 = .ok (.iload_n 3, 1) := by decide +kernel
theorem dX7_manyOf_17 : decode cX7_manyOf 17 = .ok (.invokevirtual 44, 3) := by decide +kernel
theorem dX7_manyOf_20 : decode cX7_manyOf 20 = .ok (.goto 34, 3) := by decide +kernel
theorem dX7_manyOf_23 : decode cX7_manyOf 23 = .ok (.iload_n 1, 1) := by decide +kernel
theorem dX7_manyOf_24 : decode cX7_manyOf 24 = .ok (.iconst 1, 1) := by decide +kernel
theorem dX7_manyOf_25 : decode cX7_manyOf 25 = .ok (.if_icmp .ne 11, 3) := by decide +kernel
theorem dX7_manyOf_28 : decode cX7_manyOf 28 = .ok (.aload_n 0, 1) := by decide +kernel
theorem dX7_manyOf_29 : decode cX7_manyOf 29 = .ok (.iload_n 3, 1) := by decide +kernel
theorem dX7_manyOf_30 : decode cX7_manyOf 30 = .ok (.invokevirtual 96, 3) := by decide +kernel
theorem dX7_manyOf_33 : decode cX7_manyOf 33 = .ok (.goto 21, 3) := by decide +kernel
theorem dX7_manyOf_36 : decode cX7_manyOf 36 = .ok (.iload_n 1, 1) := by decide +kernel
theorem dX7_manyOf_37 : decode cX7_manyOf 37 = .ok (.iconst 2, 1) := by decide +kernel
theorem dX7_manyOf_38 : decode cX7_manyOf 38 = .ok (.if_icmp .ne 11, 3) := by decide +kernel
theorem dX7_manyOf_41 : decode cX7_manyOf 41 = .ok (.aload_n 0, 1) := by decide +kernel
theorem dX7_manyOf_42 : decode cX7_manyOf 42 = .ok (.iload_n 3, 1) := by decide +kernel
theorem dX7_manyOf_43 : decode cX7_manyOf 43 = .ok (.invokevirtual 91, 3) := by decide +kernel
theorem dX7_manyOf_46 : decode cX7_manyOf 46 = .ok (.goto 8, 3) := by decide +kernel
theorem dX7_manyOf_49 : decode cX7_manyOf 49 = .ok (.aload_n 0, 1) := by decide +kernel
theorem dX7_manyOf_50 : decode cX7_manyOf 50 = .ok (.iload_n 3, 1) := by decide +kernel
theorem dX7_manyOf_51 : decode cX7_manyOf 51 = .ok (.invokevirtual 109, 3) := by decide +kernel
theorem dX7_manyOf_54 : decode cX7_manyOf 54 = .ok (.istore 4, 2) := by decide +kernel
theorem dX7_manyOf_56 : decode cX7_manyOf 56 = .ok (.iload_n 2, 1) := by decide +kernel
theorem dX7_manyOf_57 : decode cX7_manyOf 57 = .ok (.iload 4, 2) := by decide +kernel
theorem dX7_manyOf_59 : decode cX7_manyOf 59 = .ok (.ifCond .eq 7, 3) := by decide +kernel
theorem dX7_manyOf_62 : decode cX7_manyOf 62 = .ok (.iconst 1, 1) := by decide +kernel
theorem dX7_manyOf_63 : decode cX7_manyOf 63 = .ok (.goto 4, 3) := by decide +kernel
theorem dX7_manyOf_66 : decode cX7_manyOf 66 = .ok (.iconst 0, 1) := by decide +kernel
theorem dX7_manyOf_67 : decode cX7_manyOf 67 = .ok (.iadd, 1) := by decide +kernel
theorem dX7_manyOf_68 : decode cX7_manyOf 68 = .ok (.istore_n 2, 1) := by decide +kernel
theorem dX7_manyOf_69 : decode cX7_manyOf 69 = .ok (.iinc 3 1, 3) := by decide +kernel
theorem dX7_manyOf_72 : decode cX7_manyOf 72 = .ok (.goto (-68), 3) := by decide +kernel
theorem dX7_manyOf_75 : decode cX7_manyOf 75 = .ok (.iload_n 2, 1) := by decide +kernel
theorem dX7_manyOf_76 : decode cX7_manyOf 76 = .ok (.ireturn, 1) := by decide +kernel
set_option maxRecDepth 20000 in
theorem ggX7_count_X7_manyOf : GoodIn wsX7_count wsX7_manyOf := goodIn_r _ [8, 9, 10, 11, 7, 12, 13, 14, 15, 16, 17, 18, 19, 20, 1, 21, 22, 23, 24, 25, 26, 27, 28, 29, 30, 31, 32, 33, 34, 35, 36, 37, 38, 39, 40, 41, 42] (by decide +kernel) (by decide +kernel)
set_option maxRecDepth 20000 in
theorem gX7_count_X7_manyOf : GoodIn wsX7_count (wsV RX7 192 RX7 yX7_manyOf wsX7_manyOf) := goodIn_app (goodIn_of _ (by decide +kernel)) ggX7_count_X7_manyOf
theorem dX7_count_0 : decode cX7_count 0 = .ok (.iload_n 1, 1) := by decide +kernel
theorem dX7_count_1 : decode cX7_count 1 = .ok (.tableswitch 87 0 7 #[47, 47, 47, 47, 54, 63, 72, 81], 47) := by decide +kernel
theorem dX7_count_48 : decode cX7_count 48 = .ok (.aload_n 0, 1) := by decide +kernel
theorem dX7_count_49 : decode cX7_count 49 = .ok (.iload_n 1, 1) := by decide +kernel
theorem dX7_count_50 : decode cX7_count 50 = .ok (.invokevirtual 192, 3) := by decide +kernel
theorem dX7_count_53 : decode cX7_count 53 = .ok (.i2l, 1) := by decide +kernel
theorem dX7_count_54 : decode cX7_count 54 = .ok (.lreturn, 1) := by decide +kernel
theorem dX7_count_55 : decode cX7_count 55 = .ok (.aload_n 0, 1) := by decide +kernel
theorem dX7_count_56 : decode cX7_count 56 = .ok (.getfield 7, 3) := by decide +kernel
theorem dX7_count_59 : decode cX7_count 59 = .ok (.sipush 3702, 3) := by decide +kernel
theorem dX7_count_62 : decode cX7_count 62 = .ok (.laload, 1) := by decide +kernel
theorem dX7_count_63 : decode cX7_count 63 = .ok (.lreturn, 1) := by decide +kernel
theorem dX7_count_64 : decode cX7_count 64 = .ok (.aload_n 0, 1) := by decide +kernel
theorem dX7_count_65 : decode cX7_count 65 = .ok (.getfield 7, 3) := by decide +kernel
theorem dX7_count_68 : decode cX7_count 68 = .ok (.sipush 3703, 3) := by decide +kernel
theorem dX7_count_71 : decode cX7_count 71 = .ok (.laload, 1) := by decide +kernel
theorem dX7_count_72 : decode cX7_count 72 = .ok (.lreturn, 1) := by decide +kernel
theorem dX7_count_73 : decode cX7_count 73 = .ok (.aload_n 0, 1) := by decide +kernel
theorem dX7_count_74 : decode cX7_count 74 = .ok (.getfield 7, 3) := by decide +kernel
theorem dX7_count_77 : decode cX7_count 77 = .ok (.sipush 3704, 3) := by decide +kernel
theorem dX7_count_80 : decode cX7_count 80 = .ok (.laload, 1) := by decide +kernel
theorem dX7_count_81 : decode cX7_count 81 = .ok (.lreturn, 1) := by decide +kernel
theorem dX7_count_82 : decode cX7_count 82 = .ok (.aload_n 0, 1) := by decide +kernel
theorem dX7_count_83 : decode cX7_count 83 = .ok (.getfield 30, 3) := by decide +kernel
theorem dX7_count_86 : decode cX7_count 86 = .ok (.i2l, 1) := by decide +kernel
theorem dX7_count_87 : decode cX7_count 87 = .ok (.lreturn, 1) := by decide +kernel
theorem dX7_count_88 : decode cX7_count 88 = .ok (.ldc2_w 73, 3) := by decide +kernel
theorem dX7_count_91 : decode cX7_count 91 = .ok (.lreturn, 1) := by decide +kernel
