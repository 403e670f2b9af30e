set_option maxRecDepth 20000 in
theorem ggX3_init_X2_init : GoodIn wsX3_init wsX2_init := goodIn_r _ [12, 13, 2, 3, 14, 15, 8, 16, 17, 18, 19, 20, 21] (by decide +kernel) (by decide +kernel)
set_option maxRecDepth 20000 in
theorem gX3_init_X2_init_n11 : GoodIn wsX3_init (wsX2_init) := ggX3_init_X2_init
theorem dX3_init_0 : decode cX3_init 0 = .ok (.aload_n 0, 1) := by decide +kernel
theorem dX3_init_1 : decode cX3_init 1 = .ok (.invokespecial 3, 3) := by decide +kernel
theorem dX3_init_4 : decode cX3_init 4 = .ok (.aload_n 0, 1) := by decide +kernel
theorem dX3_init_5 : decode cX3_init 5 = .ok (.new 9, 3) := by decide +kernel
theorem dX3_init_8 : decode cX3_init 8 = .ok (.dup, 1) := by decide +kernel
theorem dX3_init_9 : decode cX3_init 9 = .ok (.invokespecial 11, 3) := by decide +kernel
theorem dX3_init_12 : decode cX3_init 12 = .ok (.putfield 12, 3) := by decide +kernel
theorem dX3_init_15 : decode cX3_init 15 = .ok (.aload_n 0, 1) := by decide +kernel
theorem dX3_init_16 : decode cX3_init 16 = .ok (.sipush 200, 3) := by decide +kernel
theorem dX3_init_19 : decode cX3_init 19 = .ok (.newarray .long, 2) := by decide +kernel
theorem dX3_init_21 : decode cX3_init 21 = .ok (.putfield 18, 3) := by decide +kernel
theorem dX3_init_24 : decode cX3_init 24 = .ok (.aload_n 0, 1) := by decide +kernel
theorem dX3_init_25 : decode cX3_init 25 = .ok (.sipush 200, 3) := by decide +kernel
theorem dX3_init_28 : decode cX3_init 28 = .ok (.newarray .long, 2) := by decide +kernel
theorem dX3_init_30 : decode cX3_init 30 = .ok (.putfield 22, 3) := by decide +kernel
theorem dX3_init_33 : decode cX3_init 33 = .ok (.return_, 1) := by decide +kernel
set_option maxRecDepth 20000 in
theorem ggX3_plan_X3_findFast : GoodIn wsX3_plan wsX3_findFast := goodIn_r _ [16, 17, 18, 4, 19, 10, 20, 21, 22, 15, 23, 24, 46, 47, 48, 49, 54, 55, 56, 57, 58, 59, 60, 61] (by decide +kernel) (by decide +kernel)
set_option maxRecDepth 20000 in
theorem gX3_plan_X3_findFast : GoodIn wsX3_plan (wsV RX3 25 RX3 yX3_findFast wsX3_findFast) := goodIn_app (goodIn_of _ (by decide +kernel)) ggX3_plan_X3_findFast
set_option maxRecDepth 20000 in
theorem ggX3_plan_X3_findLoose : GoodIn wsX3_plan wsX3_findLoose := goodIn_r _ [28, 1, 2, 18, 4, 19, 29, 30, 31, 32, 33, 34, 35, 36, 37, 38, 39, 40, 41, 46, 47, 48, 49, 50, 51, 52, 53, 54, 55, 56, 57, 58, 59, 60, 61] (by decide +kernel) (by decide +kernel)
set_option maxRecDepth 20000 in
theorem gX3_plan_X3_findLoose : GoodIn wsX3_plan (wsV RX3 29 RX3 yX3_findLoose wsX3_findLoose) := goodIn_app (goodIn_of _ (by decide +kernel)) ggX3_plan_X3_findLoose
set_option maxRecDepth 20000 in
theorem ggX3_plan_X3_leastFast : GoodIn wsX3_plan wsX3_leastFast := goodIn_r _ [45, 10, 17, 24, 46, 47, 48, 49] (by decide +kernel) (by decide +kernel)
set_option maxRecDepth 20000 in
theorem gX3_plan_X3_leastFast : GoodIn wsX3_plan (wsV RX3 55 RX3 yX3_leastFast wsX3_leastFast) := goodIn_app (goodIn_of _ (by decide +kernel)) ggX3_plan_X3_leastFast
set_option maxRecDepth 20000 in
theorem ggX3_plan_X3_addFast : GoodIn wsX3_plan wsX3_addFast := goodIn_r _ [23, 17, 24, 46, 47, 48, 49] (by decide +kernel) (by decide +kernel)
set_option maxRecDepth 20000 in
theorem gX3_plan_X3_addFast : GoodIn wsX3_plan (wsV RX3 60 RX3 yX3_addFast wsX3_addFast) := goodIn_app (goodIn_of _ (by decide +kernel)) ggX3_plan_X3_addFast
theorem dX3_plan_0 : decode cX3_plan 0 = .ok (.aload_n 0, 1) := by decide +kernel
theorem dX3_plan_1 : decode cX3_plan 1 = .ok (.aload_n 1, 1) := by decide +kernel
theorem dX3_plan_2 : decode cX3_plan 2 = .ok (.invokevirtual 25, 3) := by decide +kernel
theorem dX3_plan_5 : decode cX3_plan 5 = .ok (.aload_n 0, 1) := by decide +kernel
theorem dX3_plan_6 : decode cX3_plan 6 = .ok (.aload_n 1, 1) := by decide +kernel
theorem dX3_plan_7 : decode cX3_plan 7 = .ok (.invokevirtual 29, 3) := by decide +kernel
theorem dX3_plan_10 : decode cX3_plan 10 = .ok (.iconst 0, 1) := by decide +kernel
theorem dX3_plan_11 : decode cX3_plan 11 = .ok (.istore_n 2, 1) := by decide +kernel
theorem dX3_plan_12 : decode cX3_plan 12 = .ok (.iconst 0, 1) := by decide +kernel
theorem dX3_plan_13 : decode cX3_plan 13 = .ok (.istore_n 3, 1) := by decide +kernel
theorem dX3_plan_14 : decode cX3_plan 14 = .ok (.iload_n 3, 1) := by decide +kernel
theorem dX3_plan_15 : decode cX3_plan 15 = .ok (.aload_n 0, 1) := by decide +kernel
theorem dX3_plan_16 : decode cX3_plan 16 = .ok (.getfield 12, 3) := by decide +kernel
theorem dX3_plan_19 : decode cX3_plan 19 = .ok (.getfield 32, 3) := by decide +kernel
theorem dX3_plan_22 : decode cX3_plan 22 = .ok (.if_icmp .ge 87, 3) := by decide +kernel
theorem dX3_plan_25 : decode cX3_plan 25 = .ok (.aload_n 0, 1) := by decide +kernel
theorem dX3_plan_26 : decode cX3_plan 26 = .ok (.getfield 12, 3) := by decide +kernel
theorem dX3_plan_29 : decode cX3_plan 29 = .ok (.getfield 36, 3) := by decide +kernel
theorem dX3_plan_32 : decode cX3_plan 32 = .ok (.iload_n 3, 1) := by decide +kernel
theorem dX3_plan_33 : decode cX3_plan 33 = .ok (.iaload, 1) := by decide +kernel
theorem dX3_plan_34 : decode cX3_plan 34 = .ok (.istore 4, 2) := by decide +kernel
theorem dX3_plan_36 : decode cX3_plan 36 = .ok (.aload_n 1, 1) := by decide +kernel
theorem dX3_plan_37 : decode cX3_plan 37 = .ok (.getfield 40, 3) := by decide +kernel
theorem dX3_plan_40 : decode cX3_plan 40 = .ok (.iconst 2, 1) := by decide +kernel
theorem dX3_plan_41 : decode cX3_plan 41 = .ok (.aaload, 1) := by decide +kernel
theorem dX3_plan_42 : decode cX3_plan 42 = .ok (.iload 4, 2) := by decide +kernel
theorem dX3_plan_44 : decode cX3_plan 44 = .ok (.laload, 1) := by decide +kernel
theorem dX3_plan_45 : decode cX3_plan 45 = .ok (.lstore 5, 2) := by decide +kernel
theorem dX3_plan_47 : decode cX3_plan 47 = .ok (.aload_n 0, 1) := by decide +kernel
theorem dX3_plan_48 : decode cX3_plan 48 = .ok (.aload_n 1, 1) := by decide +kernel
theorem dX3_plan_49 : decode cX3_plan 49 = .ok (.getfield 40, 3) := by decide +kernel
theorem dX3_plan_52 : decode cX3_plan 52 = .ok (.iconst 3, 1) := by decide +kernel
theorem dX3_plan_53 : decode cX3_plan 53 = .ok (.aaload, 1) := by decide +kernel
theorem dX3_plan_54 : decode cX3_plan 54 = .ok (.iload 4, 2) := by decide +kernel
theorem dX3_plan_56 : decode cX3_plan 56 = .ok (.laload, 1) := by decide +kernel
theorem dX3_plan_57 : decode cX3_plan 57 = .ok (.aload_n 1, 1) := by decide +kernel
theorem dX3_plan_58 : decode cX3_plan 58 = .ok (.getfield 45, 3) := by decide +kernel
theorem dX3_plan_61 : decode cX3_plan 61 = .ok (.lconst 1, 1) := by decide +kernel
theorem dX3_plan_62 : decode cX3_plan 62 = .ok (.ladd, 1) := by decide +kernel
theorem dX3_plan_63 : decode cX3_plan 63 = .ok (.invokestatic 49, 3) := by decide +kernel
theorem dX3_plan_66 : decode cX3_plan 66 = .ok (.lload 5, 2) := by decide +kernel
theorem dX3_plan_68 : decode cX3_plan 68 = .ok (.invokevirtual 55, 3) := by decide +kernel
theorem dX3_plan_71 : decode cX3_plan 71 = .ok (.lstore 7, 2) := by decide +kernel
theorem dX3_plan_73 : decode cX3_plan 73 = .ok (.lload 7, 2) := by decide +kernel
theorem dX3_plan_75 : decode cX3_plan 75 = .ok (.ldc2_w 58, 3) := by decide +kernel
theorem dX3_plan_78 : decode cX3_plan 78 = .ok (.lcmp, 1) := by decide +kernel
theorem dX3_plan_79 : decode cX3_plan 79 = .ok (.ifCond .ne 16, 3) := by decide +kernel
theorem dX3_plan_82 : decode cX3_plan 82 = .ok (.aload_n 0, 1) := by decide +kernel
theorem dX3_plan_83 : decode cX3_plan 83 = .ok (.lload 5, 2) := by decide +kernel
theorem dX3_plan_85 : decode cX3_plan 85 = .ok (.invokevirtual 60, 3) := by decide +kernel
theorem dX3_plan_88 : decode cX3_plan 88 = .ok (.lload 5, 2) := by decide +kernel
theorem dX3_plan_90 : decode cX3_plan 90 = .ok (.lstore 7, 2) := by decide +kernel
theorem dX3_plan_92 : decode cX3_plan 92 = .ok (.iinc 2 1, 3) := by decide +kernel
theorem dX3_plan_95 : decode cX3_plan 95 = .ok (.aload_n 0, 1) := by decide +kernel
theorem dX3_plan_96 : decode cX3_plan 96 = .ok (.getfield 18, 3) := by decide +kernel
theorem dX3_plan_99 : decode cX3_plan 99 = .ok (.iload_n 3, 1) := by decide +kernel
theorem dX3_plan_100 : decode cX3_plan 100 = .ok (.lload 7, 2) := by decide +kernel
theorem dX3_plan_102 : decode cX3_plan 102 = .ok (.lastore, 1) := by decide +kernel
theorem dX3_plan_103 : decode cX3_plan 103 = .ok (.iinc 3 1, 3) := by decide +kernel
theorem dX3_plan_106 : decode cX3_plan 106 = .ok (.goto (-92), 3) := by decide +kernel
theorem dX3_plan_109 : decode cX3_plan 109 = .ok (.iload_n 2, 1) := by decide +kernel
theorem dX3_plan_110 : decode cX3_plan 110 = .ok (.ireturn, 1) := by decide +kernel
set_option maxRecDepth 20000 in
theorem ggX3_carryOut_X4_setTick : GoodIn wsX3_carryOut wsX4_setTick := goodIn_r _ [10, 11, 12, 13, 14, 15, 16, 25, 26, 27, 28, 29, 30, 31, 32] (by decide +kernel) (by decide +kernel)
set_option maxRecDepth 20000 in
theorem gX3_carryOut_X4_setTick : GoodIn wsX3_carryOut (wsV RX3 64 RX4 yX4_setTick wsX4_setTick) := goodIn_app (goodIn_of _ (by decide +kernel)) ggX3_carryOut_X4_setTick
theorem dX3_carryOut_0 : decode cX3_carryOut 0 = .ok (.iconst 0, 1) := by decide +kernel
theorem dX3_carryOut_1 : decode cX3_carryOut 1 = .ok (.istore_n 2, 1) := by decide +kernel
theorem dX3_carryOut_2 : decode cX3_carryOut 2 = .ok (.iconst 0, 1) := by decide +kernel
theorem dX3_carryOut_3 : decode cX3_carryOut 3 = .ok (.istore_n 3, 1) := by decide +kernel
theorem dX3_carryOut_4 : decode cX3_carryOut 4 = .ok (.iload_n 3, 1) := by decide +kernel
theorem dX3_carryOut_5 : decode cX3_carryOut 5 = .ok (.aload_n 0, 1) := by decide +kernel
theorem dX3_carryOut_6 : decode cX3_carryOut 6 = .ok (.getfield 12, 3) := by decide +kernel
theorem dX3_carryOut_9 : decode cX3_carryOut 9 = .ok (.getfield 32, 3) := by decide +kernel
theorem dX3_carryOut_12 : decode cX3_carryOut 12 = .ok (.if_icmp .ge 57, 3) := by decide +kernel
theorem dX3_carryOut_15 : decode cX3_carryOut 15 = .ok (.aload_n 1, 1) := by decide +kernel
theorem dX3_carryOut_16 : decode cX3_carryOut 16 = .ok (.getfield 40, 3) := by decide +kernel
theorem dX3_carryOut_19 : decode cX3_carryOut 19 = .ok (.iconst 2, 1) := by decide +kernel
theorem dX3_carryOut_20 : decode cX3_carryOut 20 = .ok (.aaload, 1) := by decide +kernel
theorem dX3_carryOut_21 : decode cX3_carryOut 21 = .ok (.aload_n 0, 1) := by decide +kernel
theorem dX3_carryOut_22 : decode cX3_carryOut 22 = .ok (.getfield 12, 3) := by decide +kernel
theorem dX3_carryOut_25 : decode cX3_carryOut 25 = .ok (.getfield 36, 3) := by decide +kernel
theorem dX3_carryOut_28 : decode cX3_carryOut 28 = .ok (.iload_n 3, 1) := by decide +kernel
theorem dX3_carryOut_29 : decode cX3_carryOut 29 = .ok (.iaload, 1) := by decide +kernel
theorem dX3_carryOut_30 : decode cX3_carryOut 30 = .ok (.laload, 1) := by decide +kernel
theorem dX3_carryOut_31 : decode cX3_carryOut 31 = .ok (.aload_n 0, 1) := by decide +kernel
theorem dX3_carryOut_32 : decode cX3_carryOut 32 = .ok (.getfield 18, 3) := by decide +kernel
theorem dX3_carryOut_35 : decode cX3_carryOut 35 = .ok (.iload_n 3, 1) := by decide +kernel
theorem dX3_carryOut_36 : decode cX3_carryOut 36 = .ok (.laload, 1) := by decide +kernel
theorem dX3_carryOut_37 : decode cX3_carryOut 37 = .ok (.lcmp, 1) := by decide +kernel
theorem dX3_carryOut_38 : decode cX3_carryOut 38 = .ok (.ifCond .eq 25, 3) := by decide +kernel
theorem dX3_carryOut_41 : decode cX3_carryOut 41 = .ok (.aload_n 1, 1) := by decide +kernel
theorem dX3_carryOut_42 : decode cX3_carryOut 42 = .ok (.aload_n 0, 1) := by decide +kernel
theorem dX3_carryOut_43 : decode cX3_carryOut 43 = .ok (.getfield 12, 3) := by decide +kernel
theorem dX3_carryOut_46 : decode cX3_carryOut 46 = .ok (.getfield 36, 3) := by decide +kernel
theorem dX3_carryOut_49 : decode cX3_carryOut 49 = .ok (.iload_n 3, 1) := by decide +kernel
theorem dX3_carryOut_50 : decode cX3_carryOut 50 = .ok (.iaload, 1) := by decide +kernel
theorem dX3_carryOut_51 : decode cX3_carryOut 51 = .ok (.aload_n 0, 1) := by decide +kernel
theorem dX3_carryOut_52 : decode cX3_carryOut 52 = .ok (.getfield 18, 3) := by decide +kernel
theorem dX3_carryOut_55 : decode cX3_carryOut 55 = .ok (.iload_n 3, 1) := by decide +kernel
theorem dX3_carryOut_56 : decode cX3_carryOut 56 = .ok (.laload, 1) := by decide +kernel
theorem dX3_carryOut_57 : decode cX3_carryOut 57 = .ok (.invokevirtual 64, 3) := by decide +kernel
theorem dX3_carryOut_60 : decode cX3_carryOut 60 = .ok (.iinc 2 1, 3) := by decide +kernel
theorem dX3_carryOut_63 : decode cX3_carryOut 63 = .ok (.iinc 3 1, 3) := by decide +kernel
theorem dX3_carryOut_66 : decode cX3_carryOut 66 = .ok (.goto (-62), 3) := by decide +kernel
theorem dX3_carryOut_69 : decode cX3_carryOut 69 = .ok (.iload_n 2, 1) := by decide +kernel
theorem dX3_carryOut_70 : decode cX3_carryOut 70 = .ok (.ireturn, 1) := by decide +kernel
set_option maxRecDepth 20000 in
theorem ggX3_findFast_X3_addFast : GoodIn wsX3_findFast wsX3_addFast := goodIn_r _ [10, 1, 11, 12, 13, 14, 15] (by decide +kernel) (by decide +kernel)
set_option maxRecDepth 20000 in
theorem gX3_findFast_X3_addFast : GoodIn wsX3_findFast (wsV RX3 60 RX3 yX3_addFast wsX3_addFast) := goodIn_app (goodIn_of _ (by decide +kernel)) ggX3_findFast_X3_addFast
theorem dX3_findFast_0 : decode cX3_findFast 0 = .ok (.aload_n 0, 1) := by decide +kernel
theorem dX3_findFast_1 : decode cX3_findFast 1 = .ok (.iconst 0, 1) := by decide +kernel
theorem dX3_findFast_2 : decode cX3_findFast 2 = .ok (.putfield 68, 3) := by decide +kernel
theorem dX3_findFast_5 : decode cX3_findFast 5 = .ok (.iconst 0, 1) := by decide +kernel
theorem dX3_findFast_6 : decode cX3_findFast 6 = .ok (.istore_n 2, 1) := by decide +kernel
theorem dX3_findFast_7 : decode cX3_findFast 7 = .ok (.iload_n 2, 1) := by decide +kernel
theorem dX3_findFast_8 : decode cX3_findFast 8 = .ok (.aload_n 1, 1) := by decide +kernel
theorem dX3_findFast_9 : decode cX3_findFast 9 = .ok (.getfield 71, 3) := by decide +kernel
theorem dX3_findFast_12 : decode cX3_findFast 12 = .ok (.if_icmp .ge 51, 3) := by decide +kernel
theorem dX3_findFast_15 : decode cX3_findFast 15 = .ok (.aload_n 1, 1) := by decide +kernel
theorem dX3_findFast_16 : decode cX3_findFast 16 = .ok (.getfield 40, 3) := by decide +kernel
theorem dX3_findFast_19 : decode cX3_findFast 19 = .ok (.iconst 0, 1) := by decide +kernel
theorem dX3_findFast_20 : decode cX3_findFast 20 = .ok (.aaload, 1) := by decide +kernel
theorem dX3_findFast_21 : decode cX3_findFast 21 = .ok (.iload_n 2, 1) := by decide +kernel
theorem dX3_findFast_22 : decode cX3_findFast 22 = .ok (.laload, 1) := by decide +kernel
theorem dX3_findFast_23 : decode cX3_findFast 23 = .ok (.ldc2_w 74, 3) := by decide +kernel
theorem dX3_findFast_26 : decode cX3_findFast 26 = .ok (.lcmp, 1) := by decide +kernel
theorem dX3_findFast_27 : decode cX3_findFast 27 = .ok (.ifCond .eq 30, 3) := by decide +kernel
theorem dX3_findFast_30 : decode cX3_findFast 30 = .ok (.aload_n 1, 1) := by decide +kernel
theorem dX3_findFast_31 : decode cX3_findFast 31 = .ok (.getfield 40, 3) := by decide +kernel
theorem dX3_findFast_34 : decode cX3_findFast 34 = .ok (.iconst 2, 1) := by decide +kernel
theorem dX3_findFast_35 : decode cX3_findFast 35 = .ok (.aaload, 1) := by decide +kernel
theorem dX3_findFast_36 : decode cX3_findFast 36 = .ok (.iload_n 2, 1) := by decide +kernel
theorem dX3_findFast_37 : decode cX3_findFast 37 = .ok (.laload, 1) := by decide +kernel
theorem dX3_findFast_38 : decode cX3_findFast 38 = .ok (.ldc2_w 58, 3) := by decide +kernel
theorem dX3_findFast_41 : decode cX3_findFast 41 = .ok (.lcmp, 1) := by decide +kernel
theorem dX3_findFast_42 : decode cX3_findFast 42 = .ok (.ifCond .eq 15, 3) := by decide +kernel
theorem dX3_findFast_45 : decode cX3_findFast 45 = .ok (.aload_n 0, 1) := by decide +kernel
theorem dX3_findFast_46 : decode cX3_findFast 46 = .ok (.aload_n 1, 1) := by decide +kernel
theorem dX3_findFast_47 : decode cX3_findFast 47 = .ok (.getfield 40, 3) := by decide +kernel
theorem dX3_findFast_50 : decode cX3_findFast 50 = .ok (.iconst 2, 1) := by decide +kernel
theorem dX3_findFast_51 : decode cX3_findFast 51 = .ok (.aaload, 1) := by decide +kernel
theorem dX3_findFast_52 : decode cX3_findFast 52 = .ok (.iload_n 2, 1) := by decide +kernel
theorem dX3_findFast_53 : decode cX3_findFast 53 = .ok (.laload, 1) := by decide +kernel
theorem dX3_findFast_54 : decode cX3_findFast 54 = .ok (.invokevirtual 60, 3) := by decide +kernel
theorem dX3_findFast_57 : decode cX3_findFast 57 = .ok (.iinc 2 1, 3) := by decide +kernel
theorem dX3_findFast_60 : decode cX3_findFast 60 = .ok (.goto (-53), 3) := by decide +kernel
theorem dX3_findFast_63 : decode cX3_findFast 63 = .ok (.return_, 1) := by decide +kernel
theorem dX3_addFast_0 : decode cX3_addFast 0 = .ok (.aload_n 0, 1) := by decide +kernel
theorem dX3_addFast_1 : decode cX3_addFast 1 = .ok (.getfield 68, 3) := by decide +kernel
theorem dX3_addFast_4 : decode cX3_addFast 4 = .ok (.sipush 200, 3) := by decide +kernel
theorem dX3_addFast_7 : decode cX3_addFast 7 = .ok (.if_icmp .ge 23, 3) := by decide +kernel
theorem dX3_addFast_10 : decode cX3_addFast 10 = .ok (.aload_n 0, 1) := by decide +kernel
theorem dX3_addFast_11 : decode cX3_addFast 11 = .ok (.getfield 22, 3) := by decide +kernel
theorem dX3_addFast_14 : decode cX3_addFast 14 = .ok (.aload_n 0, 1) := by decide +kernel
theorem dX3_addFast_15 : decode cX3_addFast 15 = .ok (.getfield 68, 3) := by decide +kernel
theorem dX3_addFast_18 : decode cX3_addFast 18 = .ok (.lload_n 1, 1) := by decide +kernel
theorem dX3_addFast_19 : decode cX3_addFast 19 = .ok (.lastore, 1) := by decide +kernel
theorem dX3_addFast_20 : decode cX3_addFast 20 = .ok (.aload_n 0, 1) := by decide +kernel
theorem dX3_addFast_21 : decode cX3_addFast 21 = .ok (.dup, 1) := by decide +kernel
theorem dX3_addFast_22 : decode cX3_addFast 22 = .ok (.getfield 68, 3) := by decide +kernel
theorem dX3_addFast_25 : decode cX3_addFast 25 = .ok (.iconst 1, 1) := by decide +kernel
theorem dX3_addFast_26 : decode cX3_addFast 26 = .ok (.iadd, 1) := by decide +kernel
theorem dX3_addFast_27 : decode cX3_addFast 27 = .ok (.putfield 68, 3) := by decide +kernel
theorem dX3_addFast_30 : decode cX3_addFast 30 = .ok (.return_, 1) := by decide +kernel
set_option maxRecDepth 20000 in
theorem ggX3_findLoose_X2_add : GoodIn wsX3_findLoose wsX2_add := goodIn_r _ [10, 11, 12, 13, 14, 15, 16, 17, 9, 18, 23, 24, 25, 26] (by decide +kernel) (by decide +kernel)
set_option maxRecDepth 20000 in
theorem gX3_findLoose_X2_add : GoodIn wsX3_findLoose (wsV RX3 76 RX2 yX2_add wsX2_add) := goodIn_app (goodIn_of _ (by decide +kernel)) ggX3_findLoose_X2_add
theorem dX3_findLoose_0 : decode cX3_findLoose 0 = .ok (.aload_n 0, 1) := by decide +kernel
theorem dX3_findLoose_1 : decode cX3_findLoose 1 = .ok (.getfield 12, 3) := by decide +kernel
theorem dX3_findLoose_4 : decode cX3_findLoose 4 = .ok (.iconst 0, 1) := by decide +kernel
theorem dX3_findLoose_5 : decode cX3_findLoose 5 = .ok (.putfield 32, 3) := by decide +kernel
theorem dX3_findLoose_8 : decode cX3_findLoose 8 = .ok (.iconst 0, 1) := by decide +kernel
theorem dX3_findLoose_9 : decode cX3_findLoose 9 = .ok (.istore_n 2, 1) := by decide +kernel
theorem dX3_findLoose_10 : decode cX3_findLoose 10 = .ok (.iload_n 2, 1) := by decide +kernel
theorem dX3_findLoose_11 : decode cX3_findLoose 11 = .ok (.aload_n 1, 1) := by decide +kernel
theorem dX3_findLoose_12 : decode cX3_findLoose 12 = .ok (.getfield 71, 3) := by decide +kernel
theorem dX3_findLoose_15 : decode cX3_findLoose 15 = .ok (.if_icmp .ge 49, 3) := by decide +kernel
theorem dX3_findLoose_18 : decode cX3_findLoose 18 = .ok (.aload_n 1, 1) := by decide +kernel
theorem dX3_findLoose_19 : decode cX3_findLoose 19 = .ok (.getfield 40, 3) := by decide +kernel
theorem dX3_findLoose_22 : decode cX3_findLoose 22 = .ok (.iconst 0, 1) := by decide +kernel
theorem dX3_findLoose_23 : decode cX3_findLoose 23 = .ok (.aaload, 1) := by decide +kernel
theorem dX3_findLoose_24 : decode cX3_findLoose 24 = .ok (.iload_n 2, 1) := by decide +kernel
theorem dX3_findLoose_25 : decode cX3_findLoose 25 = .ok (.laload, 1) := by decide +kernel
theorem dX3_findLoose_26 : decode cX3_findLoose 26 = .ok (.ldc2_w 74, 3) := by decide +kernel
theorem dX3_findLoose_29 : decode cX3_findLoose 29 = .ok (.lcmp, 1) := by decide +kernel
theorem dX3_findLoose_30 : decode cX3_findLoose 30 = .ok (.ifCond .ne 28, 3) := by decide +kernel
theorem dX3_findLoose_33 : decode cX3_findLoose 33 = .ok (.aload_n 0, 1) := by decide +kernel
theorem dX3_findLoose_34 : decode cX3_findLoose 34 = .ok (.getfield 12, 3) := by decide +kernel
theorem dX3_findLoose_37 : decode cX3_findLoose 37 = .ok (.iload_n 2, 1) := by decide +kernel
theorem dX3_findLoose_38 : decode cX3_findLoose 38 = .ok (.aload_n 1, 1) := by decide +kernel
theorem dX3_findLoose_39 : decode cX3_findLoose 39 = .ok (.getfield 40, 3) := by decide +kernel
theorem dX3_findLoose_42 : decode cX3_findLoose 42 = .ok (.iconst 2, 1) := by decide +kernel
theorem dX3_findLoose_43 : decode cX3_findLoose 43 = .ok (.aaload, 1) := by decide +kernel
theorem dX3_findLoose_44 : decode cX3_findLoose 44 = .ok (.iload_n 2, 1) := by decide +kernel
theorem dX3_findLoose_45 : decode cX3_findLoose 45 = .ok (.laload, 1) := by decide +kernel
theorem dX3_findLoose_46 : decode cX3_findLoose 46 = .ok (.aload_n 1, 1) := by decide +kernel
theorem dX3_findLoose_47 : decode cX3_findLoose 47 = .ok (.getfield 40, 3) := by decide +kernel
theorem dX3_findLoose_50 : decode cX3_findLoose 50 = .ok (.bipush 8, 2) := by decide +kernel
theorem dX3_findLoose_52 : decode cX3_findLoose 52 = .ok (.aaload, 1) := by decide +kernel
theorem dX3_findLoose_53 : decode cX3_findLoose 53 = .ok (.iload_n 2, 1) := by decide +kernel
theorem dX3_findLoose_54 : decode cX3_findLoose 54 = .ok (.laload, 1) := by decide +kernel
theorem dX3_findLoose_55 : decode cX3_findLoose 55 = .ok (.invokevirtual 76, 3) := by decide +kernel
theorem dX3_findLoose_58 : decode cX3_findLoose 58 = .ok (.iinc 2 1, 3) := by decide +kernel
theorem dX3_findLoose_61 : decode cX3_findLoose 61 = .ok (.goto (-51), 3) := by decide +kernel
theorem dX3_findLoose_64 : decode cX3_findLoose 64 = .ok (.return_, 1) := by decide +kernel
theorem dX3_leastFast_0 : decode cX3_leastFast 0 = .ok (.ldc2_w 58, 3) := by decide +kernel
theorem dX3_leastFast_3 : decode cX3_leastFast 3 = .ok (.lstore 5, 2) := by decide +kernel
theorem dX3_leastFast_5 : decode cX3_leastFast 5 = .ok (.iconst 0, 1) := by decide +kernel
theorem dX3_leastFast_6 : decode cX3_leastFast 6 = .ok (.istore 7, 2) := by decide +kernel
theorem dX3_leastFast_8 : decode cX3_leastFast 8 = .ok (.iload 7, 2) := by decide +kernel
theorem dX3_leastFast_10 : decode cX3_leastFast 10 = .ok (.aload_n 0, 1) := by decide +kernel
theorem dX3_leastFast_11 : decode cX3_leastFast 11 = .ok (.getfield 68, 3) := by decide +kernel
theorem dX3_leastFast_14 : decode cX3_leastFast 14 = .ok (.if_icmp .ge 64, 3) := by decide +kernel
theorem dX3_leastFast_17 : decode cX3_leastFast 17 = .ok (.aload_n 0, 1) := by decide +kernel
theorem dX3_leastFast_18 : decode cX3_leastFast 18 = .ok (.getfield 22, 3) := by decide +kernel
theorem dX3_leastFast_21 : decode cX3_leastFast 21 = .ok (.iload 7, 2) := by decide +kernel
theorem dX3_leastFast_23 : decode cX3_leastFast 23 = .ok (.laload, 1) := by decide +kernel
theorem dX3_leastFast_24 : decode cX3_leastFast 24 = .ok (.lload_n 1, 1) := by decide +kernel
theorem dX3_leastFast_25 : decode cX3_leastFast 25 = .ok (.lcmp, 1) := by decide +kernel
theorem dX3_leastFast_26 : decode cX3_leastFast 26 = .ok (.ifCond .lt 46, 3) := by decide +kernel
theorem dX3_leastFast_29 : decode cX3_leastFast 29 = .ok (.aload_n 0, 1) := by decide +kernel
theorem dX3_leastFast_30 : decode cX3_leastFast 30 = .ok (.getfield 22, 3) := by decide +kernel
theorem dX3_leastFast_33 : decode cX3_leastFast 33 = .ok (.iload 7, 2) := by decide +kernel
theorem dX3_leastFast_35 : decode cX3_leastFast 35 = .ok (.laload, 1) := by decide +kernel
theorem dX3_leastFast_36 : decode cX3_leastFast 36 = .ok (.lload_n 3, 1) := by decide +kernel
theorem dX3_leastFast_37 : decode cX3_leastFast 37 = .ok (.lcmp, 1) := by decide +kernel
theorem dX3_leastFast_38 : decode cX3_leastFast 38 = .ok (.ifCond .gt 34, 3) := by decide +kernel
theorem dX3_leastFast_41 : decode cX3_leastFast 41 = .ok (.lload 5, 2) := by decide +kernel
theorem dX3_leastFast_43 : decode cX3_leastFast 43 = .ok (.ldc2_w 58, 3) := by decide +kernel
theorem dX3_leastFast_46 : decode cX3_leastFast 46 = .ok (.lcmp, 1) := by decide +kernel
theorem dX3_leastFast_47 : decode cX3_leastFast 47 = .ok (.ifCond .eq 16, 3) := by decide +kernel
theorem dX3_leastFast_50 : decode cX3_leastFast 50 = .ok (.aload_n 0, 1) := by decide +kernel
theorem dX3_leastFast_51 : decode cX3_leastFast 51 = .ok (.getfield 22, 3) := by decide +kernel
theorem dX3_leastFast_54 : decode cX3_leastFast 54 = .ok (.iload 7, 2) := by decide +kernel
theorem dX3_leastFast_56 : decode cX3_leastFast 56 = .ok (.laload, 1) := by decide +kernel
theorem dX3_leastFast_57 : decode cX3_leastFast 57 = .ok (.lload 5, 2) := by decide +kernel
theorem dX3_leastFast_59 : decode cX3_leastFast 59 = .ok (.lcmp, 1) := by decide +kernel
theorem dX3_leastFast_60 : decode cX3_leastFast 60 = .ok (.ifCond .ge 12, 3) := by decide +kernel
theorem dX3_leastFast_63 : decode cX3_leastFast 63 = .ok (.aload_n 0, 1) := by decide +kernel
theorem dX3_leastFast_64 : decode cX3_leastFast 64 = .ok (.getfield 22, 3) := by decide +kernel
theorem dX3_leastFast_67 : decode cX3_leastFast 67 = .ok (.iload 7, 2) := by decide +kernel
theorem dX3_leastFast_69 : decode cX3_leastFast 69 = .ok (.laload, 1) := by decide +kernel
theorem dX3_leastFast_70 : decode cX3_leastFast 70 = .ok (.lstore 5, 2) := by decide +kernel
theorem dX3_leastFast_72 : decode cX3_leastFast 72 = .ok (.iinc 7 1, 3) := by decide +kernel
theorem dX3_leastFast_75 : decode cX3_leastFast 75 = .ok (.goto (-67), 3) := by decide +kernel
theorem dX3_leastFast_78 : decode cX3_leastFast 78 = .ok (.lload 5, 2) := by decide +kernel
theorem dX3_leastFast_80 : decode cX3_leastFast 80 = .ok (.lreturn, 1) := by decide +kernel
