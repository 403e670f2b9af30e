theorem dX2_init_0 : decode cX2_init 0 = .ok (.aload_n 0, 1) := by decide +kernel
theorem dX2_init_1 : decode cX2_init 1 = .ok (.invokespecial 3, 3) := by decide +kernel
theorem dX2_init_4 : decode cX2_init 4 = .ok (.aload_n 0, 1) := by decide +kernel
theorem dX2_init_5 : decode cX2_init 5 = .ok (.sipush 200, 3) := by decide +kernel
theorem dX2_init_8 : decode cX2_init 8 = .ok (.newarray .int, 2) := by decide +kernel
theorem dX2_init_10 : decode cX2_init 10 = .ok (.putfield 9, 3) := by decide +kernel
theorem dX2_init_13 : decode cX2_init 13 = .ok (.aload_n 0, 1) := by decide +kernel
theorem dX2_init_14 : decode cX2_init 14 = .ok (.sipush 200, 3) := by decide +kernel
theorem dX2_init_17 : decode cX2_init 17 = .ok (.newarray .long, 2) := by decide +kernel
theorem dX2_init_19 : decode cX2_init 19 = .ok (.putfield 15, 3) := by decide +kernel
theorem dX2_init_22 : decode cX2_init 22 = .ok (.aload_n 0, 1) := by decide +kernel
theorem dX2_init_23 : decode cX2_init 23 = .ok (.sipush 200, 3) := by decide +kernel
theorem dX2_init_26 : decode cX2_init 26 = .ok (.newarray .long, 2) := by decide +kernel
theorem dX2_init_28 : decode cX2_init 28 = .ok (.putfield 19, 3) := by decide +kernel
theorem dX2_init_31 : decode cX2_init 31 = .ok (.return_, 1) := by decide +kernel
set_option maxRecDepth 20000 in
theorem ggX2_add_X2_isAhead : GoodIn wsX2_add wsX2_isAhead := goodIn_r _ [9, 3, 4, 10, 11, 12, 13] (by decide +kernel) (by decide +kernel)
set_option maxRecDepth 20000 in
theorem gX2_add_X2_isAhead : GoodIn wsX2_add (wsV RX2 26 RX2 yX2_isAhead wsX2_isAhead) := goodIn_app (goodIn_of _ (by decide +kernel)) ggX2_add_X2_isAhead
theorem dX2_add_0 : decode cX2_add 0 = .ok (.aload_n 0, 1) := by decide +kernel
theorem dX2_add_1 : decode cX2_add 1 = .ok (.getfield 22, 3) := by decide +kernel
theorem dX2_add_4 : decode cX2_add 4 = .ok (.sipush 200, 3) := by decide +kernel
theorem dX2_add_7 : decode cX2_add 7 = .ok (.if_icmp .lt 4, 3) := by decide +kernel
theorem dX2_add_10 : decode cX2_add 10 = .ok (.return_, 1) := by decide +kernel
theorem dX2_add_11 : decode cX2_add 11 = .ok (.aload_n 0, 1) := by decide +kernel
theorem dX2_add_12 : decode cX2_add 12 = .ok (.getfield 22, 3) := by decide +kernel
theorem dX2_add_15 : decode cX2_add 15 = .ok (.istore 6, 2) := by decide +kernel
theorem dX2_add_17 : decode cX2_add 17 = .ok (.iload 6, 2) := by decide +kernel
theorem dX2_add_19 : decode cX2_add 19 = .ok (.ifCond .le 71, 3) := by decide +kernel
theorem dX2_add_22 : decode cX2_add 22 = .ok (.aload_n 0, 1) := by decide +kernel
theorem dX2_add_23 : decode cX2_add 23 = .ok (.lload_n 2, 1) := by decide +kernel
theorem dX2_add_24 : decode cX2_add 24 = .ok (.lload 4, 2) := by decide +kernel
theorem dX2_add_26 : decode cX2_add 26 = .ok (.iload 6, 2) := by decide +kernel
theorem dX2_add_28 : decode cX2_add 28 = .ok (.iconst 1, 1) := by decide +kernel
theorem dX2_add_29 : decode cX2_add 29 = .ok (.isub, 1) := by decide +kernel
theorem dX2_add_30 : decode cX2_add 30 = .ok (.invokevirtual 26, 3) := by decide +kernel
theorem dX2_add_33 : decode cX2_add 33 = .ok (.ifCond .eq 57, 3) := by decide +kernel
theorem dX2_add_36 : decode cX2_add 36 = .ok (.aload_n 0, 1) := by decide +kernel
theorem dX2_add_37 : decode cX2_add 37 = .ok (.getfield 9, 3) := by decide +kernel
theorem dX2_add_40 : decode cX2_add 40 = .ok (.iload 6, 2) := by decide +kernel
theorem dX2_add_42 : decode cX2_add 42 = .ok (.aload_n 0, 1) := by decide +kernel
theorem dX2_add_43 : decode cX2_add 43 = .ok (.getfield 9, 3) := by decide +kernel
theorem dX2_add_46 : decode cX2_add 46 = .ok (.iload 6, 2) := by decide +kernel
theorem dX2_add_48 : decode cX2_add 48 = .ok (.iconst 1, 1) := by decide +kernel
theorem dX2_add_49 : decode cX2_add 49 = .ok (.isub, 1) := by decide +kernel
theorem dX2_add_50 : decode cX2_add 50 = .ok (.iaload, 1) := by decide +kernel
theorem dX2_add_51 : decode cX2_add 51 = .ok (.iastore, 1) := by decide +kernel
theorem dX2_add_52 : decode cX2_add 52 = .ok (.aload_n 0, 1) := by decide +kernel
theorem dX2_add_53 : decode cX2_add 53 = .ok (.getfield 15, 3) := by decide +kernel
theorem dX2_add_56 : decode cX2_add 56 = .ok (.iload 6, 2) := by decide +kernel
theorem dX2_add_58 : decode cX2_add 58 = .ok (.aload_n 0, 1) := by decide +kernel
theorem dX2_add_59 : decode cX2_add 59 = .ok (.getfield 15, 3) := by decide +kernel
theorem dX2_add_62 : decode cX2_add 62 = .ok (.iload 6, 2) := by decide +kernel
theorem dX2_add_64 : decode cX2_add 64 = .ok (.iconst 1, 1) := by decide +kernel
theorem dX2_add_65 : decode cX2_add 65 = .ok (.isub, 1) := by decide +kernel
theorem dX2_add_66 : decode cX2_add 66 = .ok (.laload, 1) := by decide +kernel
theorem dX2_add_67 : decode cX2_add 67 = .ok (.lastore, 1) := by decide +kernel
theorem dX2_add_68 : decode cX2_add 68 = .ok (.aload_n 0, 1) := by decide +kernel
theorem dX2_add_69 : decode cX2_add 69 = .ok (.getfield 19, 3) := by decide +kernel
theorem dX2_add_72 : decode cX2_add 72 = .ok (.iload 6, 2) := by decide +kernel
theorem dX2_add_74 : decode cX2_add 74 = .ok (.aload_n 0, 1) := by decide +kernel
theorem dX2_add_75 : decode cX2_add 75 = .ok (.getfield 19, 3) := by decide +kernel
theorem dX2_add_78 : decode cX2_add 78 = .ok (.iload 6, 2) := by decide +kernel
theorem dX2_add_80 : decode cX2_add 80 = .ok (.iconst 1, 1) := by decide +kernel
theorem dX2_add_81 : decode cX2_add 81 = .ok (.isub, 1) := by decide +kernel
theorem dX2_add_82 : decode cX2_add 82 = .ok (.laload, 1) := by decide +kernel
theorem dX2_add_83 : decode cX2_add 83 = .ok (.lastore, 1) := by decide +kernel
theorem dX2_add_84 : decode cX2_add 84 = .ok (.iinc 6 (-1), 3) := by decide +kernel
theorem dX2_add_87 : decode cX2_add 87 = .ok (.goto (-70), 3) := by decide +kernel
theorem dX2_add_90 : decode cX2_add 90 = .ok (.aload_n 0, 1) := by decide +kernel
theorem dX2_add_91 : decode cX2_add 91 = .ok (.getfield 9, 3) := by decide +kernel
theorem dX2_add_94 : decode cX2_add 94 = .ok (.iload 6, 2) := by decide +kernel
theorem dX2_add_96 : decode cX2_add 96 = .ok (.iload_n 1, 1) := by decide +kernel
theorem dX2_add_97 : decode cX2_add 97 = .ok (.iastore, 1) := by decide +kernel
theorem dX2_add_98 : decode cX2_add 98 = .ok (.aload_n 0, 1) := by decide +kernel
theorem dX2_add_99 : decode cX2_add 99 = .ok (.getfield 15, 3) := by decide +kernel
theorem dX2_add_102 : decode cX2_add 102 = .ok (.iload 6, 2) := by decide +kernel
theorem dX2_add_104 : decode cX2_add 104 = .ok (.lload_n 2, 1) := by decide +kernel
theorem dX2_add_105 : decode cX2_add 105 = .ok (.lastore, 1) := by decide +kernel
theorem dX2_add_106 : decode cX2_add 106 = .ok (.aload_n 0, 1) := by decide +kernel
theorem dX2_add_107 : decode cX2_add 107 = .ok (.getfield 19, 3) := by decide +kernel
theorem dX2_add_110 : decode cX2_add 110 = .ok (.iload 6, 2) := by decide +kernel
theorem dX2_add_112 : decode cX2_add 112 = .ok (.lload 4, 2) := by decide +kernel
theorem dX2_add_114 : decode cX2_add 114 = .ok (.lastore, 1) := by decide +kernel
theorem dX2_add_115 : decode cX2_add 115 = .ok (.aload_n 0, 1) := by decide +kernel
theorem dX2_add_116 : decode cX2_add 116 = .ok (.dup, 1) := by decide +kernel
theorem dX2_add_117 : decode cX2_add 117 = .ok (.getfield 22, 3) := by decide +kernel
theorem dX2_add_120 : decode cX2_add 120 = .ok (.iconst 1, 1) := by decide +kernel
theorem dX2_add_121 : decode cX2_add 121 = .ok (.iadd, 1) := by decide +kernel
theorem dX2_add_122 : decode cX2_add 122 = .ok (.putfield 22, 3) := by decide +kernel
theorem dX2_add_125 : decode cX2_add 125 = .ok (.return_, 1) := by decide +kernel
theorem dX2_isAhead_0 : decode cX2_isAhead 0 = .ok (.lload_n 1, 1) := by decide +kernel
theorem dX2_isAhead_1 : decode cX2_isAhead 1 = .ok (.aload_n 0, 1) := by decide +kernel
theorem dX2_isAhead_2 : decode cX2_isAhead 2 = .ok (.getfield 15, 3) := by decide +kernel
theorem dX2_isAhead_5 : decode cX2_isAhead 5 = .ok (.iload 5, 2) := by decide +kernel
theorem dX2_isAhead_7 : decode cX2_isAhead 7 = .ok (.laload, 1) := by decide +kernel
theorem dX2_isAhead_8 : decode cX2_isAhead 8 = .ok (.lcmp, 1) := by decide +kernel
theorem dX2_isAhead_9 : decode cX2_isAhead 9 = .ok (.ifCond .lt 27, 3) := by decide +kernel
theorem dX2_isAhead_12 : decode cX2_isAhead 12 = .ok (.lload_n 1, 1) := by decide +kernel
theorem dX2_isAhead_13 : decode cX2_isAhead 13 = .ok (.aload_n 0, 1) := by decide +kernel
theorem dX2_isAhead_14 : decode cX2_isAhead 14 = .ok (.getfield 15, 3) := by decide +kernel
theorem dX2_isAhead_17 : decode cX2_isAhead 17 = .ok (.iload 5, 2) := by decide +kernel
theorem dX2_isAhead_19 : decode cX2_isAhead 19 = .ok (.laload, 1) := by decide +kernel
theorem dX2_isAhead_20 : decode cX2_isAhead 20 = .ok (.lcmp, 1) := by decide +kernel
theorem dX2_isAhead_21 : decode cX2_isAhead 21 = .ok (.ifCond .ne 19, 3) := by decide +kernel
theorem dX2_isAhead_24 : decode cX2_isAhead 24 = .ok (.lload_n 3, 1) := by decide +kernel
theorem dX2_isAhead_25 : decode cX2_isAhead 25 = .ok (.aload_n 0, 1) := by decide +kernel
theorem dX2_isAhead_26 : decode cX2_isAhead 26 = .ok (.getfield 19, 3) := by decide +kernel
theorem dX2_isAhead_29 : decode cX2_isAhead 29 = .ok (.iload 5, 2) := by decide +kernel
theorem dX2_isAhead_31 : decode cX2_isAhead 31 = .ok (.laload, 1) := by decide +kernel
theorem dX2_isAhead_32 : decode cX2_isAhead 32 = .ok (.lcmp, 1) := by decide +kernel
theorem dX2_isAhead_33 : decode cX2_isAhead 33 = .ok (.ifCond .ge 7, 3) := by decide +kernel
theorem dX2_isAhead_36 : decode cX2_isAhead 36 = .ok (.iconst 1, 1) := by decide +kernel
theorem dX2_isAhead_37 : decode cX2_isAhead 37 = .ok (.goto 4, 3) := by decide +kernel
theorem dX2_isAhead_40 : decode cX2_isAhead 40 = .ok (.iconst 0, 1) := by decide +kernel
theorem dX2_isAhead_41 : decode cX2_isAhead 41 = .ok (.ireturn, 1) := by decide +kernel
