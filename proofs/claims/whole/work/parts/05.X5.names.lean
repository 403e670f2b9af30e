theorem dX5_wheelOf_0 : decode cX5_wheelOf 0 = .ok (.iconst 0, 1) := by decide +kernel
theorem dX5_wheelOf_1 : decode cX5_wheelOf 1 = .ok (.istore 4, 2) := by decide +kernel
theorem dX5_wheelOf_3 : decode cX5_wheelOf 3 = .ok (.iload 4, 2) := by decide +kernel
theorem dX5_wheelOf_5 : decode cX5_wheelOf 5 = .ok (.iconst 5, 1) := by decide +kernel
theorem dX5_wheelOf_6 : decode cX5_wheelOf 6 = .ok (.if_icmp .ge 33, 3) := by decide +kernel
theorem dX5_wheelOf_9 : decode cX5_wheelOf 9 = .ok (.bipush 6, 2) := by decide +kernel
theorem dX5_wheelOf_11 : decode cX5_wheelOf 11 = .ok (.iload 4, 2) := by decide +kernel
theorem dX5_wheelOf_13 : decode cX5_wheelOf 13 = .ok (.iconst 1, 1) := by decide +kernel
theorem dX5_wheelOf_14 : decode cX5_wheelOf 14 = .ok (.iadd, 1) := by decide +kernel
theorem dX5_wheelOf_15 : decode cX5_wheelOf 15 = .ok (.imul, 1) := by decide +kernel
theorem dX5_wheelOf_16 : decode cX5_wheelOf 16 = .ok (.istore 5, 2) := by decide +kernel
theorem dX5_wheelOf_18 : decode cX5_wheelOf 18 = .ok (.lload_n 0, 1) := by decide +kernel
theorem dX5_wheelOf_19 : decode cX5_wheelOf 19 = .ok (.iload 5, 2) := by decide +kernel
theorem dX5_wheelOf_21 : decode cX5_wheelOf 21 = .ok (.lshr, 1) := by decide +kernel
theorem dX5_wheelOf_22 : decode cX5_wheelOf 22 = .ok (.lload_n 2, 1) := by decide +kernel
theorem dX5_wheelOf_23 : decode cX5_wheelOf 23 = .ok (.iload 5, 2) := by decide +kernel
theorem dX5_wheelOf_25 : decode cX5_wheelOf 25 = .ok (.lshr, 1) := by decide +kernel
theorem dX5_wheelOf_26 : decode cX5_wheelOf 26 = .ok (.lcmp, 1) := by decide +kernel
theorem dX5_wheelOf_27 : decode cX5_wheelOf 27 = .ok (.ifCond .ne 6, 3) := by decide +kernel
theorem dX5_wheelOf_30 : decode cX5_wheelOf 30 = .ok (.iload 4, 2) := by decide +kernel
theorem dX5_wheelOf_32 : decode cX5_wheelOf 32 = .ok (.ireturn, 1) := by decide +kernel
theorem dX5_wheelOf_33 : decode cX5_wheelOf 33 = .ok (.iinc 4 1, 3) := by decide +kernel
theorem dX5_wheelOf_36 : decode cX5_wheelOf 36 = .ok (.goto (-33), 3) := by decide +kernel
theorem dX5_wheelOf_39 : decode cX5_wheelOf 39 = .ok (.iconst 5, 1) := by decide +kernel
theorem dX5_wheelOf_40 : decode cX5_wheelOf 40 = .ok (.ireturn, 1) := by decide +kernel
theorem dX5_slotOf_0 : decode cX5_slotOf 0 = .ok (.iload_n 0, 1) := by decide +kernel
theorem dX5_slotOf_1 : decode cX5_slotOf 1 = .ok (.iconst 5, 1) := by decide +kernel
theorem dX5_slotOf_2 : decode cX5_slotOf 2 = .ok (.if_icmp .lt 7, 3) := by decide +kernel
theorem dX5_slotOf_5 : decode cX5_slotOf 5 = .ok (.iconst 0, 1) := by decide +kernel
theorem dX5_slotOf_6 : decode cX5_slotOf 6 = .ok (.goto 14, 3) := by decide +kernel
theorem dX5_slotOf_9 : decode cX5_slotOf 9 = .ok (.lload_n 1, 1) := by decide +kernel
theorem dX5_slotOf_10 : decode cX5_slotOf 10 = .ok (.bipush 6, 2) := by decide +kernel
theorem dX5_slotOf_12 : decode cX5_slotOf 12 = .ok (.iload_n 0, 1) := by decide +kernel
theorem dX5_slotOf_13 : decode cX5_slotOf 13 = .ok (.imul, 1) := by decide +kernel
theorem dX5_slotOf_14 : decode cX5_slotOf 14 = .ok (.lshr, 1) := by decide +kernel
theorem dX5_slotOf_15 : decode cX5_slotOf 15 = .ok (.ldc2_w 9, 3) := by decide +kernel
theorem dX5_slotOf_18 : decode cX5_slotOf 18 = .ok (.land, 1) := by decide +kernel
theorem dX5_slotOf_19 : decode cX5_slotOf 19 = .ok (.l2i, 1) := by decide +kernel
theorem dX5_slotOf_20 : decode cX5_slotOf 20 = .ok (.ireturn, 1) := by decide +kernel
theorem dX5_isSlot_0 : decode cX5_isSlot 0 = .ok (.iload_n 0, 1) := by decide +kernel
theorem dX5_isSlot_1 : decode cX5_isSlot 1 = .ok (.iconst 5, 1) := by decide +kernel
theorem dX5_isSlot_2 : decode cX5_isSlot 2 = .ok (.if_icmp .ne 13, 3) := by decide +kernel
theorem dX5_isSlot_5 : decode cX5_isSlot 5 = .ok (.iload_n 1, 1) := by decide +kernel
theorem dX5_isSlot_6 : decode cX5_isSlot 6 = .ok (.ifCond .ne 7, 3) := by decide +kernel
theorem dX5_isSlot_9 : decode cX5_isSlot 9 = .ok (.iconst 1, 1) := by decide +kernel
theorem dX5_isSlot_10 : decode cX5_isSlot 10 = .ok (.goto 4, 3) := by decide +kernel
theorem dX5_isSlot_13 : decode cX5_isSlot 13 = .ok (.iconst 0, 1) := by decide +kernel
theorem dX5_isSlot_14 : decode cX5_isSlot 14 = .ok (.ireturn, 1) := by decide +kernel
theorem dX5_isSlot_15 : decode cX5_isSlot 15 = .ok (.iload_n 0, 1) := by decide +kernel
theorem dX5_isSlot_16 : decode cX5_isSlot 16 = .ok (.ifCond .lt 22, 3) := by decide +kernel
theorem dX5_isSlot_19 : decode cX5_isSlot 19 = .ok (.iload_n 0, 1) := by decide +kernel
theorem dX5_isSlot_20 : decode cX5_isSlot 20 = .ok (.iconst 5, 1) := by decide +kernel
theorem dX5_isSlot_21 : decode cX5_isSlot 21 = .ok (.if_icmp .ge 17, 3) := by decide +kernel
theorem dX5_isSlot_24 : decode cX5_isSlot 24 = .ok (.iload_n 1, 1) := by decide +kernel
theorem dX5_isSlot_25 : decode cX5_isSlot 25 = .ok (.ifCond .lt 13, 3) := by decide +kernel
theorem dX5_isSlot_28 : decode cX5_isSlot 28 = .ok (.iload_n 1, 1) := by decide +kernel
theorem dX5_isSlot_29 : decode cX5_isSlot 29 = .ok (.bipush 64, 2) := by decide +kernel
theorem dX5_isSlot_31 : decode cX5_isSlot 31 = .ok (.if_icmp .ge 7, 3) := by decide +kernel
theorem dX5_isSlot_34 : decode cX5_isSlot 34 = .ok (.iconst 1, 1) := by decide +kernel
theorem dX5_isSlot_35 : decode cX5_isSlot 35 = .ok (.goto 4, 3) := by decide +kernel
theorem dX5_isSlot_38 : decode cX5_isSlot 38 = .ok (.iconst 0, 1) := by decide +kernel
theorem dX5_isSlot_39 : decode cX5_isSlot 39 = .ok (.ireturn, 1) := by decide +kernel
set_option maxRecDepth 20000 in
theorem ggX5_movesDown_X5_wheelOf : GoodIn wsX5_movesDown wsX5_wheelOf := goodIn_r _ [4] (by decide +kernel) (by decide +kernel)
set_option maxRecDepth 20000 in
theorem gX5_movesDown_X5_wheelOf : GoodIn wsX5_movesDown (va_wsS RX5 11 yX5_wheelOf wsX5_wheelOf) := goodIn_app (goodIn_of _ (by decide +kernel)) ggX5_movesDown_X5_wheelOf
theorem dX5_movesDown_0 : decode cX5_movesDown 0 = .ok (.lload_n 0, 1) := by decide +kernel
theorem dX5_movesDown_1 : decode cX5_movesDown 1 = .ok (.lload 4, 2) := by decide +kernel
theorem dX5_movesDown_3 : decode cX5_movesDown 3 = .ok (.invokestatic 11, 3) := by decide +kernel
theorem dX5_movesDown_6 : decode cX5_movesDown 6 = .ok (.istore 6, 2) := by decide +kernel
theorem dX5_movesDown_8 : decode cX5_movesDown 8 = .ok (.iconst 0, 1) := by decide +kernel
theorem dX5_movesDown_9 : decode cX5_movesDown 9 = .ok (.istore 7, 2) := by decide +kernel
theorem dX5_movesDown_11 : decode cX5_movesDown 11 = .ok (.iconst 0, 1) := by decide +kernel
theorem dX5_movesDown_12 : decode cX5_movesDown 12 = .ok (.istore 8, 2) := by decide +kernel
theorem dX5_movesDown_14 : decode cX5_movesDown 14 = .ok (.iload 8, 2) := by decide +kernel
theorem dX5_movesDown_16 : decode cX5_movesDown 16 = .ok (.iconst 5, 1) := by decide +kernel
theorem dX5_movesDown_17 : decode cX5_movesDown 17 = .ok (.if_icmp .ge 53, 3) := by decide +kernel
theorem dX5_movesDown_20 : decode cX5_movesDown 20 = .ok (.iload 6, 2) := by decide +kernel
theorem dX5_movesDown_22 : decode cX5_movesDown 22 = .ok (.ifCond .le 48, 3) := by decide +kernel
theorem dX5_movesDown_25 : decode cX5_movesDown 25 = .ok (.bipush 6, 2) := by decide +kernel
theorem dX5_movesDown_27 : decode cX5_movesDown 27 = .ok (.iload 6, 2) := by decide +kernel
theorem dX5_movesDown_29 : decode cX5_movesDown 29 = .ok (.imul, 1) := by decide +kernel
theorem dX5_movesDown_30 : decode cX5_movesDown 30 = .ok (.istore 9, 2) := by decide +kernel
theorem dX5_movesDown_32 : decode cX5_movesDown 32 = .ok (.lload 4, 2) := by decide +kernel
theorem dX5_movesDown_34 : decode cX5_movesDown 34 = .ok (.iload 9, 2) := by decide +kernel
theorem dX5_movesDown_36 : decode cX5_movesDown 36 = .ok (.lshr, 1) := by decide +kernel
theorem dX5_movesDown_37 : decode cX5_movesDown 37 = .ok (.iload 9, 2) := by decide +kernel
theorem dX5_movesDown_39 : decode cX5_movesDown 39 = .ok (.lshl, 1) := by decide +kernel
theorem dX5_movesDown_40 : decode cX5_movesDown 40 = .ok (.lstore 10, 2) := by decide +kernel
theorem dX5_movesDown_42 : decode cX5_movesDown 42 = .ok (.lload 10, 2) := by decide +kernel
theorem dX5_movesDown_44 : decode cX5_movesDown 44 = .ok (.lload_n 2, 1) := by decide +kernel
theorem dX5_movesDown_45 : decode cX5_movesDown 45 = .ok (.lcmp, 1) := by decide +kernel
theorem dX5_movesDown_46 : decode cX5_movesDown 46 = .ok (.ifCond .le 6, 3) := by decide +kernel
theorem dX5_movesDown_49 : decode cX5_movesDown 49 = .ok (.goto 21, 3) := by decide +kernel
theorem dX5_movesDown_52 : decode cX5_movesDown 52 = .ok (.lload 10, 2) := by decide +kernel
theorem dX5_movesDown_54 : decode cX5_movesDown 54 = .ok (.lload 4, 2) := by decide +kernel
theorem dX5_movesDown_56 : decode cX5_movesDown 56 = .ok (.invokestatic 11, 3) := by decide +kernel
theorem dX5_movesDown_59 : decode cX5_movesDown 59 = .ok (.istore 6, 2) := by decide +kernel
theorem dX5_movesDown_61 : decode cX5_movesDown 61 = .ok (.iinc 7 1, 3) := by decide +kernel
theorem dX5_movesDown_64 : decode cX5_movesDown 64 = .ok (.iinc 8 1, 3) := by decide +kernel
theorem dX5_movesDown_67 : decode cX5_movesDown 67 = .ok (.goto (-53), 3) := by decide +kernel
theorem dX5_movesDown_70 : decode cX5_movesDown 70 = .ok (.iload 7, 2) := by decide +kernel
theorem dX5_movesDown_72 : decode cX5_movesDown 72 = .ok (.ireturn, 1) := by decide +kernel
