theorem dX1_init_0 : decode cX1_init 0 = .ok (.aload_n 0, 1) := by decide +kernel
theorem dX1_init_1 : decode cX1_init 1 = .ok (.invokespecial 3, 3) := by decide +kernel
theorem dX1_init_4 : decode cX1_init 4 = .ok (.aload_n 0, 1) := by decide +kernel
theorem dX1_init_5 : decode cX1_init 5 = .ok (.bipush 6, 2) := by decide +kernel
theorem dX1_init_7 : decode cX1_init 7 = .ok (.anewarray 9, 3) := by decide +kernel
theorem dX1_init_10 : decode cX1_init 10 = .ok (.putfield 11, 3) := by decide +kernel
theorem dX1_init_13 : decode cX1_init 13 = .ok (.return_, 1) := by decide +kernel
set_option maxRecDepth 20000 in
theorem ggX1_keep_X4_init : GoodIn wsX1_keep wsX4_init := goodIn_r _ [12, 13, 14, 15, 16, 17, 18, 19, 37, 38, 39, 40, 41, 42, 43, 44] (by decide +kernel) (by decide +kernel)
set_option maxRecDepth 20000 in
theorem gX1_keep_X4_init_n21 : GoodIn wsX1_keep (wsX4_init) := ggX1_keep_X4_init
set_option maxRecDepth 20000 in
theorem ggX1_keep_X4_copyOf : GoodIn wsX1_keep wsX4_copyOf := goodIn_r _ [23, 24, 25, 26, 27, 28, 29, 18, 30, 31, 32, 33, 19, 37, 38, 39, 40, 41, 42, 43, 44] (by decide +kernel) (by decide +kernel)
set_option maxRecDepth 20000 in
theorem gX1_keep_X4_copyOf : GoodIn wsX1_keep (wsV RX1 22 RX4 yX4_copyOf wsX4_copyOf) := goodIn_app (goodIn_of _ (by decide +kernel)) ggX1_keep_X4_copyOf
theorem dX1_keep_0 : decode cX1_keep 0 = .ok (.aload_n 0, 1) := by decide +kernel
theorem dX1_keep_1 : decode cX1_keep 1 = .ok (.aload_n 0, 1) := by decide +kernel
theorem dX1_keep_2 : decode cX1_keep 2 = .ok (.getfield 17, 3) := by decide +kernel
theorem dX1_keep_5 : decode cX1_keep 5 = .ok (.iconst 1, 1) := by decide +kernel
theorem dX1_keep_6 : decode cX1_keep 6 = .ok (.iadd, 1) := by decide +kernel
theorem dX1_keep_7 : decode cX1_keep 7 = .ok (.bipush 6, 2) := by decide +kernel
theorem dX1_keep_9 : decode cX1_keep 9 = .ok (.irem, 1) := by decide +kernel
theorem dX1_keep_10 : decode cX1_keep 10 = .ok (.putfield 17, 3) := by decide +kernel
theorem dX1_keep_13 : decode cX1_keep 13 = .ok (.aload_n 0, 1) := by decide +kernel
theorem dX1_keep_14 : decode cX1_keep 14 = .ok (.getfield 11, 3) := by decide +kernel
theorem dX1_keep_17 : decode cX1_keep 17 = .ok (.aload_n 0, 1) := by decide +kernel
theorem dX1_keep_18 : decode cX1_keep 18 = .ok (.getfield 17, 3) := by decide +kernel
theorem dX1_keep_21 : decode cX1_keep 21 = .ok (.aaload, 1) := by decide +kernel
theorem dX1_keep_22 : decode cX1_keep 22 = .ok (.ifnonnull 19, 3) := by decide +kernel
theorem dX1_keep_25 : decode cX1_keep 25 = .ok (.aload_n 0, 1) := by decide +kernel
theorem dX1_keep_26 : decode cX1_keep 26 = .ok (.getfield 11, 3) := by decide +kernel
theorem dX1_keep_29 : decode cX1_keep 29 = .ok (.aload_n 0, 1) := by decide +kernel
theorem dX1_keep_30 : decode cX1_keep 30 = .ok (.getfield 17, 3) := by decide +kernel
theorem dX1_keep_33 : decode cX1_keep 33 = .ok (.new 9, 3) := by decide +kernel
theorem dX1_keep_36 : decode cX1_keep 36 = .ok (.dup, 1) := by decide +kernel
theorem dX1_keep_37 : decode cX1_keep 37 = .ok (.invokespecial 21, 3) := by decide +kernel
theorem dX1_keep_40 : decode cX1_keep 40 = .ok (.aastore, 1) := by decide +kernel
theorem dX1_keep_41 : decode cX1_keep 41 = .ok (.aload_n 0, 1) := by decide +kernel
theorem dX1_keep_42 : decode cX1_keep 42 = .ok (.getfield 11, 3) := by decide +kernel
theorem dX1_keep_45 : decode cX1_keep 45 = .ok (.aload_n 0, 1) := by decide +kernel
theorem dX1_keep_46 : decode cX1_keep 46 = .ok (.getfield 17, 3) := by decide +kernel
theorem dX1_keep_49 : decode cX1_keep 49 = .ok (.aaload, 1) := by decide +kernel
theorem dX1_keep_50 : decode cX1_keep 50 = .ok (.aload_n 1, 1) := by decide +kernel
theorem dX1_keep_51 : decode cX1_keep 51 = .ok (.invokevirtual 22, 3) := by decide +kernel
theorem dX1_keep_54 : decode cX1_keep 54 = .ok (.aload_n 0, 1) := by decide +kernel
theorem dX1_keep_55 : decode cX1_keep 55 = .ok (.aload_n 0, 1) := by decide +kernel
theorem dX1_keep_56 : decode cX1_keep 56 = .ok (.getfield 26, 3) := by decide +kernel
theorem dX1_keep_59 : decode cX1_keep 59 = .ok (.iconst 1, 1) := by decide +kernel
theorem dX1_keep_60 : decode cX1_keep 60 = .ok (.iadd, 1) := by decide +kernel
theorem dX1_keep_61 : decode cX1_keep 61 = .ok (.bipush 6, 2) := by decide +kernel
theorem dX1_keep_63 : decode cX1_keep 63 = .ok (.invokestatic 29, 3) := by decide +kernel
theorem dX1_keep_66 : decode cX1_keep 66 = .ok (.putfield 26, 3) := by decide +kernel
theorem dX1_keep_69 : decode cX1_keep 69 = .ok (.return_, 1) := by decide +kernel
theorem dX1_takeBack_0 : decode cX1_takeBack 0 = .ok (.aload_n 0, 1) := by decide +kernel
theorem dX1_takeBack_1 : decode cX1_takeBack 1 = .ok (.getfield 11, 3) := by decide +kernel
theorem dX1_takeBack_4 : decode cX1_takeBack 4 = .ok (.aload_n 0, 1) := by decide +kernel
theorem dX1_takeBack_5 : decode cX1_takeBack 5 = .ok (.getfield 17, 3) := by decide +kernel
theorem dX1_takeBack_8 : decode cX1_takeBack 8 = .ok (.aaload, 1) := by decide +kernel
theorem dX1_takeBack_9 : decode cX1_takeBack 9 = .ok (.astore_n 2, 1) := by decide +kernel
theorem dX1_takeBack_10 : decode cX1_takeBack 10 = .ok (.aload_n 2, 1) := by decide +kernel
theorem dX1_takeBack_11 : decode cX1_takeBack 11 = .ok (.ifnonnull 5, 3) := by decide +kernel
theorem dX1_takeBack_14 : decode cX1_takeBack 14 = .ok (.aload_n 1, 1) := by decide +kernel
theorem dX1_takeBack_15 : decode cX1_takeBack 15 = .ok (.areturn, 1) := by decide +kernel
theorem dX1_takeBack_16 : decode cX1_takeBack 16 = .ok (.aload_n 0, 1) := by decide +kernel
theorem dX1_takeBack_17 : decode cX1_takeBack 17 = .ok (.getfield 11, 3) := by decide +kernel
theorem dX1_takeBack_20 : decode cX1_takeBack 20 = .ok (.aload_n 0, 1) := by decide +kernel
theorem dX1_takeBack_21 : decode cX1_takeBack 21 = .ok (.getfield 17, 3) := by decide +kernel
theorem dX1_takeBack_24 : decode cX1_takeBack 24 = .ok (.aload_n 1, 1) := by decide +kernel
theorem dX1_takeBack_25 : decode cX1_takeBack 25 = .ok (.aastore, 1) := by decide +kernel
theorem dX1_takeBack_26 : decode cX1_takeBack 26 = .ok (.aload_n 0, 1) := by decide +kernel
theorem dX1_takeBack_27 : decode cX1_takeBack 27 = .ok (.aload_n 0, 1) := by decide +kernel
theorem dX1_takeBack_28 : decode cX1_takeBack 28 = .ok (.getfield 17, 3) := by decide +kernel
theorem dX1_takeBack_31 : decode cX1_takeBack 31 = .ok (.bipush 6, 2) := by decide +kernel
theorem dX1_takeBack_33 : decode cX1_takeBack 33 = .ok (.iadd, 1) := by decide +kernel
theorem dX1_takeBack_34 : decode cX1_takeBack 34 = .ok (.iconst 1, 1) := by decide +kernel
theorem dX1_takeBack_35 : decode cX1_takeBack 35 = .ok (.isub, 1) := by decide +kernel
theorem dX1_takeBack_36 : decode cX1_takeBack 36 = .ok (.bipush 6, 2) := by decide +kernel
theorem dX1_takeBack_38 : decode cX1_takeBack 38 = .ok (.irem, 1) := by decide +kernel
theorem dX1_takeBack_39 : decode cX1_takeBack 39 = .ok (.putfield 17, 3) := by decide +kernel
theorem dX1_takeBack_42 : decode cX1_takeBack 42 = .ok (.aload_n 0, 1) := by decide +kernel
theorem dX1_takeBack_43 : decode cX1_takeBack 43 = .ok (.dup, 1) := by decide +kernel
theorem dX1_takeBack_44 : decode cX1_takeBack 44 = .ok (.getfield 26, 3) := by decide +kernel
theorem dX1_takeBack_47 : decode cX1_takeBack 47 = .ok (.iconst 1, 1) := by decide +kernel
theorem dX1_takeBack_48 : decode cX1_takeBack 48 = .ok (.isub, 1) := by decide +kernel
theorem dX1_takeBack_49 : decode cX1_takeBack 49 = .ok (.putfield 26, 3) := by decide +kernel
theorem dX1_takeBack_52 : decode cX1_takeBack 52 = .ok (.aload_n 2, 1) := by decide +kernel
theorem dX1_takeBack_53 : decode cX1_takeBack 53 = .ok (.areturn, 1) := by decide +kernel
