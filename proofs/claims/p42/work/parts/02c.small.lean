set_option maxRecDepth 20000 in
theorem ggX0_init_X5_init : GoodIn wsX0_init wsX5_init := goodIn_r _ [10, 11, 2, 3, 12, 13, 14, 17, 18, 19, 20, 21] (by decide +kernel) (by decide +kernel)
set_option maxRecDepth 20000 in
theorem gX0_init_X5_init : GoodIn wsX0_init (wsX5_init) := ggX0_init_X5_init
theorem dX0_init_0 : decode cX0_init 0 = .ok (.aload_n 0, 1) := by decide +kernel
theorem dX0_init_1 : decode cX0_init 1 = .ok (.invokespecial 3, 3) := by decide +kernel
theorem dX0_init_4 : decode cX0_init 4 = .ok (.aload_n 0, 1) := by decide +kernel
theorem dX0_init_5 : decode cX0_init 5 = .ok (.bipush 6, 2) := by decide +kernel
theorem dX0_init_7 : decode cX0_init 7 = .ok (.anewarray 9, 3) := by decide +kernel
theorem dX0_init_10 : decode cX0_init 10 = .ok (.putfield 11, 3) := by decide +kernel
theorem dX0_init_13 : decode cX0_init 13 = .ok (.iconst 0, 1) := by decide +kernel
theorem dX0_init_14 : decode cX0_init 14 = .ok (.istore_n 1, 1) := by decide +kernel
theorem dX0_init_15 : decode cX0_init 15 = .ok (.iload_n 1, 1) := by decide +kernel
theorem dX0_init_16 : decode cX0_init 16 = .ok (.bipush 6, 2) := by decide +kernel
theorem dX0_init_18 : decode cX0_init 18 = .ok (.if_icmp .ge 22, 3) := by decide +kernel
theorem dX0_init_21 : decode cX0_init 21 = .ok (.aload_n 0, 1) := by decide +kernel
theorem dX0_init_22 : decode cX0_init 22 = .ok (.getfield 11, 3) := by decide +kernel
theorem dX0_init_25 : decode cX0_init 25 = .ok (.iload_n 1, 1) := by decide +kernel
theorem dX0_init_26 : decode cX0_init 26 = .ok (.new 9, 3) := by decide +kernel
theorem dX0_init_29 : decode cX0_init 29 = .ok (.dup, 1) := by decide +kernel
theorem dX0_init_30 : decode cX0_init 30 = .ok (.invokespecial 17, 3) := by decide +kernel
theorem dX0_init_33 : decode cX0_init 33 = .ok (.aastore, 1) := by decide +kernel
theorem dX0_init_34 : decode cX0_init 34 = .ok (.iinc 1 1, 3) := by decide +kernel
theorem dX0_init_37 : decode cX0_init 37 = .ok (.goto (-22), 3) := by decide +kernel
theorem dX0_init_40 : decode cX0_init 40 = .ok (.return_, 1) := by decide +kernel
set_option maxRecDepth 20000 in
theorem ggX0_keep_X0_dropOldest : GoodIn wsX0_keep wsX0_dropOldest := goodIn_r _ [7, 2, 1, 22, 23] (by decide +kernel) (by decide +kernel)
set_option maxRecDepth 20000 in
theorem gX0_keep_X0_dropOldest : GoodIn wsX0_keep (wsV RX0 22 RX0 yX0_dropOldest wsX0_dropOldest) := goodIn_app (goodIn_of _ (by decide +kernel)) ggX0_keep_X0_dropOldest
set_option maxRecDepth 20000 in
theorem ggX0_keep_X5_copyFrom : GoodIn wsX0_keep wsX5_copyFrom := goodIn_r _ [12, 13, 14, 15, 16, 17, 18, 19, 20, 21, 24, 25, 26, 27, 28] (by decide +kernel) (by decide +kernel)
set_option maxRecDepth 20000 in
theorem gX0_keep_X5_copyFrom : GoodIn wsX0_keep (wsV RX0 25 RX5 yX5_copyFrom wsX5_copyFrom) := goodIn_app (goodIn_of _ (by decide +kernel)) ggX0_keep_X5_copyFrom
theorem dX0_keep_0 : decode cX0_keep 0 = .ok (.aload_n 0, 1) := by decide +kernel
theorem dX0_keep_1 : decode cX0_keep 1 = .ok (.getfield 18, 3) := by decide +kernel
theorem dX0_keep_4 : decode cX0_keep 4 = .ok (.bipush 6, 2) := by decide +kernel
theorem dX0_keep_6 : decode cX0_keep 6 = .ok (.if_icmp .lt 7, 3) := by decide +kernel
theorem dX0_keep_9 : decode cX0_keep 9 = .ok (.aload_n 0, 1) := by decide +kernel
theorem dX0_keep_10 : decode cX0_keep 10 = .ok (.invokevirtual 22, 3) := by decide +kernel
theorem dX0_keep_13 : decode cX0_keep 13 = .ok (.aload_n 0, 1) := by decide +kernel
theorem dX0_keep_14 : decode cX0_keep 14 = .ok (.getfield 11, 3) := by decide +kernel
theorem dX0_keep_17 : decode cX0_keep 17 = .ok (.aload_n 0, 1) := by decide +kernel
theorem dX0_keep_18 : decode cX0_keep 18 = .ok (.getfield 18, 3) := by decide +kernel
theorem dX0_keep_21 : decode cX0_keep 21 = .ok (.aaload, 1) := by decide +kernel
theorem dX0_keep_22 : decode cX0_keep 22 = .ok (.aload_n 1, 1) := by decide +kernel
theorem dX0_keep_23 : decode cX0_keep 23 = .ok (.invokevirtual 25, 3) := by decide +kernel
theorem dX0_keep_26 : decode cX0_keep 26 = .ok (.aload_n 0, 1) := by decide +kernel
theorem dX0_keep_27 : decode cX0_keep 27 = .ok (.dup, 1) := by decide +kernel
theorem dX0_keep_28 : decode cX0_keep 28 = .ok (.getfield 18, 3) := by decide +kernel
theorem dX0_keep_31 : decode cX0_keep 31 = .ok (.iconst 1, 1) := by decide +kernel
theorem dX0_keep_32 : decode cX0_keep 32 = .ok (.iadd, 1) := by decide +kernel
theorem dX0_keep_33 : decode cX0_keep 33 = .ok (.putfield 18, 3) := by decide +kernel
theorem dX0_keep_36 : decode cX0_keep 36 = .ok (.return_, 1) := by decide +kernel
theorem dX0_dropOldest_0 : decode cX0_dropOldest 0 = .ok (.aload_n 0, 1) := by decide +kernel
theorem dX0_dropOldest_1 : decode cX0_dropOldest 1 = .ok (.getfield 11, 3) := by decide +kernel
theorem dX0_dropOldest_4 : decode cX0_dropOldest 4 = .ok (.iconst 0, 1) := by decide +kernel
theorem dX0_dropOldest_5 : decode cX0_dropOldest 5 = .ok (.aaload, 1) := by decide +kernel
theorem dX0_dropOldest_6 : decode cX0_dropOldest 6 = .ok (.astore_n 1, 1) := by decide +kernel
theorem dX0_dropOldest_7 : decode cX0_dropOldest 7 = .ok (.iconst 1, 1) := by decide +kernel
theorem dX0_dropOldest_8 : decode cX0_dropOldest 8 = .ok (.istore_n 2, 1) := by decide +kernel
theorem dX0_dropOldest_9 : decode cX0_dropOldest 9 = .ok (.iload_n 2, 1) := by decide +kernel
theorem dX0_dropOldest_10 : decode cX0_dropOldest 10 = .ok (.bipush 6, 2) := by decide +kernel
theorem dX0_dropOldest_12 : decode cX0_dropOldest 12 = .ok (.if_icmp .ge 23, 3) := by decide +kernel
theorem dX0_dropOldest_15 : decode cX0_dropOldest 15 = .ok (.aload_n 0, 1) := by decide +kernel
theorem dX0_dropOldest_16 : decode cX0_dropOldest 16 = .ok (.getfield 11, 3) := by decide +kernel
theorem dX0_dropOldest_19 : decode cX0_dropOldest 19 = .ok (.iload_n 2, 1) := by decide +kernel
theorem dX0_dropOldest_20 : decode cX0_dropOldest 20 = .ok (.iconst 1, 1) := by decide +kernel
theorem dX0_dropOldest_21 : decode cX0_dropOldest 21 = .ok (.isub, 1) := by decide +kernel
theorem dX0_dropOldest_22 : decode cX0_dropOldest 22 = .ok (.aload_n 0, 1) := by decide +kernel
theorem dX0_dropOldest_23 : decode cX0_dropOldest 23 = .ok (.getfield 11, 3) := by decide +kernel
theorem dX0_dropOldest_26 : decode cX0_dropOldest 26 = .ok (.iload_n 2, 1) := by decide +kernel
theorem dX0_dropOldest_27 : decode cX0_dropOldest 27 = .ok (.aaload, 1) := by decide +kernel
theorem dX0_dropOldest_28 : decode cX0_dropOldest 28 = .ok (.aastore, 1) := by decide +kernel
theorem dX0_dropOldest_29 : decode cX0_dropOldest 29 = .ok (.iinc 2 1, 3) := by decide +kernel
theorem dX0_dropOldest_32 : decode cX0_dropOldest 32 = .ok (.goto (-23), 3) := by decide +kernel
theorem dX0_dropOldest_35 : decode cX0_dropOldest 35 = .ok (.aload_n 0, 1) := by decide +kernel
theorem dX0_dropOldest_36 : decode cX0_dropOldest 36 = .ok (.iconst 5, 1) := by decide +kernel
theorem dX0_dropOldest_37 : decode cX0_dropOldest 37 = .ok (.putfield 18, 3) := by decide +kernel
theorem dX0_dropOldest_40 : decode cX0_dropOldest 40 = .ok (.aload_n 0, 1) := by decide +kernel
theorem dX0_dropOldest_41 : decode cX0_dropOldest 41 = .ok (.getfield 11, 3) := by decide +kernel
theorem dX0_dropOldest_44 : decode cX0_dropOldest 44 = .ok (.aload_n 0, 1) := by decide +kernel
theorem dX0_dropOldest_45 : decode cX0_dropOldest 45 = .ok (.getfield 18, 3) := by decide +kernel
theorem dX0_dropOldest_48 : decode cX0_dropOldest 48 = .ok (.aload_n 1, 1) := by decide +kernel
theorem dX0_dropOldest_49 : decode cX0_dropOldest 49 = .ok (.aastore, 1) := by decide +kernel
theorem dX0_dropOldest_50 : decode cX0_dropOldest 50 = .ok (.return_, 1) := by decide +kernel
set_option maxRecDepth 20000 in
theorem ggX0_restore_X5_copyFrom : GoodIn wsX0_restore wsX5_copyFrom := goodIn_r _ [7, 8, 9, 10, 11, 12, 13, 14, 15, 16, 19, 20, 21, 22, 23] (by decide +kernel) (by decide +kernel)
set_option maxRecDepth 20000 in
theorem gX0_restore_X5_copyFrom : GoodIn wsX0_restore (wsV RX0 25 RX5 yX5_copyFrom wsX5_copyFrom) := goodIn_app (goodIn_of _ (by decide +kernel)) ggX0_restore_X5_copyFrom
theorem dX0_restore_0 : decode cX0_restore 0 = .ok (.aload_n 0, 1) := by decide +kernel
theorem dX0_restore_1 : decode cX0_restore 1 = .ok (.getfield 18, 3) := by decide +kernel
theorem dX0_restore_4 : decode cX0_restore 4 = .ok (.ifCond .le 26, 3) := by decide +kernel
theorem dX0_restore_7 : decode cX0_restore 7 = .ok (.aload_n 0, 1) := by decide +kernel
theorem dX0_restore_8 : decode cX0_restore 8 = .ok (.dup, 1) := by decide +kernel
theorem dX0_restore_9 : decode cX0_restore 9 = .ok (.getfield 18, 3) := by decide +kernel
theorem dX0_restore_12 : decode cX0_restore 12 = .ok (.iconst 1, 1) := by decide +kernel
theorem dX0_restore_13 : decode cX0_restore 13 = .ok (.isub, 1) := by decide +kernel
theorem dX0_restore_14 : decode cX0_restore 14 = .ok (.putfield 18, 3) := by decide +kernel
theorem dX0_restore_17 : decode cX0_restore 17 = .ok (.aload_n 1, 1) := by decide +kernel
theorem dX0_restore_18 : decode cX0_restore 18 = .ok (.aload_n 0, 1) := by decide +kernel
theorem dX0_restore_19 : decode cX0_restore 19 = .ok (.getfield 11, 3) := by decide +kernel
theorem dX0_restore_22 : decode cX0_restore 22 = .ok (.aload_n 0, 1) := by decide +kernel
theorem dX0_restore_23 : decode cX0_restore 23 = .ok (.getfield 18, 3) := by decide +kernel
theorem dX0_restore_26 : decode cX0_restore 26 = .ok (.aaload, 1) := by decide +kernel
theorem dX0_restore_27 : decode cX0_restore 27 = .ok (.invokevirtual 25, 3) := by decide +kernel
theorem dX0_restore_30 : decode cX0_restore 30 = .ok (.return_, 1) := by decide +kernel
theorem dX1_init_0 : decode cX1_init 0 = .ok (.aload_n 0, 1) := by decide +kernel
theorem dX1_init_1 : decode cX1_init 1 = .ok (.invokespecial 3, 3) := by decide +kernel
theorem dX1_init_4 : decode cX1_init 4 = .ok (.aload_n 0, 1) := by decide +kernel
theorem dX1_init_5 : decode cX1_init 5 = .ok (.iload_n 1, 1) := by decide +kernel
theorem dX1_init_6 : decode cX1_init 6 = .ok (.putfield 9, 3) := by decide +kernel
theorem dX1_init_9 : decode cX1_init 9 = .ok (.aload_n 0, 1) := by decide +kernel
theorem dX1_init_10 : decode cX1_init 10 = .ok (.bipush 8, 2) := by decide +kernel
theorem dX1_init_12 : decode cX1_init 12 = .ok (.newarray .int, 2) := by decide +kernel
theorem dX1_init_14 : decode cX1_init 14 = .ok (.putfield 15, 3) := by decide +kernel
theorem dX1_init_17 : decode cX1_init 17 = .ok (.aload_n 0, 1) := by decide +kernel
theorem dX1_init_18 : decode cX1_init 18 = .ok (.bipush 8, 2) := by decide +kernel
theorem dX1_init_20 : decode cX1_init 20 = .ok (.newarray .int, 2) := by decide +kernel
theorem dX1_init_22 : decode cX1_init 22 = .ok (.putfield 19, 3) := by decide +kernel
theorem dX1_init_25 : decode cX1_init 25 = .ok (.aload_n 0, 1) := by decide +kernel
theorem dX1_init_26 : decode cX1_init 26 = .ok (.bipush 9, 2) := by decide +kernel
theorem dX1_init_28 : decode cX1_init 28 = .ok (.newarray .int, 2) := by decide +kernel
theorem dX1_init_30 : decode cX1_init 30 = .ok (.putfield 22, 3) := by decide +kernel
theorem dX1_init_33 : decode cX1_init 33 = .ok (.aload_n 0, 1) := by decide +kernel
theorem dX1_init_34 : decode cX1_init 34 = .ok (.bipush 9, 2) := by decide +kernel
theorem dX1_init_36 : decode cX1_init 36 = .ok (.newarray .int, 2) := by decide +kernel
theorem dX1_init_38 : decode cX1_init 38 = .ok (.putfield 25, 3) := by decide +kernel
theorem dX1_init_41 : decode cX1_init 41 = .ok (.aload_n 0, 1) := by decide +kernel
theorem dX1_init_42 : decode cX1_init 42 = .ok (.bipush 9, 2) := by decide +kernel
theorem dX1_init_44 : decode cX1_init 44 = .ok (.newarray .int, 2) := by decide +kernel
theorem dX1_init_46 : decode cX1_init 46 = .ok (.putfield 28, 3) := by decide +kernel
theorem dX1_init_49 : decode cX1_init 49 = .ok (.return_, 1) := by decide +kernel
theorem dX1_open_0 : decode cX1_open 0 = .ok (.iconst 0, 1) := by decide +kernel
theorem dX1_open_1 : decode cX1_open 1 = .ok (.istore_n 2, 1) := by decide +kernel
theorem dX1_open_2 : decode cX1_open 2 = .ok (.iload_n 2, 1) := by decide +kernel
theorem dX1_open_3 : decode cX1_open 3 = .ok (.aload_n 0, 1) := by decide +kernel
theorem dX1_open_4 : decode cX1_open 4 = .ok (.getfield 9, 3) := by decide +kernel
theorem dX1_open_7 : decode cX1_open 7 = .ok (.if_icmp .ge 28, 3) := by decide +kernel
theorem dX1_open_10 : decode cX1_open 10 = .ok (.aload_n 0, 1) := by decide +kernel
theorem dX1_open_11 : decode cX1_open 11 = .ok (.getfield 15, 3) := by decide +kernel
theorem dX1_open_14 : decode cX1_open 14 = .ok (.iload_n 2, 1) := by decide +kernel
theorem dX1_open_15 : decode cX1_open 15 = .ok (.aload_n 1, 1) := by decide +kernel
theorem dX1_open_16 : decode cX1_open 16 = .ok (.getfield 31, 3) := by decide +kernel
theorem dX1_open_19 : decode cX1_open 19 = .ok (.iload_n 2, 1) := by decide +kernel
theorem dX1_open_20 : decode cX1_open 20 = .ok (.iaload, 1) := by decide +kernel
theorem dX1_open_21 : decode cX1_open 21 = .ok (.iastore, 1) := by decide +kernel
theorem dX1_open_22 : decode cX1_open 22 = .ok (.aload_n 0, 1) := by decide +kernel
theorem dX1_open_23 : decode cX1_open 23 = .ok (.getfield 19, 3) := by decide +kernel
theorem dX1_open_26 : decode cX1_open 26 = .ok (.iload_n 2, 1) := by decide +kernel
theorem dX1_open_27 : decode cX1_open 27 = .ok (.iconst 0, 1) := by decide +kernel
theorem dX1_open_28 : decode cX1_open 28 = .ok (.iastore, 1) := by decide +kernel
theorem dX1_open_29 : decode cX1_open 29 = .ok (.iinc 2 1, 3) := by decide +kernel
theorem dX1_open_32 : decode cX1_open 32 = .ok (.goto (-30), 3) := by decide +kernel
theorem dX1_open_35 : decode cX1_open 35 = .ok (.aload_n 0, 1) := by decide +kernel
theorem dX1_open_36 : decode cX1_open 36 = .ok (.aload_n 1, 1) := by decide +kernel
theorem dX1_open_37 : decode cX1_open 37 = .ok (.getfield 34, 3) := by decide +kernel
theorem dX1_open_40 : decode cX1_open 40 = .ok (.putfield 37, 3) := by decide +kernel
theorem dX1_open_43 : decode cX1_open 43 = .ok (.aload_n 0, 1) := by decide +kernel
theorem dX1_open_44 : decode cX1_open 44 = .ok (.aload_n 1, 1) := by decide +kernel
theorem dX1_open_45 : decode cX1_open 45 = .ok (.getfield 38, 3) := by decide +kernel
theorem dX1_open_48 : decode cX1_open 48 = .ok (.putfield 41, 3) := by decide +kernel
theorem dX1_open_51 : decode cX1_open 51 = .ok (.aload_n 0, 1) := by decide +kernel
theorem dX1_open_52 : decode cX1_open 52 = .ok (.iconst 0, 1) := by decide +kernel
theorem dX1_open_53 : decode cX1_open 53 = .ok (.putfield 42, 3) := by decide +kernel
theorem dX1_open_56 : decode cX1_open 56 = .ok (.aload_n 0, 1) := by decide +kernel
theorem dX1_open_57 : decode cX1_open 57 = .ok (.iconst 0, 1) := by decide +kernel
theorem dX1_open_58 : decode cX1_open 58 = .ok (.putfield 45, 3) := by decide +kernel
theorem dX1_open_61 : decode cX1_open 61 = .ok (.return_, 1) := by decide +kernel
set_option maxRecDepth 20000 in
theorem ggX1_arrive_X1_drive : GoodIn wsX1_arrive wsX1_drive := goodIn_r _ [9, 10, 11, 12, 13, 14, 15, 8, 16, 17, 18, 19, 20, 4, 21, 22, 23, 3, 24, 25, 26, 27, 28, 29, 30, 31, 32, 33, 34, 35, 36, 37, 38, 39, 40, 41] (by decide +kernel) (by decide +kernel)
set_option maxRecDepth 20000 in
theorem gX1_arrive_X1_drive : GoodIn wsX1_arrive (wsV RX1 48 RX1 yX1_drive wsX1_drive) := goodIn_app (goodIn_of _ (by decide +kernel)) ggX1_arrive_X1_drive
theorem dX1_arrive_0 : decode cX1_arrive 0 = .ok (.aload_n 0, 1) := by decide +kernel
theorem dX1_arrive_1 : decode cX1_arrive 1 = .ok (.getfield 42, 3) := by decide +kernel
theorem dX1_arrive_4 : decode cX1_arrive 4 = .ok (.bipush 9, 2) := by decide +kernel
theorem dX1_arrive_6 : decode cX1_arrive 6 = .ok (.if_icmp .lt 5, 3) := by decide +kernel
theorem dX1_arrive_9 : decode cX1_arrive 9 = .ok (.iconst 0, 1) := by decide +kernel
theorem dX1_arrive_10 : decode cX1_arrive 10 = .ok (.ireturn, 1) := by decide +kernel
theorem dX1_arrive_11 : decode cX1_arrive 11 = .ok (.aload_n 0, 1) := by decide +kernel
theorem dX1_arrive_12 : decode cX1_arrive 12 = .ok (.getfield 42, 3) := by decide +kernel
theorem dX1_arrive_15 : decode cX1_arrive 15 = .ok (.istore_n 2, 1) := by decide +kernel
theorem dX1_arrive_16 : decode cX1_arrive 16 = .ok (.aload_n 0, 1) := by decide +kernel
theorem dX1_arrive_17 : decode cX1_arrive 17 = .ok (.dup, 1) := by decide +kernel
theorem dX1_arrive_18 : decode cX1_arrive 18 = .ok (.getfield 42, 3) := by decide +kernel
theorem dX1_arrive_21 : decode cX1_arrive 21 = .ok (.iconst 1, 1) := by decide +kernel
theorem dX1_arrive_22 : decode cX1_arrive 22 = .ok (.iadd, 1) := by decide +kernel
theorem dX1_arrive_23 : decode cX1_arrive 23 = .ok (.putfield 42, 3) := by decide +kernel
theorem dX1_arrive_26 : decode cX1_arrive 26 = .ok (.aload_n 0, 1) := by decide +kernel
theorem dX1_arrive_27 : decode cX1_arrive 27 = .ok (.getfield 22, 3) := by decide +kernel
theorem dX1_arrive_30 : decode cX1_arrive 30 = .ok (.iload_n 2, 1) := by decide +kernel
theorem dX1_arrive_31 : decode cX1_arrive 31 = .ok (.iload_n 1, 1) := by decide +kernel
theorem dX1_arrive_32 : decode cX1_arrive 32 = .ok (.iastore, 1) := by decide +kernel
theorem dX1_arrive_33 : decode cX1_arrive 33 = .ok (.aload_n 0, 1) := by decide +kernel
theorem dX1_arrive_34 : decode cX1_arrive 34 = .ok (.getfield 25, 3) := by decide +kernel
theorem dX1_arrive_37 : decode cX1_arrive 37 = .ok (.iload_n 2, 1) := by decide +kernel
theorem dX1_arrive_38 : decode cX1_arrive 38 = .ok (.iconst (-1), 1) := by decide +kernel
theorem dX1_arrive_39 : decode cX1_arrive 39 = .ok (.iastore, 1) := by decide +kernel
theorem dX1_arrive_40 : decode cX1_arrive 40 = .ok (.aload_n 0, 1) := by decide +kernel
theorem dX1_arrive_41 : decode cX1_arrive 41 = .ok (.getfield 28, 3) := by decide +kernel
theorem dX1_arrive_44 : decode cX1_arrive 44 = .ok (.iload_n 2, 1) := by decide +kernel
theorem dX1_arrive_45 : decode cX1_arrive 45 = .ok (.iconst 0, 1) := by decide +kernel
theorem dX1_arrive_46 : decode cX1_arrive 46 = .ok (.iastore, 1) := by decide +kernel
theorem dX1_arrive_47 : decode cX1_arrive 47 = .ok (.aload_n 0, 1) := by decide +kernel
theorem dX1_arrive_48 : decode cX1_arrive 48 = .ok (.iload_n 2, 1) := by decide +kernel
theorem dX1_arrive_49 : decode cX1_arrive 49 = .ok (.iload_n 1, 1) := by decide +kernel
theorem dX1_arrive_50 : decode cX1_arrive 50 = .ok (.invokevirtual 48, 3) := by decide +kernel
theorem dX1_arrive_53 : decode cX1_arrive 53 = .ok (.ireturn, 1) := by decide +kernel
theorem dX1_takeBackLast_0 : decode cX1_takeBackLast 0 = .ok (.aload_n 0, 1) := by decide +kernel
theorem dX1_takeBackLast_1 : decode cX1_takeBackLast 1 = .ok (.getfield 42, 3) := by decide +kernel
theorem dX1_takeBackLast_4 : decode cX1_takeBackLast 4 = .ok (.ifCond .gt 4, 3) := by decide +kernel
theorem dX1_takeBackLast_7 : decode cX1_takeBackLast 7 = .ok (.return_, 1) := by decide +kernel
theorem dX1_takeBackLast_8 : decode cX1_takeBackLast 8 = .ok (.aload_n 0, 1) := by decide +kernel
theorem dX1_takeBackLast_9 : decode cX1_takeBackLast 9 = .ok (.dup, 1) := by decide +kernel
theorem dX1_takeBackLast_10 : decode cX1_takeBackLast 10 = .ok (.getfield 42, 3) := by decide +kernel
theorem dX1_takeBackLast_13 : decode cX1_takeBackLast 13 = .ok (.iconst 1, 1) := by decide +kernel
theorem dX1_takeBackLast_14 : decode cX1_takeBackLast 14 = .ok (.isub, 1) := by decide +kernel
theorem dX1_takeBackLast_15 : decode cX1_takeBackLast 15 = .ok (.putfield 42, 3) := by decide +kernel
theorem dX1_takeBackLast_18 : decode cX1_takeBackLast 18 = .ok (.aload_n 0, 1) := by decide +kernel
theorem dX1_takeBackLast_19 : decode cX1_takeBackLast 19 = .ok (.getfield 25, 3) := by decide +kernel
theorem dX1_takeBackLast_22 : decode cX1_takeBackLast 22 = .ok (.aload_n 0, 1) := by decide +kernel
theorem dX1_takeBackLast_23 : decode cX1_takeBackLast 23 = .ok (.getfield 42, 3) := by decide +kernel
theorem dX1_takeBackLast_26 : decode cX1_takeBackLast 26 = .ok (.iaload, 1) := by decide +kernel
theorem dX1_takeBackLast_27 : decode cX1_takeBackLast 27 = .ok (.istore_n 1, 1) := by decide +kernel
theorem dX1_takeBackLast_28 : decode cX1_takeBackLast 28 = .ok (.iload_n 1, 1) := by decide +kernel
theorem dX1_takeBackLast_29 : decode cX1_takeBackLast 29 = .ok (.ifCond .lt 35, 3) := by decide +kernel
theorem dX1_takeBackLast_32 : decode cX1_takeBackLast 32 = .ok (.iload_n 1, 1) := by decide +kernel
theorem dX1_takeBackLast_33 : decode cX1_takeBackLast 33 = .ok (.aload_n 0, 1) := by decide +kernel
theorem dX1_takeBackLast_34 : decode cX1_takeBackLast 34 = .ok (.getfield 9, 3) := by decide +kernel
theorem dX1_takeBackLast_37 : decode cX1_takeBackLast 37 = .ok (.if_icmp .ge 27, 3) := by decide +kernel
theorem dX1_takeBackLast_40 : decode cX1_takeBackLast 40 = .ok (.aload_n 0, 1) := by decide +kernel
theorem dX1_takeBackLast_41 : decode cX1_takeBackLast 41 = .ok (.getfield 19, 3) := by decide +kernel
theorem dX1_takeBackLast_44 : decode cX1_takeBackLast 44 = .ok (.iload_n 1, 1) := by decide +kernel
theorem dX1_takeBackLast_45 : decode cX1_takeBackLast 45 = .ok (.dup2, 1) := by decide +kernel
theorem dX1_takeBackLast_46 : decode cX1_takeBackLast 46 = .ok (.iaload, 1) := by decide +kernel
theorem dX1_takeBackLast_47 : decode cX1_takeBackLast 47 = .ok (.iconst 1, 1) := by decide +kernel
theorem dX1_takeBackLast_48 : decode cX1_takeBackLast 48 = .ok (.isub, 1) := by decide +kernel
theorem dX1_takeBackLast_49 : decode cX1_takeBackLast 49 = .ok (.iastore, 1) := by decide +kernel
theorem dX1_takeBackLast_50 : decode cX1_takeBackLast 50 = .ok (.aload_n 0, 1) := by decide +kernel
theorem dX1_takeBackLast_51 : decode cX1_takeBackLast 51 = .ok (.dup, 1) := by decide +kernel
theorem dX1_takeBackLast_52 : decode cX1_takeBackLast 52 = .ok (.getfield 45, 3) := by decide +kernel
theorem dX1_takeBackLast_55 : decode cX1_takeBackLast 55 = .ok (.iconst 1, 1) := by decide +kernel
theorem dX1_takeBackLast_56 : decode cX1_takeBackLast 56 = .ok (.iconst 2, 1) := by decide +kernel
theorem dX1_takeBackLast_57 : decode cX1_takeBackLast 57 = .ok (.iload_n 1, 1) := by decide +kernel
theorem dX1_takeBackLast_58 : decode cX1_takeBackLast 58 = .ok (.imul, 1) := by decide +kernel
theorem dX1_takeBackLast_59 : decode cX1_takeBackLast 59 = .ok (.ishl, 1) := by decide +kernel
theorem dX1_takeBackLast_60 : decode cX1_takeBackLast 60 = .ok (.isub, 1) := by decide +kernel
theorem dX1_takeBackLast_61 : decode cX1_takeBackLast 61 = .ok (.putfield 45, 3) := by decide +kernel
theorem dX1_takeBackLast_64 : decode cX1_takeBackLast 64 = .ok (.return_, 1) := by decide +kernel
set_option maxRecDepth 20000 in
theorem ggX1_drive_X1_lookDown : GoodIn wsX1_drive wsX1_lookDown := goodIn_r _ [8, 9, 10, 11, 7, 12, 3, 13, 14, 15, 16, 17, 26, 27, 28, 29, 30, 31, 32, 33, 34, 35] (by decide +kernel) (by decide +kernel)
set_option maxRecDepth 20000 in
theorem gX1_drive_X1_lookDown : GoodIn wsX1_drive (wsV RX1 52 RX1 yX1_lookDown wsX1_lookDown) := goodIn_app (goodIn_of _ (by decide +kernel)) ggX1_drive_X1_lookDown
set_option maxRecDepth 20000 in
theorem ggX1_drive_X1_lookUp : GoodIn wsX1_drive wsX1_lookUp := goodIn_r _ [21, 9, 10, 11, 7, 12, 3, 13, 14, 15, 16, 17, 26, 27, 28, 29, 30, 31, 32, 33, 34, 35] (by decide +kernel) (by decide +kernel)
set_option maxRecDepth 20000 in
theorem gX1_drive_X1_lookUp : GoodIn wsX1_drive (wsV RX1 56 RX1 yX1_lookUp wsX1_lookUp) := goodIn_app (goodIn_of _ (by decide +kernel)) ggX1_drive_X1_lookUp
set_option maxRecDepth 20000 in
theorem ggX1_drive_X1_lookAround : GoodIn wsX1_drive wsX1_lookAround := goodIn_r _ [25, 2, 9, 10, 11, 7, 12, 3, 13, 14, 15, 16, 17, 26, 27, 28, 29, 30, 31, 32, 33, 34, 35] (by decide +kernel) (by decide +kernel)
set_option maxRecDepth 20000 in
theorem gX1_drive_X1_lookAround : GoodIn wsX1_drive (wsV RX1 59 RX1 yX1_lookAround wsX1_lookAround) := goodIn_app (goodIn_of _ (by decide +kernel)) ggX1_drive_X1_lookAround
theorem dX1_drive_0 : decode cX1_drive 0 = .ok (.aload_n 0, 1) := by decide +kernel
theorem dX1_drive_1 : decode cX1_drive 1 = .ok (.getfield 37, 3) := by decide +kernel
theorem dX1_drive_4 : decode cX1_drive 4 = .ok (.tableswitch 86 1 3 #[28, 66, 79], 28) := by decide +kernel
theorem dX1_drive_32 : decode cX1_drive 32 = .ok (.aload_n 0, 1) := by decide +kernel
theorem dX1_drive_33 : decode cX1_drive 33 = .ok (.iload_n 1, 1) := by decide +kernel
theorem dX1_drive_34 : decode cX1_drive 34 = .ok (.iload_n 2, 1) := by decide +kernel
theorem dX1_drive_35 : decode cX1_drive 35 = .ok (.iload_n 2, 1) := by decide +kernel
theorem dX1_drive_36 : decode cX1_drive 36 = .ok (.aload_n 0, 1) := by decide +kernel
theorem dX1_drive_37 : decode cX1_drive 37 = .ok (.getfield 41, 3) := by decide +kernel
theorem dX1_drive_40 : decode cX1_drive 40 = .ok (.isub, 1) := by decide +kernel
theorem dX1_drive_41 : decode cX1_drive 41 = .ok (.invokevirtual 52, 3) := by decide +kernel
theorem dX1_drive_44 : decode cX1_drive 44 = .ok (.ifCond .ne 20, 3) := by decide +kernel
theorem dX1_drive_47 : decode cX1_drive 47 = .ok (.aload_n 0, 1) := by decide +kernel
theorem dX1_drive_48 : decode cX1_drive 48 = .ok (.iload_n 1, 1) := by decide +kernel
theorem dX1_drive_49 : decode cX1_drive 49 = .ok (.iload_n 2, 1) := by decide +kernel
theorem dX1_drive_50 : decode cX1_drive 50 = .ok (.iconst 1, 1) := by decide +kernel
theorem dX1_drive_51 : decode cX1_drive 51 = .ok (.iadd, 1) := by decide +kernel
theorem dX1_drive_52 : decode cX1_drive 52 = .ok (.aload_n 0, 1) := by decide +kernel
theorem dX1_drive_53 : decode cX1_drive 53 = .ok (.getfield 9, 3) := by decide +kernel
theorem dX1_drive_56 : decode cX1_drive 56 = .ok (.iconst 1, 1) := by decide +kernel
theorem dX1_drive_57 : decode cX1_drive 57 = .ok (.isub, 1) := by decide +kernel
theorem dX1_drive_58 : decode cX1_drive 58 = .ok (.invokevirtual 56, 3) := by decide +kernel
theorem dX1_drive_61 : decode cX1_drive 61 = .ok (.ifCond .eq 7, 3) := by decide +kernel
theorem dX1_drive_64 : decode cX1_drive 64 = .ok (.iconst 1, 1) := by decide +kernel
theorem dX1_drive_65 : decode cX1_drive 65 = .ok (.goto 4, 3) := by decide +kernel
theorem dX1_drive_68 : decode cX1_drive 68 = .ok (.iconst 0, 1) := by decide +kernel
theorem dX1_drive_69 : decode cX1_drive 69 = .ok (.ireturn, 1) := by decide +kernel
theorem dX1_drive_70 : decode cX1_drive 70 = .ok (.aload_n 0, 1) := by decide +kernel
theorem dX1_drive_71 : decode cX1_drive 71 = .ok (.iload_n 1, 1) := by decide +kernel
theorem dX1_drive_72 : decode cX1_drive 72 = .ok (.iload_n 2, 1) := by decide +kernel
theorem dX1_drive_73 : decode cX1_drive 73 = .ok (.iload_n 2, 1) := by decide +kernel
theorem dX1_drive_74 : decode cX1_drive 74 = .ok (.aload_n 0, 1) := by decide +kernel
theorem dX1_drive_75 : decode cX1_drive 75 = .ok (.getfield 41, 3) := by decide +kernel
theorem dX1_drive_78 : decode cX1_drive 78 = .ok (.iadd, 1) := by decide +kernel
theorem dX1_drive_79 : decode cX1_drive 79 = .ok (.invokevirtual 56, 3) := by decide +kernel
theorem dX1_drive_82 : decode cX1_drive 82 = .ok (.ireturn, 1) := by decide +kernel
theorem dX1_drive_83 : decode cX1_drive 83 = .ok (.aload_n 0, 1) := by decide +kernel
theorem dX1_drive_84 : decode cX1_drive 84 = .ok (.iload_n 1, 1) := by decide +kernel
theorem dX1_drive_85 : decode cX1_drive 85 = .ok (.iload_n 2, 1) := by decide +kernel
theorem dX1_drive_86 : decode cX1_drive 86 = .ok (.invokevirtual 59, 3) := by decide +kernel
theorem dX1_drive_89 : decode cX1_drive 89 = .ok (.ireturn, 1) := by decide +kernel
theorem dX1_drive_90 : decode cX1_drive 90 = .ok (.aload_n 0, 1) := by decide +kernel
theorem dX1_drive_91 : decode cX1_drive 91 = .ok (.iload_n 1, 1) := by decide +kernel
theorem dX1_drive_92 : decode cX1_drive 92 = .ok (.iload_n 2, 1) := by decide +kernel
theorem dX1_drive_93 : decode cX1_drive 93 = .ok (.aload_n 0, 1) := by decide +kernel
theorem dX1_drive_94 : decode cX1_drive 94 = .ok (.getfield 9, 3) := by decide +kernel
theorem dX1_drive_97 : decode cX1_drive 97 = .ok (.iconst 1, 1) := by decide +kernel
theorem dX1_drive_98 : decode cX1_drive 98 = .ok (.isub, 1) := by decide +kernel
theorem dX1_drive_99 : decode cX1_drive 99 = .ok (.invokevirtual 56, 3) := by decide +kernel
theorem dX1_drive_102 : decode cX1_drive 102 = .ok (.ireturn, 1) := by decide +kernel
set_option maxRecDepth 20000 in
theorem ggX1_lookUp_X1_parksIn : GoodIn wsX1_lookUp wsX1_parksIn := goodIn_r _ [5, 6, 7, 8, 9, 10, 11, 12, 13, 14, 15, 16, 17, 18, 19, 20, 21] (by decide +kernel) (by decide +kernel)
set_option maxRecDepth 20000 in
theorem gX1_lookUp_X1_parksIn : GoodIn wsX1_lookUp (wsV RX1 62 RX1 yX1_parksIn wsX1_parksIn) := goodIn_app (goodIn_of _ (by decide +kernel)) ggX1_lookUp_X1_parksIn
theorem dX1_lookUp_0 : decode cX1_lookUp 0 = .ok (.iload_n 2, 1) := by decide +kernel
theorem dX1_lookUp_1 : decode cX1_lookUp 1 = .ok (.istore 4, 2) := by decide +kernel
theorem dX1_lookUp_3 : decode cX1_lookUp 3 = .ok (.iload 4, 2) := by decide +kernel
theorem dX1_lookUp_5 : decode cX1_lookUp 5 = .ok (.iload_n 3, 1) := by decide +kernel
theorem dX1_lookUp_6 : decode cX1_lookUp 6 = .ok (.if_icmp .gt 21, 3) := by decide +kernel
theorem dX1_lookUp_9 : decode cX1_lookUp 9 = .ok (.aload_n 0, 1) := by decide +kernel
theorem dX1_lookUp_10 : decode cX1_lookUp 10 = .ok (.iload_n 1, 1) := by decide +kernel
theorem dX1_lookUp_11 : decode cX1_lookUp 11 = .ok (.iload 4, 2) := by decide +kernel
theorem dX1_lookUp_13 : decode cX1_lookUp 13 = .ok (.invokevirtual 62, 3) := by decide +kernel
theorem dX1_lookUp_16 : decode cX1_lookUp 16 = .ok (.ifCond .eq 5, 3) := by decide +kernel
theorem dX1_lookUp_19 : decode cX1_lookUp 19 = .ok (.iconst 1, 1) := by decide +kernel
theorem dX1_lookUp_20 : decode cX1_lookUp 20 = .ok (.ireturn, 1) := by decide +kernel
theorem dX1_lookUp_21 : decode cX1_lookUp 21 = .ok (.iinc 4 1, 3) := by decide +kernel
theorem dX1_lookUp_24 : decode cX1_lookUp 24 = .ok (.goto (-21), 3) := by decide +kernel
theorem dX1_lookUp_27 : decode cX1_lookUp 27 = .ok (.iconst 0, 1) := by decide +kernel
theorem dX1_lookUp_28 : decode cX1_lookUp 28 = .ok (.ireturn, 1) := by decide +kernel
set_option maxRecDepth 20000 in
theorem ggX1_lookDown_X1_parksIn : GoodIn wsX1_lookDown wsX1_parksIn := goodIn_r _ [5, 6, 7, 8, 9, 10, 11, 12, 13, 14, 15, 16, 17, 18, 19, 20, 21] (by decide +kernel) (by decide +kernel)
set_option maxRecDepth 20000 in
theorem gX1_lookDown_X1_parksIn : GoodIn wsX1_lookDown (wsV RX1 62 RX1 yX1_parksIn wsX1_parksIn) := goodIn_app (goodIn_of _ (by decide +kernel)) ggX1_lookDown_X1_parksIn
theorem dX1_lookDown_0 : decode cX1_lookDown 0 = .ok (.iload_n 2, 1) := by decide +kernel
theorem dX1_lookDown_1 : decode cX1_lookDown 1 = .ok (.istore 4, 2) := by decide +kernel
theorem dX1_lookDown_3 : decode cX1_lookDown 3 = .ok (.iload 4, 2) := by decide +kernel
theorem dX1_lookDown_5 : decode cX1_lookDown 5 = .ok (.iload_n 3, 1) := by decide +kernel
theorem dX1_lookDown_6 : decode cX1_lookDown 6 = .ok (.if_icmp .lt 21, 3) := by decide +kernel
theorem dX1_lookDown_9 : decode cX1_lookDown 9 = .ok (.aload_n 0, 1) := by decide +kernel
theorem dX1_lookDown_10 : decode cX1_lookDown 10 = .ok (.iload_n 1, 1) := by decide +kernel
theorem dX1_lookDown_11 : decode cX1_lookDown 11 = .ok (.iload 4, 2) := by decide +kernel
theorem dX1_lookDown_13 : decode cX1_lookDown 13 = .ok (.invokevirtual 62, 3) := by decide +kernel
theorem dX1_lookDown_16 : decode cX1_lookDown 16 = .ok (.ifCond .eq 5, 3) := by decide +kernel
theorem dX1_lookDown_19 : decode cX1_lookDown 19 = .ok (.iconst 1, 1) := by decide +kernel
theorem dX1_lookDown_20 : decode cX1_lookDown 20 = .ok (.ireturn, 1) := by decide +kernel
theorem dX1_lookDown_21 : decode cX1_lookDown 21 = .ok (.iinc 4 (-1), 3) := by decide +kernel
theorem dX1_lookDown_24 : decode cX1_lookDown 24 = .ok (.goto (-21), 3) := by decide +kernel
theorem dX1_lookDown_27 : decode cX1_lookDown 27 = .ok (.iconst 0, 1) := by decide +kernel
theorem dX1_lookDown_28 : decode cX1_lookDown 28 = .ok (.ireturn, 1) := by decide +kernel
set_option maxRecDepth 20000 in
theorem ggX1_lookAround_X1_parksIn : GoodIn wsX1_lookAround wsX1_parksIn := goodIn_r _ [6, 7, 8, 9, 10, 11, 12, 13, 14, 15, 16, 17, 18, 19, 20, 21, 22] (by decide +kernel) (by decide +kernel)
set_option maxRecDepth 20000 in
theorem gX1_lookAround_X1_parksIn : GoodIn wsX1_lookAround (wsV RX1 62 RX1 yX1_parksIn wsX1_parksIn) := goodIn_app (goodIn_of _ (by decide +kernel)) ggX1_lookAround_X1_parksIn
theorem dX1_lookAround_0 : decode cX1_lookAround 0 = .ok (.aload_n 0, 1) := by decide +kernel
theorem dX1_lookAround_1 : decode cX1_lookAround 1 = .ok (.iload_n 1, 1) := by decide +kernel
theorem dX1_lookAround_2 : decode cX1_lookAround 2 = .ok (.iload_n 2, 1) := by decide +kernel
theorem dX1_lookAround_3 : decode cX1_lookAround 3 = .ok (.invokevirtual 62, 3) := by decide +kernel
theorem dX1_lookAround_6 : decode cX1_lookAround 6 = .ok (.ifCond .eq 5, 3) := by decide +kernel
theorem dX1_lookAround_9 : decode cX1_lookAround 9 = .ok (.iconst 1, 1) := by decide +kernel
theorem dX1_lookAround_10 : decode cX1_lookAround 10 = .ok (.ireturn, 1) := by decide +kernel
theorem dX1_lookAround_11 : decode cX1_lookAround 11 = .ok (.iconst 1, 1) := by decide +kernel
theorem dX1_lookAround_12 : decode cX1_lookAround 12 = .ok (.istore_n 3, 1) := by decide +kernel
theorem dX1_lookAround_13 : decode cX1_lookAround 13 = .ok (.iload_n 3, 1) := by decide +kernel
theorem dX1_lookAround_14 : decode cX1_lookAround 14 = .ok (.aload_n 0, 1) := by decide +kernel
theorem dX1_lookAround_15 : decode cX1_lookAround 15 = .ok (.getfield 41, 3) := by decide +kernel
theorem dX1_lookAround_18 : decode cX1_lookAround 18 = .ok (.if_icmp .gt 33, 3) := by decide +kernel
theorem dX1_lookAround_21 : decode cX1_lookAround 21 = .ok (.aload_n 0, 1) := by decide +kernel
theorem dX1_lookAround_22 : decode cX1_lookAround 22 = .ok (.iload_n 1, 1) := by decide +kernel
theorem dX1_lookAround_23 : decode cX1_lookAround 23 = .ok (.iload_n 2, 1) := by decide +kernel
theorem dX1_lookAround_24 : decode cX1_lookAround 24 = .ok (.iload_n 3, 1) := by decide +kernel
theorem dX1_lookAround_25 : decode cX1_lookAround 25 = .ok (.isub, 1) := by decide +kernel
theorem dX1_lookAround_26 : decode cX1_lookAround 26 = .ok (.invokevirtual 62, 3) := by decide +kernel
theorem dX1_lookAround_29 : decode cX1_lookAround 29 = .ok (.ifCond .ne 14, 3) := by decide +kernel
theorem dX1_lookAround_32 : decode cX1_lookAround 32 = .ok (.aload_n 0, 1) := by decide +kernel
theorem dX1_lookAround_33 : decode cX1_lookAround 33 = .ok (.iload_n 1, 1) := by decide +kernel
theorem dX1_lookAround_34 : decode cX1_lookAround 34 = .ok (.iload_n 2, 1) := by decide +kernel
theorem dX1_lookAround_35 : decode cX1_lookAround 35 = .ok (.iload_n 3, 1) := by decide +kernel
theorem dX1_lookAround_36 : decode cX1_lookAround 36 = .ok (.iadd, 1) := by decide +kernel
theorem dX1_lookAround_37 : decode cX1_lookAround 37 = .ok (.invokevirtual 62, 3) := by decide +kernel
theorem dX1_lookAround_40 : decode cX1_lookAround 40 = .ok (.ifCond .eq 5, 3) := by decide +kernel
theorem dX1_lookAround_43 : decode cX1_lookAround 43 = .ok (.iconst 1, 1) := by decide +kernel
theorem dX1_lookAround_44 : decode cX1_lookAround 44 = .ok (.ireturn, 1) := by decide +kernel
theorem dX1_lookAround_45 : decode cX1_lookAround 45 = .ok (.iinc 3 1, 3) := by decide +kernel
theorem dX1_lookAround_48 : decode cX1_lookAround 48 = .ok (.goto (-35), 3) := by decide +kernel
theorem dX1_lookAround_51 : decode cX1_lookAround 51 = .ok (.iconst 0, 1) := by decide +kernel
theorem dX1_lookAround_52 : decode cX1_lookAround 52 = .ok (.ireturn, 1) := by decide +kernel
theorem dX1_parksIn_0 : decode cX1_parksIn 0 = .ok (.iload_n 2, 1) := by decide +kernel
theorem dX1_parksIn_1 : decode cX1_parksIn 1 = .ok (.ifCond .lt 11, 3) := by decide +kernel
theorem dX1_parksIn_4 : decode cX1_parksIn 4 = .ok (.iload_n 2, 1) := by decide +kernel
theorem dX1_parksIn_5 : decode cX1_parksIn 5 = .ok (.aload_n 0, 1) := by decide +kernel
theorem dX1_parksIn_6 : decode cX1_parksIn 6 = .ok (.getfield 9, 3) := by decide +kernel
theorem dX1_parksIn_9 : decode cX1_parksIn 9 = .ok (.if_icmp .lt 5, 3) := by decide +kernel
theorem dX1_parksIn_12 : decode cX1_parksIn 12 = .ok (.iconst 0, 1) := by decide +kernel
theorem dX1_parksIn_13 : decode cX1_parksIn 13 = .ok (.ireturn, 1) := by decide +kernel
theorem dX1_parksIn_14 : decode cX1_parksIn 14 = .ok (.aload_n 0, 1) := by decide +kernel
theorem dX1_parksIn_15 : decode cX1_parksIn 15 = .ok (.getfield 28, 3) := by decide +kernel
theorem dX1_parksIn_18 : decode cX1_parksIn 18 = .ok (.iload_n 1, 1) := by decide +kernel
theorem dX1_parksIn_19 : decode cX1_parksIn 19 = .ok (.dup2, 1) := by decide +kernel
theorem dX1_parksIn_20 : decode cX1_parksIn 20 = .ok (.iaload, 1) := by decide +kernel
theorem dX1_parksIn_21 : decode cX1_parksIn 21 = .ok (.iconst 1, 1) := by decide +kernel
theorem dX1_parksIn_22 : decode cX1_parksIn 22 = .ok (.iadd, 1) := by decide +kernel
theorem dX1_parksIn_23 : decode cX1_parksIn 23 = .ok (.iastore, 1) := by decide +kernel
theorem dX1_parksIn_24 : decode cX1_parksIn 24 = .ok (.aload_n 0, 1) := by decide +kernel
theorem dX1_parksIn_25 : decode cX1_parksIn 25 = .ok (.getfield 19, 3) := by decide +kernel
theorem dX1_parksIn_28 : decode cX1_parksIn 28 = .ok (.iload_n 2, 1) := by decide +kernel
theorem dX1_parksIn_29 : decode cX1_parksIn 29 = .ok (.iaload, 1) := by decide +kernel
theorem dX1_parksIn_30 : decode cX1_parksIn 30 = .ok (.aload_n 0, 1) := by decide +kernel
theorem dX1_parksIn_31 : decode cX1_parksIn 31 = .ok (.getfield 15, 3) := by decide +kernel
theorem dX1_parksIn_34 : decode cX1_parksIn 34 = .ok (.iload_n 2, 1) := by decide +kernel
theorem dX1_parksIn_35 : decode cX1_parksIn 35 = .ok (.iaload, 1) := by decide +kernel
theorem dX1_parksIn_36 : decode cX1_parksIn 36 = .ok (.if_icmp .lt 5, 3) := by decide +kernel
theorem dX1_parksIn_39 : decode cX1_parksIn 39 = .ok (.iconst 0, 1) := by decide +kernel
theorem dX1_parksIn_40 : decode cX1_parksIn 40 = .ok (.ireturn, 1) := by decide +kernel
theorem dX1_parksIn_41 : decode cX1_parksIn 41 = .ok (.aload_n 0, 1) := by decide +kernel
theorem dX1_parksIn_42 : decode cX1_parksIn 42 = .ok (.getfield 19, 3) := by decide +kernel
theorem dX1_parksIn_45 : decode cX1_parksIn 45 = .ok (.iload_n 2, 1) := by decide +kernel
theorem dX1_parksIn_46 : decode cX1_parksIn 46 = .ok (.dup2, 1) := by decide +kernel
theorem dX1_parksIn_47 : decode cX1_parksIn 47 = .ok (.iaload, 1) := by decide +kernel
theorem dX1_parksIn_48 : decode cX1_parksIn 48 = .ok (.iconst 1, 1) := by decide +kernel
theorem dX1_parksIn_49 : decode cX1_parksIn 49 = .ok (.iadd, 1) := by decide +kernel
theorem dX1_parksIn_50 : decode cX1_parksIn 50 = .ok (.iastore, 1) := by decide +kernel
theorem dX1_parksIn_51 : decode cX1_parksIn 51 = .ok (.aload_n 0, 1) := by decide +kernel
theorem dX1_parksIn_52 : decode cX1_parksIn 52 = .ok (.dup, 1) := by decide +kernel
theorem dX1_parksIn_53 : decode cX1_parksIn 53 = .ok (.getfield 45, 3) := by decide +kernel
theorem dX1_parksIn_56 : decode cX1_parksIn 56 = .ok (.iconst 1, 1) := by decide +kernel
theorem dX1_parksIn_57 : decode cX1_parksIn 57 = .ok (.iconst 2, 1) := by decide +kernel
theorem dX1_parksIn_58 : decode cX1_parksIn 58 = .ok (.iload_n 2, 1) := by decide +kernel
theorem dX1_parksIn_59 : decode cX1_parksIn 59 = .ok (.imul, 1) := by decide +kernel
theorem dX1_parksIn_60 : decode cX1_parksIn 60 = .ok (.ishl, 1) := by decide +kernel
theorem dX1_parksIn_61 : decode cX1_parksIn 61 = .ok (.iadd, 1) := by decide +kernel
theorem dX1_parksIn_62 : decode cX1_parksIn 62 = .ok (.putfield 45, 3) := by decide +kernel
theorem dX1_parksIn_65 : decode cX1_parksIn 65 = .ok (.aload_n 0, 1) := by decide +kernel
theorem dX1_parksIn_66 : decode cX1_parksIn 66 = .ok (.getfield 25, 3) := by decide +kernel
theorem dX1_parksIn_69 : decode cX1_parksIn 69 = .ok (.iload_n 1, 1) := by decide +kernel
theorem dX1_parksIn_70 : decode cX1_parksIn 70 = .ok (.iload_n 2, 1) := by decide +kernel
theorem dX1_parksIn_71 : decode cX1_parksIn 71 = .ok (.iastore, 1) := by decide +kernel
theorem dX1_parksIn_72 : decode cX1_parksIn 72 = .ok (.iconst 1, 1) := by decide +kernel
theorem dX1_parksIn_73 : decode cX1_parksIn 73 = .ok (.ireturn, 1) := by decide +kernel
theorem dX1_isCar_0 : decode cX1_isCar 0 = .ok (.iload_n 1, 1) := by decide +kernel
theorem dX1_isCar_1 : decode cX1_isCar 1 = .ok (.ifCond .lt 15, 3) := by decide +kernel
theorem dX1_isCar_4 : decode cX1_isCar 4 = .ok (.iload_n 1, 1) := by decide +kernel
theorem dX1_isCar_5 : decode cX1_isCar 5 = .ok (.aload_n 0, 1) := by decide +kernel
theorem dX1_isCar_6 : decode cX1_isCar 6 = .ok (.getfield 42, 3) := by decide +kernel
theorem dX1_isCar_9 : decode cX1_isCar 9 = .ok (.if_icmp .ge 7, 3) := by decide +kernel
theorem dX1_isCar_12 : decode cX1_isCar 12 = .ok (.iconst 1, 1) := by decide +kernel
theorem dX1_isCar_13 : decode cX1_isCar 13 = .ok (.goto 4, 3) := by decide +kernel
theorem dX1_isCar_16 : decode cX1_isCar 16 = .ok (.iconst 0, 1) := by decide +kernel
theorem dX1_isCar_17 : decode cX1_isCar 17 = .ok (.ireturn, 1) := by decide +kernel
set_option maxRecDepth 20000 in
theorem ggX1_hasLeft_X1_isCar : GoodIn wsX1_hasLeft wsX1_isCar := goodIn_r _ [6, 7, 8, 9, 10, 11, 12, 13, 14, 15, 16, 17] (by decide +kernel) (by decide +kernel)
set_option maxRecDepth 20000 in
theorem gX1_hasLeft_X1_isCar : GoodIn wsX1_hasLeft (wsV RX1 65 RX1 yX1_isCar wsX1_isCar) := goodIn_app (goodIn_of _ (by decide +kernel)) ggX1_hasLeft_X1_isCar
theorem dX1_hasLeft_0 : decode cX1_hasLeft 0 = .ok (.aload_n 0, 1) := by decide +kernel
theorem dX1_hasLeft_1 : decode cX1_hasLeft 1 = .ok (.iload_n 1, 1) := by decide +kernel
theorem dX1_hasLeft_2 : decode cX1_hasLeft 2 = .ok (.invokevirtual 65, 3) := by decide +kernel
theorem dX1_hasLeft_5 : decode cX1_hasLeft 5 = .ok (.ifCond .eq 17, 3) := by decide +kernel
theorem dX1_hasLeft_8 : decode cX1_hasLeft 8 = .ok (.aload_n 0, 1) := by decide +kernel
theorem dX1_hasLeft_9 : decode cX1_hasLeft 9 = .ok (.getfield 25, 3) := by decide +kernel
theorem dX1_hasLeft_12 : decode cX1_hasLeft 12 = .ok (.iload_n 1, 1) := by decide +kernel
theorem dX1_hasLeft_13 : decode cX1_hasLeft 13 = .ok (.iaload, 1) := by decide +kernel
theorem dX1_hasLeft_14 : decode cX1_hasLeft 14 = .ok (.iconst (-1), 1) := by decide +kernel
theorem dX1_hasLeft_15 : decode cX1_hasLeft 15 = .ok (.if_icmp .ne 7, 3) := by decide +kernel
theorem dX1_hasLeft_18 : decode cX1_hasLeft 18 = .ok (.iconst 1, 1) := by decide +kernel
theorem dX1_hasLeft_19 : decode cX1_hasLeft 19 = .ok (.goto 4, 3) := by decide +kernel
theorem dX1_hasLeft_22 : decode cX1_hasLeft 22 = .ok (.iconst 0, 1) := by decide +kernel
theorem dX1_hasLeft_23 : decode cX1_hasLeft 23 = .ok (.ireturn, 1) := by decide +kernel
set_option maxRecDepth 20000 in
theorem ggX1_isLuckyCar_X1_isCar : GoodIn wsX1_isLuckyCar wsX1_isCar := goodIn_r _ [7, 8, 9, 10, 11, 12, 13, 14, 15, 16, 17, 18] (by decide +kernel) (by decide +kernel)
set_option maxRecDepth 20000 in
theorem gX1_isLuckyCar_X1_isCar : GoodIn wsX1_isLuckyCar (wsV RX1 65 RX1 yX1_isCar wsX1_isCar) := goodIn_app (goodIn_of _ (by decide +kernel)) ggX1_isLuckyCar_X1_isCar
theorem dX1_isLuckyCar_0 : decode cX1_isLuckyCar 0 = .ok (.aload_n 0, 1) := by decide +kernel
theorem dX1_isLuckyCar_1 : decode cX1_isLuckyCar 1 = .ok (.iload_n 1, 1) := by decide +kernel
theorem dX1_isLuckyCar_2 : decode cX1_isLuckyCar 2 = .ok (.invokevirtual 65, 3) := by decide +kernel
theorem dX1_isLuckyCar_5 : decode cX1_isLuckyCar 5 = .ok (.ifCond .eq 22, 3) := by decide +kernel
theorem dX1_isLuckyCar_8 : decode cX1_isLuckyCar 8 = .ok (.aload_n 0, 1) := by decide +kernel
theorem dX1_isLuckyCar_9 : decode cX1_isLuckyCar 9 = .ok (.getfield 25, 3) := by decide +kernel
theorem dX1_isLuckyCar_12 : decode cX1_isLuckyCar 12 = .ok (.iload_n 1, 1) := by decide +kernel
theorem dX1_isLuckyCar_13 : decode cX1_isLuckyCar 13 = .ok (.iaload, 1) := by decide +kernel
theorem dX1_isLuckyCar_14 : decode cX1_isLuckyCar 14 = .ok (.aload_n 0, 1) := by decide +kernel
theorem dX1_isLuckyCar_15 : decode cX1_isLuckyCar 15 = .ok (.getfield 22, 3) := by decide +kernel
theorem dX1_isLuckyCar_18 : decode cX1_isLuckyCar 18 = .ok (.iload_n 1, 1) := by decide +kernel
theorem dX1_isLuckyCar_19 : decode cX1_isLuckyCar 19 = .ok (.iaload, 1) := by decide +kernel
theorem dX1_isLuckyCar_20 : decode cX1_isLuckyCar 20 = .ok (.if_icmp .ne 7, 3) := by decide +kernel
theorem dX1_isLuckyCar_23 : decode cX1_isLuckyCar 23 = .ok (.iconst 1, 1) := by decide +kernel
theorem dX1_isLuckyCar_24 : decode cX1_isLuckyCar 24 = .ok (.goto 4, 3) := by decide +kernel
theorem dX1_isLuckyCar_27 : decode cX1_isLuckyCar 27 = .ok (.iconst 0, 1) := by decide +kernel
theorem dX1_isLuckyCar_28 : decode cX1_isLuckyCar 28 = .ok (.ireturn, 1) := by decide +kernel
set_option maxRecDepth 20000 in
theorem ggX1_wishOf_X1_isCar : GoodIn wsX1_wishOf wsX1_isCar := goodIn_r _ [6, 7, 8, 9, 10, 11, 12, 13, 14, 15, 16, 17] (by decide +kernel) (by decide +kernel)
set_option maxRecDepth 20000 in
theorem gX1_wishOf_X1_isCar : GoodIn wsX1_wishOf (wsV RX1 65 RX1 yX1_isCar wsX1_isCar) := goodIn_app (goodIn_of _ (by decide +kernel)) ggX1_wishOf_X1_isCar
theorem dX1_wishOf_0 : decode cX1_wishOf 0 = .ok (.aload_n 0, 1) := by decide +kernel
theorem dX1_wishOf_1 : decode cX1_wishOf 1 = .ok (.iload_n 1, 1) := by decide +kernel
theorem dX1_wishOf_2 : decode cX1_wishOf 2 = .ok (.invokevirtual 65, 3) := by decide +kernel
theorem dX1_wishOf_5 : decode cX1_wishOf 5 = .ok (.ifCond .eq 12, 3) := by decide +kernel
theorem dX1_wishOf_8 : decode cX1_wishOf 8 = .ok (.aload_n 0, 1) := by decide +kernel
theorem dX1_wishOf_9 : decode cX1_wishOf 9 = .ok (.getfield 22, 3) := by decide +kernel
theorem dX1_wishOf_12 : decode cX1_wishOf 12 = .ok (.iload_n 1, 1) := by decide +kernel
theorem dX1_wishOf_13 : decode cX1_wishOf 13 = .ok (.iaload, 1) := by decide +kernel
theorem dX1_wishOf_14 : decode cX1_wishOf 14 = .ok (.goto 4, 3) := by decide +kernel
theorem dX1_wishOf_17 : decode cX1_wishOf 17 = .ok (.iconst 0, 1) := by decide +kernel
theorem dX1_wishOf_18 : decode cX1_wishOf 18 = .ok (.ireturn, 1) := by decide +kernel
theorem dX1_countOfLeavers_0 : decode cX1_countOfLeavers 0 = .ok (.iconst 0, 1) := by decide +kernel
theorem dX1_countOfLeavers_1 : decode cX1_countOfLeavers 1 = .ok (.istore_n 1, 1) := by decide +kernel
theorem dX1_countOfLeavers_2 : decode cX1_countOfLeavers 2 = .ok (.iconst 0, 1) := by decide +kernel
theorem dX1_countOfLeavers_3 : decode cX1_countOfLeavers 3 = .ok (.istore_n 2, 1) := by decide +kernel
theorem dX1_countOfLeavers_4 : decode cX1_countOfLeavers 4 = .ok (.iload_n 2, 1) := by decide +kernel
theorem dX1_countOfLeavers_5 : decode cX1_countOfLeavers 5 = .ok (.aload_n 0, 1) := by decide +kernel
theorem dX1_countOfLeavers_6 : decode cX1_countOfLeavers 6 = .ok (.getfield 42, 3) := by decide +kernel
theorem dX1_countOfLeavers_9 : decode cX1_countOfLeavers 9 = .ok (.if_icmp .ge 22, 3) := by decide +kernel
theorem dX1_countOfLeavers_12 : decode cX1_countOfLeavers 12 = .ok (.aload_n 0, 1) := by decide +kernel
theorem dX1_countOfLeavers_13 : decode cX1_countOfLeavers 13 = .ok (.getfield 25, 3) := by decide +kernel
theorem dX1_countOfLeavers_16 : decode cX1_countOfLeavers 16 = .ok (.iload_n 2, 1) := by decide +kernel
theorem dX1_countOfLeavers_17 : decode cX1_countOfLeavers 17 = .ok (.iaload, 1) := by decide +kernel
theorem dX1_countOfLeavers_18 : decode cX1_countOfLeavers 18 = .ok (.iconst (-1), 1) := by decide +kernel
theorem dX1_countOfLeavers_19 : decode cX1_countOfLeavers 19 = .ok (.if_icmp .ne 6, 3) := by decide +kernel
theorem dX1_countOfLeavers_22 : decode cX1_countOfLeavers 22 = .ok (.iinc 1 1, 3) := by decide +kernel
theorem dX1_countOfLeavers_25 : decode cX1_countOfLeavers 25 = .ok (.iinc 2 1, 3) := by decide +kernel
theorem dX1_countOfLeavers_28 : decode cX1_countOfLeavers 28 = .ok (.goto (-24), 3) := by decide +kernel
theorem dX1_countOfLeavers_31 : decode cX1_countOfLeavers 31 = .ok (.iload_n 1, 1) := by decide +kernel
theorem dX1_countOfLeavers_32 : decode cX1_countOfLeavers 32 = .ok (.ireturn, 1) := by decide +kernel
theorem dX1_firstLeaver_0 : decode cX1_firstLeaver 0 = .ok (.iconst 0, 1) := by decide +kernel
theorem dX1_firstLeaver_1 : decode cX1_firstLeaver 1 = .ok (.istore_n 1, 1) := by decide +kernel
theorem dX1_firstLeaver_2 : decode cX1_firstLeaver 2 = .ok (.iload_n 1, 1) := by decide +kernel
theorem dX1_firstLeaver_3 : decode cX1_firstLeaver 3 = .ok (.aload_n 0, 1) := by decide +kernel
theorem dX1_firstLeaver_4 : decode cX1_firstLeaver 4 = .ok (.getfield 42, 3) := by decide +kernel
theorem dX1_firstLeaver_7 : decode cX1_firstLeaver 7 = .ok (.if_icmp .ge 21, 3) := by decide +kernel
theorem dX1_firstLeaver_10 : decode cX1_firstLeaver 10 = .ok (.aload_n 0, 1) := by decide +kernel
theorem dX1_firstLeaver_11 : decode cX1_firstLeaver 11 = .ok (.getfield 25, 3) := by decide +kernel
theorem dX1_firstLeaver_14 : decode cX1_firstLeaver 14 = .ok (.iload_n 1, 1) := by decide +kernel
theorem dX1_firstLeaver_15 : decode cX1_firstLeaver 15 = .ok (.iaload, 1) := by decide +kernel
theorem dX1_firstLeaver_16 : decode cX1_firstLeaver 16 = .ok (.iconst (-1), 1) := by decide +kernel
theorem dX1_firstLeaver_17 : decode cX1_firstLeaver 17 = .ok (.if_icmp .ne 5, 3) := by decide +kernel
theorem dX1_firstLeaver_20 : decode cX1_firstLeaver 20 = .ok (.iload_n 1, 1) := by decide +kernel
theorem dX1_firstLeaver_21 : decode cX1_firstLeaver 21 = .ok (.ireturn, 1) := by decide +kernel
theorem dX1_firstLeaver_22 : decode cX1_firstLeaver 22 = .ok (.iinc 1 1, 3) := by decide +kernel
theorem dX1_firstLeaver_25 : decode cX1_firstLeaver 25 = .ok (.goto (-23), 3) := by decide +kernel
theorem dX1_firstLeaver_28 : decode cX1_firstLeaver 28 = .ok (.iconst (-1), 1) := by decide +kernel
theorem dX1_firstLeaver_29 : decode cX1_firstLeaver 29 = .ok (.ireturn, 1) := by decide +kernel
theorem dX1_setOfCarsIn_0 : decode cX1_setOfCarsIn 0 = .ok (.iconst 0, 1) := by decide +kernel
theorem dX1_setOfCarsIn_1 : decode cX1_setOfCarsIn 1 = .ok (.istore_n 2, 1) := by decide +kernel
theorem dX1_setOfCarsIn_2 : decode cX1_setOfCarsIn 2 = .ok (.iconst 0, 1) := by decide +kernel
theorem dX1_setOfCarsIn_3 : decode cX1_setOfCarsIn 3 = .ok (.istore_n 3, 1) := by decide +kernel
theorem dX1_setOfCarsIn_4 : decode cX1_setOfCarsIn 4 = .ok (.iload_n 3, 1) := by decide +kernel
theorem dX1_setOfCarsIn_5 : decode cX1_setOfCarsIn 5 = .ok (.aload_n 0, 1) := by decide +kernel
theorem dX1_setOfCarsIn_6 : decode cX1_setOfCarsIn 6 = .ok (.getfield 42, 3) := by decide +kernel
theorem dX1_setOfCarsIn_9 : decode cX1_setOfCarsIn 9 = .ok (.if_icmp .ge 25, 3) := by decide +kernel
theorem dX1_setOfCarsIn_12 : decode cX1_setOfCarsIn 12 = .ok (.aload_n 0, 1) := by decide +kernel
theorem dX1_setOfCarsIn_13 : decode cX1_setOfCarsIn 13 = .ok (.getfield 25, 3) := by decide +kernel
theorem dX1_setOfCarsIn_16 : decode cX1_setOfCarsIn 16 = .ok (.iload_n 3, 1) := by decide +kernel
theorem dX1_setOfCarsIn_17 : decode cX1_setOfCarsIn 17 = .ok (.iaload, 1) := by decide +kernel
theorem dX1_setOfCarsIn_18 : decode cX1_setOfCarsIn 18 = .ok (.iload_n 1, 1) := by decide +kernel
theorem dX1_setOfCarsIn_19 : decode cX1_setOfCarsIn 19 = .ok (.if_icmp .ne 9, 3) := by decide +kernel
theorem dX1_setOfCarsIn_22 : decode cX1_setOfCarsIn 22 = .ok (.iload_n 2, 1) := by decide +kernel
theorem dX1_setOfCarsIn_23 : decode cX1_setOfCarsIn 23 = .ok (.iconst 1, 1) := by decide +kernel
theorem dX1_setOfCarsIn_24 : decode cX1_setOfCarsIn 24 = .ok (.iload_n 3, 1) := by decide +kernel
theorem dX1_setOfCarsIn_25 : decode cX1_setOfCarsIn 25 = .ok (.ishl, 1) := by decide +kernel
theorem dX1_setOfCarsIn_26 : decode cX1_setOfCarsIn 26 = .ok (.ior, 1) := by decide +kernel
theorem dX1_setOfCarsIn_27 : decode cX1_setOfCarsIn 27 = .ok (.istore_n 2, 1) := by decide +kernel
theorem dX1_setOfCarsIn_28 : decode cX1_setOfCarsIn 28 = .ok (.iinc 3 1, 3) := by decide +kernel
theorem dX1_setOfCarsIn_31 : decode cX1_setOfCarsIn 31 = .ok (.goto (-27), 3) := by decide +kernel
theorem dX1_setOfCarsIn_34 : decode cX1_setOfCarsIn 34 = .ok (.iload_n 2, 1) := by decide +kernel
theorem dX1_setOfCarsIn_35 : decode cX1_setOfCarsIn 35 = .ok (.ireturn, 1) := by decide +kernel
theorem dX1_setOfLuckyCars_0 : decode cX1_setOfLuckyCars 0 = .ok (.iconst 0, 1) := by decide +kernel
theorem dX1_setOfLuckyCars_1 : decode cX1_setOfLuckyCars 1 = .ok (.istore_n 1, 1) := by decide +kernel
theorem dX1_setOfLuckyCars_2 : decode cX1_setOfLuckyCars 2 = .ok (.iconst 0, 1) := by decide +kernel
theorem dX1_setOfLuckyCars_3 : decode cX1_setOfLuckyCars 3 = .ok (.istore_n 2, 1) := by decide +kernel
theorem dX1_setOfLuckyCars_4 : decode cX1_setOfLuckyCars 4 = .ok (.iload_n 2, 1) := by decide +kernel
theorem dX1_setOfLuckyCars_5 : decode cX1_setOfLuckyCars 5 = .ok (.aload_n 0, 1) := by decide +kernel
theorem dX1_setOfLuckyCars_6 : decode cX1_setOfLuckyCars 6 = .ok (.getfield 42, 3) := by decide +kernel
theorem dX1_setOfLuckyCars_9 : decode cX1_setOfLuckyCars 9 = .ok (.if_icmp .ge 30, 3) := by decide +kernel
theorem dX1_setOfLuckyCars_12 : decode cX1_setOfLuckyCars 12 = .ok (.aload_n 0, 1) := by decide +kernel
theorem dX1_setOfLuckyCars_13 : decode cX1_setOfLuckyCars 13 = .ok (.getfield 25, 3) := by decide +kernel
theorem dX1_setOfLuckyCars_16 : decode cX1_setOfLuckyCars 16 = .ok (.iload_n 2, 1) := by decide +kernel
theorem dX1_setOfLuckyCars_17 : decode cX1_setOfLuckyCars 17 = .ok (.iaload, 1) := by decide +kernel
theorem dX1_setOfLuckyCars_18 : decode cX1_setOfLuckyCars 18 = .ok (.aload_n 0, 1) := by decide +kernel
theorem dX1_setOfLuckyCars_19 : decode cX1_setOfLuckyCars 19 = .ok (.getfield 22, 3) := by decide +kernel
theorem dX1_setOfLuckyCars_22 : decode cX1_setOfLuckyCars 22 = .ok (.iload_n 2, 1) := by decide +kernel
theorem dX1_setOfLuckyCars_23 : decode cX1_setOfLuckyCars 23 = .ok (.iaload, 1) := by decide +kernel
theorem dX1_setOfLuckyCars_24 : decode cX1_setOfLuckyCars 24 = .ok (.if_icmp .ne 9, 3) := by decide +kernel
theorem dX1_setOfLuckyCars_27 : decode cX1_setOfLuckyCars 27 = .ok (.iload_n 1, 1) := by decide +kernel
theorem dX1_setOfLuckyCars_28 : decode cX1_setOfLuckyCars 28 = .ok (.iconst 1, 1) := by decide +kernel
theorem dX1_setOfLuckyCars_29 : decode cX1_setOfLuckyCars 29 = .ok (.iload_n 2, 1) := by decide +kernel
theorem dX1_setOfLuckyCars_30 : decode cX1_setOfLuckyCars 30 = .ok (.ishl, 1) := by decide +kernel
theorem dX1_setOfLuckyCars_31 : decode cX1_setOfLuckyCars 31 = .ok (.ior, 1) := by decide +kernel
theorem dX1_setOfLuckyCars_32 : decode cX1_setOfLuckyCars 32 = .ok (.istore_n 1, 1) := by decide +kernel
theorem dX1_setOfLuckyCars_33 : decode cX1_setOfLuckyCars 33 = .ok (.iinc 2 1, 3) := by decide +kernel
theorem dX1_setOfLuckyCars_36 : decode cX1_setOfLuckyCars 36 = .ok (.goto (-32), 3) := by decide +kernel
theorem dX1_setOfLuckyCars_39 : decode cX1_setOfLuckyCars 39 = .ok (.iload_n 1, 1) := by decide +kernel
theorem dX1_setOfLuckyCars_40 : decode cX1_setOfLuckyCars 40 = .ok (.ireturn, 1) := by decide +kernel
theorem dX1_sumOfDistances_0 : decode cX1_sumOfDistances 0 = .ok (.iconst 0, 1) := by decide +kernel
theorem dX1_sumOfDistances_1 : decode cX1_sumOfDistances 1 = .ok (.istore_n 1, 1) := by decide +kernel
theorem dX1_sumOfDistances_2 : decode cX1_sumOfDistances 2 = .ok (.iconst 0, 1) := by decide +kernel
theorem dX1_sumOfDistances_3 : decode cX1_sumOfDistances 3 = .ok (.istore_n 2, 1) := by decide +kernel
theorem dX1_sumOfDistances_4 : decode cX1_sumOfDistances 4 = .ok (.iload_n 2, 1) := by decide +kernel
theorem dX1_sumOfDistances_5 : decode cX1_sumOfDistances 5 = .ok (.aload_n 0, 1) := by decide +kernel
theorem dX1_sumOfDistances_6 : decode cX1_sumOfDistances 6 = .ok (.getfield 42, 3) := by decide +kernel
theorem dX1_sumOfDistances_9 : decode cX1_sumOfDistances 9 = .ok (.if_icmp .ge 38, 3) := by decide +kernel
theorem dX1_sumOfDistances_12 : decode cX1_sumOfDistances 12 = .ok (.aload_n 0, 1) := by decide +kernel
theorem dX1_sumOfDistances_13 : decode cX1_sumOfDistances 13 = .ok (.getfield 25, 3) := by decide +kernel
theorem dX1_sumOfDistances_16 : decode cX1_sumOfDistances 16 = .ok (.iload_n 2, 1) := by decide +kernel
theorem dX1_sumOfDistances_17 : decode cX1_sumOfDistances 17 = .ok (.iaload, 1) := by decide +kernel
theorem dX1_sumOfDistances_18 : decode cX1_sumOfDistances 18 = .ok (.iconst (-1), 1) := by decide +kernel
theorem dX1_sumOfDistances_19 : decode cX1_sumOfDistances 19 = .ok (.if_icmp .eq 22, 3) := by decide +kernel
theorem dX1_sumOfDistances_22 : decode cX1_sumOfDistances 22 = .ok (.iload_n 1, 1) := by decide +kernel
theorem dX1_sumOfDistances_23 : decode cX1_sumOfDistances 23 = .ok (.aload_n 0, 1) := by decide +kernel
theorem dX1_sumOfDistances_24 : decode cX1_sumOfDistances 24 = .ok (.getfield 25, 3) := by decide +kernel
theorem dX1_sumOfDistances_27 : decode cX1_sumOfDistances 27 = .ok (.iload_n 2, 1) := by decide +kernel
theorem dX1_sumOfDistances_28 : decode cX1_sumOfDistances 28 = .ok (.iaload, 1) := by decide +kernel
theorem dX1_sumOfDistances_29 : decode cX1_sumOfDistances 29 = .ok (.aload_n 0, 1) := by decide +kernel
theorem dX1_sumOfDistances_30 : decode cX1_sumOfDistances 30 = .ok (.getfield 22, 3) := by decide +kernel
theorem dX1_sumOfDistances_33 : decode cX1_sumOfDistances 33 = .ok (.iload_n 2, 1) := by decide +kernel
theorem dX1_sumOfDistances_34 : decode cX1_sumOfDistances 34 = .ok (.iaload, 1) := by decide +kernel
theorem dX1_sumOfDistances_35 : decode cX1_sumOfDistances 35 = .ok (.isub, 1) := by decide +kernel
theorem dX1_sumOfDistances_36 : decode cX1_sumOfDistances 36 = .ok (.invokestatic 69, 3) := by decide +kernel
theorem dX1_sumOfDistances_39 : decode cX1_sumOfDistances 39 = .ok (.iadd, 1) := by decide +kernel
theorem dX1_sumOfDistances_40 : decode cX1_sumOfDistances 40 = .ok (.istore_n 1, 1) := by decide +kernel
theorem dX1_sumOfDistances_41 : decode cX1_sumOfDistances 41 = .ok (.iinc 2 1, 3) := by decide +kernel
theorem dX1_sumOfDistances_44 : decode cX1_sumOfDistances 44 = .ok (.goto (-40), 3) := by decide +kernel
theorem dX1_sumOfDistances_47 : decode cX1_sumOfDistances 47 = .ok (.iload_n 1, 1) := by decide +kernel
theorem dX1_sumOfDistances_48 : decode cX1_sumOfDistances 48 = .ok (.ireturn, 1) := by decide +kernel
theorem dX2_init_0 : decode cX2_init 0 = .ok (.aload_n 0, 1) := by decide +kernel
theorem dX2_init_1 : decode cX2_init 1 = .ok (.invokespecial 1, 3) := by decide +kernel
theorem dX2_init_4 : decode cX2_init 4 = .ok (.aload_n 0, 1) := by decide +kernel
theorem dX2_init_5 : decode cX2_init 5 = .ok (.sipush 1024, 3) := by decide +kernel
theorem dX2_init_8 : decode cX2_init 8 = .ok (.newarray .long, 2) := by decide +kernel
theorem dX2_init_10 : decode cX2_init 10 = .ok (.putfield 9, 3) := by decide +kernel
theorem dX2_init_13 : decode cX2_init 13 = .ok (.aload_n 0, 1) := by decide +kernel
theorem dX2_init_14 : decode cX2_init 14 = .ok (.sipush 1024, 3) := by decide +kernel
theorem dX2_init_17 : decode cX2_init 17 = .ok (.newarray .int, 2) := by decide +kernel
theorem dX2_init_19 : decode cX2_init 19 = .ok (.putfield 13, 3) := by decide +kernel
theorem dX2_init_22 : decode cX2_init 22 = .ok (.return_, 1) := by decide +kernel
set_option maxRecDepth 20000 in
theorem ggX2_clear_J7_fill_d0a16 : GoodIn wsX2_clear wsJ7_fill_d0a16 := goodIn_r _ [6] (by decide +kernel) (by decide +kernel)
set_option maxRecDepth 20000 in
theorem gX2_clear_J7_fill_d0a16 : GoodIn wsX2_clear (va_wsS RX2 19 yJ7_fill_d0a16 wsJ7_fill_d0a16) := goodIn_app (goodIn_of _ (by decide +kernel)) ggX2_clear_J7_fill_d0a16
theorem dX2_clear_0 : decode cX2_clear 0 = .ok (.aload_n 0, 1) := by decide +kernel
theorem dX2_clear_1 : decode cX2_clear 1 = .ok (.getfield 9, 3) := by decide +kernel
theorem dX2_clear_4 : decode cX2_clear 4 = .ok (.ldc2_w 17, 3) := by decide +kernel
theorem dX2_clear_7 : decode cX2_clear 7 = .ok (.invokestatic 19, 3) := by decide +kernel
theorem dX2_clear_10 : decode cX2_clear 10 = .ok (.return_, 1) := by decide +kernel
set_option maxRecDepth 20000 in
theorem ggX2_find_X2_slotOf : GoodIn wsX2_find wsX2_slotOf := goodIn_r _ [6, 7] (by decide +kernel) (by decide +kernel)
set_option maxRecDepth 20000 in
theorem gX2_find_X2_slotOf : GoodIn wsX2_find (va_wsS RX2 25 yX2_slotOf wsX2_slotOf) := goodIn_app (goodIn_of _ (by decide +kernel)) ggX2_find_X2_slotOf
theorem dX2_find_0 : decode cX2_find 0 = .ok (.lload_n 1, 1) := by decide +kernel
theorem dX2_find_1 : decode cX2_find 1 = .ok (.invokestatic 25, 3) := by decide +kernel
theorem dX2_find_4 : decode cX2_find 4 = .ok (.istore_n 3, 1) := by decide +kernel
theorem dX2_find_5 : decode cX2_find 5 = .ok (.aload_n 0, 1) := by decide +kernel
theorem dX2_find_6 : decode cX2_find 6 = .ok (.getfield 9, 3) := by decide +kernel
theorem dX2_find_9 : decode cX2_find 9 = .ok (.iload_n 3, 1) := by decide +kernel
theorem dX2_find_10 : decode cX2_find 10 = .ok (.laload, 1) := by decide +kernel
theorem dX2_find_11 : decode cX2_find 11 = .ok (.lload_n 1, 1) := by decide +kernel
theorem dX2_find_12 : decode cX2_find 12 = .ok (.lcmp, 1) := by decide +kernel
theorem dX2_find_13 : decode cX2_find 13 = .ok (.ifCond .ne 12, 3) := by decide +kernel
theorem dX2_find_16 : decode cX2_find 16 = .ok (.aload_n 0, 1) := by decide +kernel
theorem dX2_find_17 : decode cX2_find 17 = .ok (.getfield 13, 3) := by decide +kernel
theorem dX2_find_20 : decode cX2_find 20 = .ok (.iload_n 3, 1) := by decide +kernel
theorem dX2_find_21 : decode cX2_find 21 = .ok (.iaload, 1) := by decide +kernel
theorem dX2_find_22 : decode cX2_find 22 = .ok (.goto 4, 3) := by decide +kernel
theorem dX2_find_25 : decode cX2_find 25 = .ok (.iconst (-1), 1) := by decide +kernel
theorem dX2_find_26 : decode cX2_find 26 = .ok (.ireturn, 1) := by decide +kernel
set_option maxRecDepth 20000 in
theorem ggX2_put_X2_slotOf : GoodIn wsX2_put wsX2_slotOf := goodIn_r _ [6, 7] (by decide +kernel) (by decide +kernel)
set_option maxRecDepth 20000 in
theorem gX2_put_X2_slotOf : GoodIn wsX2_put (va_wsS RX2 25 yX2_slotOf wsX2_slotOf) := goodIn_app (goodIn_of _ (by decide +kernel)) ggX2_put_X2_slotOf
theorem dX2_put_0 : decode cX2_put 0 = .ok (.lload_n 1, 1) := by decide +kernel
theorem dX2_put_1 : decode cX2_put 1 = .ok (.invokestatic 25, 3) := by decide +kernel
theorem dX2_put_4 : decode cX2_put 4 = .ok (.istore 4, 2) := by decide +kernel
theorem dX2_put_6 : decode cX2_put 6 = .ok (.aload_n 0, 1) := by decide +kernel
theorem dX2_put_7 : decode cX2_put 7 = .ok (.getfield 9, 3) := by decide +kernel
theorem dX2_put_10 : decode cX2_put 10 = .ok (.iload 4, 2) := by decide +kernel
theorem dX2_put_12 : decode cX2_put 12 = .ok (.lload_n 1, 1) := by decide +kernel
theorem dX2_put_13 : decode cX2_put 13 = .ok (.lastore, 1) := by decide +kernel
theorem dX2_put_14 : decode cX2_put 14 = .ok (.aload_n 0, 1) := by decide +kernel
theorem dX2_put_15 : decode cX2_put 15 = .ok (.getfield 13, 3) := by decide +kernel
theorem dX2_put_18 : decode cX2_put 18 = .ok (.iload 4, 2) := by decide +kernel
theorem dX2_put_20 : decode cX2_put 20 = .ok (.iload_n 3, 1) := by decide +kernel
theorem dX2_put_21 : decode cX2_put 21 = .ok (.iastore, 1) := by decide +kernel
theorem dX2_put_22 : decode cX2_put 22 = .ok (.return_, 1) := by decide +kernel
theorem dX2_slotOf_0 : decode cX2_slotOf 0 = .ok (.lload_n 0, 1) := by decide +kernel
theorem dX2_slotOf_1 : decode cX2_slotOf 1 = .ok (.ldc2_w 29, 3) := by decide +kernel
theorem dX2_slotOf_4 : decode cX2_slotOf 4 = .ok (.lmul, 1) := by decide +kernel
theorem dX2_slotOf_5 : decode cX2_slotOf 5 = .ok (.bipush 54, 2) := by decide +kernel
theorem dX2_slotOf_7 : decode cX2_slotOf 7 = .ok (.lushr, 1) := by decide +kernel
theorem dX2_slotOf_8 : decode cX2_slotOf 8 = .ok (.l2i, 1) := by decide +kernel
theorem dX2_slotOf_9 : decode cX2_slotOf 9 = .ok (.ireturn, 1) := by decide +kernel
theorem dX3_init_0 : decode cX3_init 0 = .ok (.aload_n 0, 1) := by decide +kernel
theorem dX3_init_1 : decode cX3_init 1 = .ok (.invokespecial 3, 3) := by decide +kernel
theorem dX3_init_4 : decode cX3_init 4 = .ok (.aload_n 0, 1) := by decide +kernel
theorem dX3_init_5 : decode cX3_init 5 = .ok (.iload_n 1, 1) := by decide +kernel
theorem dX3_init_6 : decode cX3_init 6 = .ok (.putfield 9, 3) := by decide +kernel
theorem dX3_init_9 : decode cX3_init 9 = .ok (.aload_n 0, 1) := by decide +kernel
theorem dX3_init_10 : decode cX3_init 10 = .ok (.bipush 8, 2) := by decide +kernel
theorem dX3_init_12 : decode cX3_init 12 = .ok (.newarray .int, 2) := by decide +kernel
theorem dX3_init_14 : decode cX3_init 14 = .ok (.putfield 15, 3) := by decide +kernel
theorem dX3_init_17 : decode cX3_init 17 = .ok (.aload_n 0, 1) := by decide +kernel
theorem dX3_init_18 : decode cX3_init 18 = .ok (.bipush 8, 2) := by decide +kernel
theorem dX3_init_20 : decode cX3_init 20 = .ok (.newarray .int, 2) := by decide +kernel
theorem dX3_init_22 : decode cX3_init 22 = .ok (.putfield 19, 3) := by decide +kernel
theorem dX3_init_25 : decode cX3_init 25 = .ok (.return_, 1) := by decide +kernel
theorem dX4_init_0 : decode cX4_init 0 = .ok (.aload_n 0, 1) := by decide +kernel
theorem dX4_init_1 : decode cX4_init 1 = .ok (.invokespecial 3, 3) := by decide +kernel
theorem dX4_init_4 : decode cX4_init 4 = .ok (.aload_n 0, 1) := by decide +kernel
theorem dX4_init_5 : decode cX4_init 5 = .ok (.iload_n 1, 1) := by decide +kernel
theorem dX4_init_6 : decode cX4_init 6 = .ok (.putfield 9, 3) := by decide +kernel
theorem dX4_init_9 : decode cX4_init 9 = .ok (.aload_n 0, 1) := by decide +kernel
theorem dX4_init_10 : decode cX4_init 10 = .ok (.bipush 8, 2) := by decide +kernel
theorem dX4_init_12 : decode cX4_init 12 = .ok (.newarray .int, 2) := by decide +kernel
theorem dX4_init_14 : decode cX4_init 14 = .ok (.putfield 15, 3) := by decide +kernel
theorem dX4_init_17 : decode cX4_init 17 = .ok (.return_, 1) := by decide +kernel
theorem dX5_init_0 : decode cX5_init 0 = .ok (.aload_n 0, 1) := by decide +kernel
theorem dX5_init_1 : decode cX5_init 1 = .ok (.invokespecial 3, 3) := by decide +kernel
theorem dX5_init_4 : decode cX5_init 4 = .ok (.aload_n 0, 1) := by decide +kernel
theorem dX5_init_5 : decode cX5_init 5 = .ok (.bipush 8, 2) := by decide +kernel
theorem dX5_init_7 : decode cX5_init 7 = .ok (.newarray .int, 2) := by decide +kernel
theorem dX5_init_9 : decode cX5_init 9 = .ok (.putfield 9, 3) := by decide +kernel
theorem dX5_init_12 : decode cX5_init 12 = .ok (.aload_n 0, 1) := by decide +kernel
theorem dX5_init_13 : decode cX5_init 13 = .ok (.bipush 9, 2) := by decide +kernel
theorem dX5_init_15 : decode cX5_init 15 = .ok (.newarray .int, 2) := by decide +kernel
theorem dX5_init_17 : decode cX5_init 17 = .ok (.putfield 15, 3) := by decide +kernel
theorem dX5_init_20 : decode cX5_init 20 = .ok (.iconst 0, 1) := by decide +kernel
theorem dX5_init_21 : decode cX5_init 21 = .ok (.istore_n 1, 1) := by decide +kernel
theorem dX5_init_22 : decode cX5_init 22 = .ok (.iload_n 1, 1) := by decide +kernel
theorem dX5_init_23 : decode cX5_init 23 = .ok (.bipush 8, 2) := by decide +kernel
theorem dX5_init_25 : decode cX5_init 25 = .ok (.if_icmp .ge 16, 3) := by decide +kernel
theorem dX5_init_28 : decode cX5_init 28 = .ok (.aload_n 0, 1) := by decide +kernel
theorem dX5_init_29 : decode cX5_init 29 = .ok (.getfield 9, 3) := by decide +kernel
theorem dX5_init_32 : decode cX5_init 32 = .ok (.iload_n 1, 1) := by decide +kernel
theorem dX5_init_33 : decode cX5_init 33 = .ok (.iconst 1, 1) := by decide +kernel
theorem dX5_init_34 : decode cX5_init 34 = .ok (.iastore, 1) := by decide +kernel
theorem dX5_init_35 : decode cX5_init 35 = .ok (.iinc 1 1, 3) := by decide +kernel
theorem dX5_init_38 : decode cX5_init 38 = .ok (.goto (-16), 3) := by decide +kernel
theorem dX5_init_41 : decode cX5_init 41 = .ok (.return_, 1) := by decide +kernel
theorem dX5_copyFrom_0 : decode cX5_copyFrom 0 = .ok (.aload_n 1, 1) := by decide +kernel
theorem dX5_copyFrom_1 : decode cX5_copyFrom 1 = .ok (.getfield 9, 3) := by decide +kernel
theorem dX5_copyFrom_4 : decode cX5_copyFrom 4 = .ok (.iconst 0, 1) := by decide +kernel
theorem dX5_copyFrom_5 : decode cX5_copyFrom 5 = .ok (.aload_n 0, 1) := by decide +kernel
theorem dX5_copyFrom_6 : decode cX5_copyFrom 6 = .ok (.getfield 9, 3) := by decide +kernel
theorem dX5_copyFrom_9 : decode cX5_copyFrom 9 = .ok (.iconst 0, 1) := by decide +kernel
theorem dX5_copyFrom_10 : decode cX5_copyFrom 10 = .ok (.bipush 8, 2) := by decide +kernel
theorem dX5_copyFrom_12 : decode cX5_copyFrom 12 = .ok (.invokestatic 18, 3) := by decide +kernel
theorem dX5_copyFrom_15 : decode cX5_copyFrom 15 = .ok (.aload_n 1, 1) := by decide +kernel
theorem dX5_copyFrom_16 : decode cX5_copyFrom 16 = .ok (.getfield 15, 3) := by decide +kernel
theorem dX5_copyFrom_19 : decode cX5_copyFrom 19 = .ok (.iconst 0, 1) := by decide +kernel
theorem dX5_copyFrom_20 : decode cX5_copyFrom 20 = .ok (.aload_n 0, 1) := by decide +kernel
theorem dX5_copyFrom_21 : decode cX5_copyFrom 21 = .ok (.getfield 15, 3) := by decide +kernel
theorem dX5_copyFrom_24 : decode cX5_copyFrom 24 = .ok (.iconst 0, 1) := by decide +kernel
theorem dX5_copyFrom_25 : decode cX5_copyFrom 25 = .ok (.bipush 9, 2) := by decide +kernel
theorem dX5_copyFrom_27 : decode cX5_copyFrom 27 = .ok (.invokestatic 18, 3) := by decide +kernel
theorem dX5_copyFrom_30 : decode cX5_copyFrom 30 = .ok (.aload_n 0, 1) := by decide +kernel
theorem dX5_copyFrom_31 : decode cX5_copyFrom 31 = .ok (.aload_n 1, 1) := by decide +kernel
theorem dX5_copyFrom_32 : decode cX5_copyFrom 32 = .ok (.getfield 24, 3) := by decide +kernel
theorem dX5_copyFrom_35 : decode cX5_copyFrom 35 = .ok (.putfield 24, 3) := by decide +kernel
theorem dX5_copyFrom_38 : decode cX5_copyFrom 38 = .ok (.aload_n 0, 1) := by decide +kernel
theorem dX5_copyFrom_39 : decode cX5_copyFrom 39 = .ok (.aload_n 1, 1) := by decide +kernel
theorem dX5_copyFrom_40 : decode cX5_copyFrom 40 = .ok (.getfield 28, 3) := by decide +kernel
theorem dX5_copyFrom_43 : decode cX5_copyFrom 43 = .ok (.putfield 28, 3) := by decide +kernel
theorem dX5_copyFrom_46 : decode cX5_copyFrom 46 = .ok (.aload_n 0, 1) := by decide +kernel
theorem dX5_copyFrom_47 : decode cX5_copyFrom 47 = .ok (.aload_n 1, 1) := by decide +kernel
theorem dX5_copyFrom_48 : decode cX5_copyFrom 48 = .ok (.getfield 31, 3) := by decide +kernel
theorem dX5_copyFrom_51 : decode cX5_copyFrom 51 = .ok (.putfield 31, 3) := by decide +kernel
theorem dX5_copyFrom_54 : decode cX5_copyFrom 54 = .ok (.return_, 1) := by decide +kernel
theorem dX5_ruleNumber_0 : decode cX5_ruleNumber 0 = .ok (.bipush 10, 2) := by decide +kernel
theorem dX5_ruleNumber_2 : decode cX5_ruleNumber 2 = .ok (.aload_n 0, 1) := by decide +kernel
theorem dX5_ruleNumber_3 : decode cX5_ruleNumber 3 = .ok (.getfield 28, 3) := by decide +kernel
theorem dX5_ruleNumber_6 : decode cX5_ruleNumber 6 = .ok (.imul, 1) := by decide +kernel
theorem dX5_ruleNumber_7 : decode cX5_ruleNumber 7 = .ok (.aload_n 0, 1) := by decide +kernel
theorem dX5_ruleNumber_8 : decode cX5_ruleNumber 8 = .ok (.getfield 31, 3) := by decide +kernel
theorem dX5_ruleNumber_11 : decode cX5_ruleNumber 11 = .ok (.iadd, 1) := by decide +kernel
theorem dX5_ruleNumber_12 : decode cX5_ruleNumber 12 = .ok (.ireturn, 1) := by decide +kernel
set_option maxRecDepth 20000 in
theorem ggX5_countOfWishes_X5_countOfWishesBelow : GoodIn wsX5_countOfWishes wsX5_countOfWishesBelow := goodIn_r _ [5, 6, 7, 8, 9, 10, 11, 12] (by decide +kernel) (by decide +kernel)
set_option maxRecDepth 20000 in
theorem gX5_countOfWishes_X5_countOfWishesBelow : GoodIn wsX5_countOfWishes (wsV RX5 34 RX5 yX5_countOfWishesBelow wsX5_countOfWishesBelow) := goodIn_app (goodIn_of _ (by decide +kernel)) ggX5_countOfWishes_X5_countOfWishesBelow
theorem dX5_countOfWishes_0 : decode cX5_countOfWishes 0 = .ok (.aload_n 0, 1) := by decide +kernel
theorem dX5_countOfWishes_1 : decode cX5_countOfWishes 1 = .ok (.iload_n 1, 1) := by decide +kernel
theorem dX5_countOfWishes_2 : decode cX5_countOfWishes 2 = .ok (.iconst 1, 1) := by decide +kernel
theorem dX5_countOfWishes_3 : decode cX5_countOfWishes 3 = .ok (.iadd, 1) := by decide +kernel
theorem dX5_countOfWishes_4 : decode cX5_countOfWishes 4 = .ok (.invokevirtual 34, 3) := by decide +kernel
theorem dX5_countOfWishes_7 : decode cX5_countOfWishes 7 = .ok (.aload_n 0, 1) := by decide +kernel
theorem dX5_countOfWishes_8 : decode cX5_countOfWishes 8 = .ok (.iload_n 1, 1) := by decide +kernel
theorem dX5_countOfWishes_9 : decode cX5_countOfWishes 9 = .ok (.invokevirtual 34, 3) := by decide +kernel
theorem dX5_countOfWishes_12 : decode cX5_countOfWishes 12 = .ok (.isub, 1) := by decide +kernel
theorem dX5_countOfWishes_13 : decode cX5_countOfWishes 13 = .ok (.ireturn, 1) := by decide +kernel
theorem dX5_countOfWishesBelow_0 : decode cX5_countOfWishesBelow 0 = .ok (.iconst 0, 1) := by decide +kernel
theorem dX5_countOfWishesBelow_1 : decode cX5_countOfWishesBelow 1 = .ok (.istore_n 2, 1) := by decide +kernel
theorem dX5_countOfWishesBelow_2 : decode cX5_countOfWishesBelow 2 = .ok (.iconst 0, 1) := by decide +kernel
theorem dX5_countOfWishesBelow_3 : decode cX5_countOfWishesBelow 3 = .ok (.istore_n 3, 1) := by decide +kernel
theorem dX5_countOfWishesBelow_4 : decode cX5_countOfWishesBelow 4 = .ok (.iload_n 3, 1) := by decide +kernel
theorem dX5_countOfWishesBelow_5 : decode cX5_countOfWishesBelow 5 = .ok (.aload_n 0, 1) := by decide +kernel
theorem dX5_countOfWishesBelow_6 : decode cX5_countOfWishesBelow 6 = .ok (.getfield 24, 3) := by decide +kernel
theorem dX5_countOfWishesBelow_9 : decode cX5_countOfWishesBelow 9 = .ok (.if_icmp .ge 22, 3) := by decide +kernel
theorem dX5_countOfWishesBelow_12 : decode cX5_countOfWishesBelow 12 = .ok (.aload_n 0, 1) := by decide +kernel
theorem dX5_countOfWishesBelow_13 : decode cX5_countOfWishesBelow 13 = .ok (.getfield 15, 3) := by decide +kernel
theorem dX5_countOfWishesBelow_16 : decode cX5_countOfWishesBelow 16 = .ok (.iload_n 3, 1) := by decide +kernel
theorem dX5_countOfWishesBelow_17 : decode cX5_countOfWishesBelow 17 = .ok (.iaload, 1) := by decide +kernel
theorem dX5_countOfWishesBelow_18 : decode cX5_countOfWishesBelow 18 = .ok (.iload_n 1, 1) := by decide +kernel
theorem dX5_countOfWishesBelow_19 : decode cX5_countOfWishesBelow 19 = .ok (.if_icmp .ge 6, 3) := by decide +kernel
theorem dX5_countOfWishesBelow_22 : decode cX5_countOfWishesBelow 22 = .ok (.iinc 2 1, 3) := by decide +kernel
theorem dX5_countOfWishesBelow_25 : decode cX5_countOfWishesBelow 25 = .ok (.iinc 3 1, 3) := by decide +kernel
theorem dX5_countOfWishesBelow_28 : decode cX5_countOfWishesBelow 28 = .ok (.goto (-24), 3) := by decide +kernel
theorem dX5_countOfWishesBelow_31 : decode cX5_countOfWishesBelow 31 = .ok (.iload_n 2, 1) := by decide +kernel
theorem dX5_countOfWishesBelow_32 : decode cX5_countOfWishesBelow 32 = .ok (.ireturn, 1) := by decide +kernel
set_option maxRecDepth 20000 in
theorem ggX5_isStandardFor_X5_countOfWishesBelow : GoodIn wsX5_isStandardFor wsX5_countOfWishesBelow := goodIn_r _ [6, 1, 7, 8, 9, 10, 11, 12] (by decide +kernel) (by decide +kernel)
set_option maxRecDepth 20000 in
theorem gX5_isStandardFor_X5_countOfWishesBelow : GoodIn wsX5_isStandardFor (wsV RX5 34 RX5 yX5_countOfWishesBelow wsX5_countOfWishesBelow) := goodIn_app (goodIn_of _ (by decide +kernel)) ggX5_isStandardFor_X5_countOfWishesBelow
theorem dX5_isStandardFor_0 : decode cX5_isStandardFor 0 = .ok (.aload_n 0, 1) := by decide +kernel
theorem dX5_isStandardFor_1 : decode cX5_isStandardFor 1 = .ok (.getfield 24, 3) := by decide +kernel
theorem dX5_isStandardFor_4 : decode cX5_isStandardFor 4 = .ok (.iload_n 1, 1) := by decide +kernel
theorem dX5_isStandardFor_5 : decode cX5_isStandardFor 5 = .ok (.if_icmp .eq 5, 3) := by decide +kernel
theorem dX5_isStandardFor_8 : decode cX5_isStandardFor 8 = .ok (.iconst 0, 1) := by decide +kernel
theorem dX5_isStandardFor_9 : decode cX5_isStandardFor 9 = .ok (.ireturn, 1) := by decide +kernel
theorem dX5_isStandardFor_10 : decode cX5_isStandardFor 10 = .ok (.iconst 1, 1) := by decide +kernel
theorem dX5_isStandardFor_11 : decode cX5_isStandardFor 11 = .ok (.istore_n 2, 1) := by decide +kernel
theorem dX5_isStandardFor_12 : decode cX5_isStandardFor 12 = .ok (.iload_n 2, 1) := by decide +kernel
theorem dX5_isStandardFor_13 : decode cX5_isStandardFor 13 = .ok (.iload_n 1, 1) := by decide +kernel
theorem dX5_isStandardFor_14 : decode cX5_isStandardFor 14 = .ok (.if_icmp .gt 20, 3) := by decide +kernel
theorem dX5_isStandardFor_17 : decode cX5_isStandardFor 17 = .ok (.aload_n 0, 1) := by decide +kernel
theorem dX5_isStandardFor_18 : decode cX5_isStandardFor 18 = .ok (.iload_n 2, 1) := by decide +kernel
theorem dX5_isStandardFor_19 : decode cX5_isStandardFor 19 = .ok (.invokevirtual 34, 3) := by decide +kernel
theorem dX5_isStandardFor_22 : decode cX5_isStandardFor 22 = .ok (.iload_n 2, 1) := by decide +kernel
theorem dX5_isStandardFor_23 : decode cX5_isStandardFor 23 = .ok (.if_icmp .ge 5, 3) := by decide +kernel
theorem dX5_isStandardFor_26 : decode cX5_isStandardFor 26 = .ok (.iconst 0, 1) := by decide +kernel
theorem dX5_isStandardFor_27 : decode cX5_isStandardFor 27 = .ok (.ireturn, 1) := by decide +kernel
theorem dX5_isStandardFor_28 : decode cX5_isStandardFor 28 = .ok (.iinc 2 1, 3) := by decide +kernel
theorem dX5_isStandardFor_31 : decode cX5_isStandardFor 31 = .ok (.goto (-19), 3) := by decide +kernel
theorem dX5_isStandardFor_34 : decode cX5_isStandardFor 34 = .ok (.iconst 1, 1) := by decide +kernel
theorem dX5_isStandardFor_35 : decode cX5_isStandardFor 35 = .ok (.ireturn, 1) := by decide +kernel
