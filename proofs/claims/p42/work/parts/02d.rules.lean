set_option maxRecDepth 20000 in
theorem ggX6_init_X5_init : GoodIn wsX6_init wsX5_init := goodIn_r _ [43, 44, 2, 3, 36, 45, 46, 94, 95, 96, 97, 98] (by decide +kernel) (by decide +kernel)
set_option maxRecDepth 20000 in
theorem gX6_init_X5_init : GoodIn wsX6_init (wsX5_init) := ggX6_init_X5_init
set_option maxRecDepth 20000 in
theorem ggX6_init_X0_init : GoodIn wsX6_init wsX0_init := goodIn_r _ [49, 50, 2, 3, 51, 52, 13, 14, 53, 42, 43, 44, 36, 45, 46, 99, 100, 94, 95, 96, 97, 98] (by decide +kernel) (by decide +kernel)
set_option maxRecDepth 20000 in
theorem gX6_init_X0_init : GoodIn wsX6_init (wsX0_init) := ggX6_init_X0_init
set_option maxRecDepth 20000 in
theorem ggX6_init_X1_init : GoodIn wsX6_init wsX1_init := goodIn_r _ [56, 57, 2, 3, 58, 36, 59, 60, 61, 62, 63, 101, 102, 103, 104, 105, 106, 107, 108, 109, 110] (by decide +kernel) (by decide +kernel)
set_option maxRecDepth 20000 in
theorem gX6_init_X1_init : GoodIn wsX6_init (wsX1_init) := ggX6_init_X1_init
set_option maxRecDepth 20000 in
theorem ggX6_init_X2_init : GoodIn wsX6_init wsX2_init := goodIn_r _ [66, 67, 2, 3, 68, 69, 36, 70, 111, 112] (by decide +kernel) (by decide +kernel)
set_option maxRecDepth 20000 in
theorem gX6_init_X2_init : GoodIn wsX6_init (wsX2_init) := ggX6_init_X2_init
set_option maxRecDepth 20000 in
theorem ggX6_init_X3_init : GoodIn wsX6_init wsX3_init := goodIn_r _ [73, 74, 2, 3, 75, 36, 76, 77, 113, 114, 115] (by decide +kernel) (by decide +kernel)
set_option maxRecDepth 20000 in
theorem gX6_init_X3_init : GoodIn wsX6_init (wsX3_init) := ggX6_init_X3_init
set_option maxRecDepth 20000 in
theorem ggX6_init_X4_init : GoodIn wsX6_init wsX4_init := goodIn_r _ [80, 81, 2, 3, 82, 36, 83, 116, 117, 118, 119, 120, 121, 122] (by decide +kernel) (by decide +kernel)
set_option maxRecDepth 20000 in
theorem gX6_init_X4_init : GoodIn wsX6_init (wsX4_init) := ggX6_init_X4_init
theorem dX6_init_0 : decode cX6_init 0 = .ok (.aload_n 0, 1) := by decide +kernel
theorem dX6_init_1 : decode cX6_init 1 = .ok (.invokespecial 1, 3) := by decide +kernel
theorem dX6_init_4 : decode cX6_init 4 = .ok (.aload_n 0, 1) := by decide +kernel
theorem dX6_init_5 : decode cX6_init 5 = .ok (.iconst 1, 1) := by decide +kernel
theorem dX6_init_6 : decode cX6_init 6 = .ok (.bipush 8, 2) := by decide +kernel
theorem dX6_init_8 : decode cX6_init 8 = .ok (.iload_n 1, 1) := by decide +kernel
theorem dX6_init_9 : decode cX6_init 9 = .ok (.invokestatic 9, 3) := by decide +kernel
theorem dX6_init_12 : decode cX6_init 12 = .ok (.invokestatic 15, 3) := by decide +kernel
theorem dX6_init_15 : decode cX6_init 15 = .ok (.putfield 18, 3) := by decide +kernel
theorem dX6_init_18 : decode cX6_init 18 = .ok (.aload_n 0, 1) := by decide +kernel
theorem dX6_init_19 : decode cX6_init 19 = .ok (.new 22, 3) := by decide +kernel
theorem dX6_init_22 : decode cX6_init 22 = .ok (.dup, 1) := by decide +kernel
theorem dX6_init_23 : decode cX6_init 23 = .ok (.invokespecial 24, 3) := by decide +kernel
theorem dX6_init_26 : decode cX6_init 26 = .ok (.putfield 25, 3) := by decide +kernel
theorem dX6_init_29 : decode cX6_init 29 = .ok (.aload_n 0, 1) := by decide +kernel
theorem dX6_init_30 : decode cX6_init 30 = .ok (.new 29, 3) := by decide +kernel
theorem dX6_init_33 : decode cX6_init 33 = .ok (.dup, 1) := by decide +kernel
theorem dX6_init_34 : decode cX6_init 34 = .ok (.invokespecial 31, 3) := by decide +kernel
theorem dX6_init_37 : decode cX6_init 37 = .ok (.putfield 32, 3) := by decide +kernel
theorem dX6_init_40 : decode cX6_init 40 = .ok (.aload_n 0, 1) := by decide +kernel
theorem dX6_init_41 : decode cX6_init 41 = .ok (.new 36, 3) := by decide +kernel
theorem dX6_init_44 : decode cX6_init 44 = .ok (.dup, 1) := by decide +kernel
theorem dX6_init_45 : decode cX6_init 45 = .ok (.aload_n 0, 1) := by decide +kernel
theorem dX6_init_46 : decode cX6_init 46 = .ok (.getfield 18, 3) := by decide +kernel
theorem dX6_init_49 : decode cX6_init 49 = .ok (.invokespecial 38, 3) := by decide +kernel
theorem dX6_init_52 : decode cX6_init 52 = .ok (.putfield 41, 3) := by decide +kernel
theorem dX6_init_55 : decode cX6_init 55 = .ok (.aload_n 0, 1) := by decide +kernel
theorem dX6_init_56 : decode cX6_init 56 = .ok (.new 45, 3) := by decide +kernel
theorem dX6_init_59 : decode cX6_init 59 = .ok (.dup, 1) := by decide +kernel
theorem dX6_init_60 : decode cX6_init 60 = .ok (.invokespecial 47, 3) := by decide +kernel
theorem dX6_init_63 : decode cX6_init 63 = .ok (.putfield 48, 3) := by decide +kernel
theorem dX6_init_66 : decode cX6_init 66 = .ok (.aload_n 0, 1) := by decide +kernel
theorem dX6_init_67 : decode cX6_init 67 = .ok (.new 52, 3) := by decide +kernel
theorem dX6_init_70 : decode cX6_init 70 = .ok (.dup, 1) := by decide +kernel
theorem dX6_init_71 : decode cX6_init 71 = .ok (.aload_n 0, 1) := by decide +kernel
theorem dX6_init_72 : decode cX6_init 72 = .ok (.getfield 18, 3) := by decide +kernel
theorem dX6_init_75 : decode cX6_init 75 = .ok (.invokespecial 54, 3) := by decide +kernel
theorem dX6_init_78 : decode cX6_init 78 = .ok (.putfield 55, 3) := by decide +kernel
theorem dX6_init_81 : decode cX6_init 81 = .ok (.aload_n 0, 1) := by decide +kernel
theorem dX6_init_82 : decode cX6_init 82 = .ok (.new 59, 3) := by decide +kernel
theorem dX6_init_85 : decode cX6_init 85 = .ok (.dup, 1) := by decide +kernel
theorem dX6_init_86 : decode cX6_init 86 = .ok (.aload_n 0, 1) := by decide +kernel
theorem dX6_init_87 : decode cX6_init 87 = .ok (.getfield 18, 3) := by decide +kernel
theorem dX6_init_90 : decode cX6_init 90 = .ok (.invokespecial 61, 3) := by decide +kernel
theorem dX6_init_93 : decode cX6_init 93 = .ok (.putfield 62, 3) := by decide +kernel
theorem dX6_init_96 : decode cX6_init 96 = .ok (.aload_n 0, 1) := by decide +kernel
theorem dX6_init_97 : decode cX6_init 97 = .ok (.bipush 8, 2) := by decide +kernel
theorem dX6_init_99 : decode cX6_init 99 = .ok (.newarray .int, 2) := by decide +kernel
theorem dX6_init_101 : decode cX6_init 101 = .ok (.putfield 66, 3) := by decide +kernel
theorem dX6_init_104 : decode cX6_init 104 = .ok (.aload_n 0, 1) := by decide +kernel
theorem dX6_init_105 : decode cX6_init 105 = .ok (.bipush 40, 2) := by decide +kernel
theorem dX6_init_107 : decode cX6_init 107 = .ok (.newarray .char, 2) := by decide +kernel
theorem dX6_init_109 : decode cX6_init 109 = .ok (.putfield 70, 3) := by decide +kernel
theorem dX6_init_112 : decode cX6_init 112 = .ok (.aload_n 0, 1) := by decide +kernel
theorem dX6_init_113 : decode cX6_init 113 = .ok (.iconst 0, 1) := by decide +kernel
theorem dX6_init_114 : decode cX6_init 114 = .ok (.putfield 74, 3) := by decide +kernel
theorem dX6_init_117 : decode cX6_init 117 = .ok (.return_, 1) := by decide +kernel
theorem dX6_spaces_0 : decode cX6_spaces 0 = .ok (.aload_n 0, 1) := by decide +kernel
theorem dX6_spaces_1 : decode cX6_spaces 1 = .ok (.getfield 18, 3) := by decide +kernel
theorem dX6_spaces_4 : decode cX6_spaces 4 = .ok (.ireturn, 1) := by decide +kernel
set_option maxRecDepth 20000 in
theorem ggX6_setRule_X6_isUpTo : GoodIn wsX6_setRule wsX6_isUpTo := goodIn_r _ [8] (by decide +kernel) (by decide +kernel)
set_option maxRecDepth 20000 in
theorem gX6_setRule_X6_isUpTo : GoodIn wsX6_setRule (va_wsS RX6 77 yX6_isUpTo wsX6_isUpTo) := goodIn_app (goodIn_of _ (by decide +kernel)) ggX6_setRule_X6_isUpTo
set_option maxRecDepth 20000 in
theorem ggX6_setRule_X6_requireArgument : GoodIn wsX6_setRule wsX6_requireArgument := goodIn_ca (goodIn_r _ [11, 12, 13] (by decide +kernel) (by decide +kernel)) (goodIn_sub (fun _ h => List.mem_cons_of_mem _ (List.mem_append_right _ h)) (by decide +kernel))
set_option maxRecDepth 20000 in
theorem gX6_setRule_X6_requireArgument : GoodIn wsX6_setRule (va_wsS RX6 81 yX6_requireArgument wsX6_requireArgument) := goodIn_app (goodIn_of _ (by decide +kernel)) ggX6_setRule_X6_requireArgument
set_option maxRecDepth 20000 in
theorem ggX6_setRule_X0_keep : GoodIn wsX6_setRule wsX0_keep := goodIn_r _ [18, 19, 20, 21, 22, 23, 17, 24, 25, 26, 27, 28, 29, 30, 31, 32, 33, 34, 35, 36, 37, 38, 58, 59, 53, 54, 55, 56, 57] (by decide +kernel) (by decide +kernel)
set_option maxRecDepth 20000 in
theorem gX6_setRule_X0_keep : GoodIn wsX6_setRule (wsV RX6 85 RX0 yX0_keep wsX0_keep) := goodIn_app (goodIn_of _ (by decide +kernel)) ggX6_setRule_X0_keep
set_option maxRecDepth 20000 in
theorem ggX6_setRule_X5_ruleNumber : GoodIn wsX6_setRule wsX5_ruleNumber := goodIn_r _ [42, 37, 38, 53, 54, 55, 56, 57] (by decide +kernel) (by decide +kernel)
set_option maxRecDepth 20000 in
theorem gX6_setRule_X5_ruleNumber : GoodIn wsX6_setRule (wsV RX6 89 RX5 yX5_ruleNumber wsX5_ruleNumber) := goodIn_app (goodIn_of _ (by decide +kernel)) ggX6_setRule_X5_ruleNumber
theorem dX6_setRule_0 : decode cX6_setRule 0 = .ok (.iload_n 1, 1) := by decide +kernel
theorem dX6_setRule_1 : decode cX6_setRule 1 = .ok (.iconst 3, 1) := by decide +kernel
theorem dX6_setRule_2 : decode cX6_setRule 2 = .ok (.invokestatic 77, 3) := by decide +kernel
theorem dX6_setRule_5 : decode cX6_setRule 5 = .ok (.ifCond .eq 16, 3) := by decide +kernel
theorem dX6_setRule_8 : decode cX6_setRule 8 = .ok (.iload_n 2, 1) := by decide +kernel
theorem dX6_setRule_9 : decode cX6_setRule 9 = .ok (.bipush 8, 2) := by decide +kernel
theorem dX6_setRule_11 : decode cX6_setRule 11 = .ok (.invokestatic 77, 3) := by decide +kernel
theorem dX6_setRule_14 : decode cX6_setRule 14 = .ok (.ifCond .eq 7, 3) := by decide +kernel
theorem dX6_setRule_17 : decode cX6_setRule 17 = .ok (.iconst 1, 1) := by decide +kernel
theorem dX6_setRule_18 : decode cX6_setRule 18 = .ok (.goto 4, 3) := by decide +kernel
theorem dX6_setRule_21 : decode cX6_setRule 21 = .ok (.iconst 0, 1) := by decide +kernel
theorem dX6_setRule_22 : decode cX6_setRule 22 = .ok (.invokestatic 81, 3) := by decide +kernel
theorem dX6_setRule_25 : decode cX6_setRule 25 = .ok (.aload_n 0, 1) := by decide +kernel
theorem dX6_setRule_26 : decode cX6_setRule 26 = .ok (.getfield 32, 3) := by decide +kernel
theorem dX6_setRule_29 : decode cX6_setRule 29 = .ok (.aload_n 0, 1) := by decide +kernel
theorem dX6_setRule_30 : decode cX6_setRule 30 = .ok (.getfield 25, 3) := by decide +kernel
theorem dX6_setRule_33 : decode cX6_setRule 33 = .ok (.invokevirtual 85, 3) := by decide +kernel
theorem dX6_setRule_36 : decode cX6_setRule 36 = .ok (.aload_n 0, 1) := by decide +kernel
theorem dX6_setRule_37 : decode cX6_setRule 37 = .ok (.getfield 25, 3) := by decide +kernel
theorem dX6_setRule_40 : decode cX6_setRule 40 = .ok (.invokevirtual 89, 3) := by decide +kernel
theorem dX6_setRule_43 : decode cX6_setRule 43 = .ok (.istore_n 3, 1) := by decide +kernel
theorem dX6_setRule_44 : decode cX6_setRule 44 = .ok (.aload_n 0, 1) := by decide +kernel
theorem dX6_setRule_45 : decode cX6_setRule 45 = .ok (.getfield 25, 3) := by decide +kernel
theorem dX6_setRule_48 : decode cX6_setRule 48 = .ok (.iload_n 1, 1) := by decide +kernel
theorem dX6_setRule_49 : decode cX6_setRule 49 = .ok (.putfield 93, 3) := by decide +kernel
theorem dX6_setRule_52 : decode cX6_setRule 52 = .ok (.aload_n 0, 1) := by decide +kernel
theorem dX6_setRule_53 : decode cX6_setRule 53 = .ok (.getfield 25, 3) := by decide +kernel
theorem dX6_setRule_56 : decode cX6_setRule 56 = .ok (.iload_n 2, 1) := by decide +kernel
theorem dX6_setRule_57 : decode cX6_setRule 57 = .ok (.putfield 96, 3) := by decide +kernel
theorem dX6_setRule_60 : decode cX6_setRule 60 = .ok (.iload_n 3, 1) := by decide +kernel
theorem dX6_setRule_61 : decode cX6_setRule 61 = .ok (.ireturn, 1) := by decide +kernel
set_option maxRecDepth 20000 in
theorem ggX6_setCapacity_X6_requireIndex : GoodIn wsX6_setCapacity wsX6_requireIndex := goodIn_ca (goodIn_r _ [8, 9, 10] (by decide +kernel) (by decide +kernel)) (goodIn_sub (fun _ h => List.mem_cons_of_mem _ (List.mem_append_left _ (List.mem_append_right _ h))) (by decide +kernel))
set_option maxRecDepth 20000 in
theorem gX6_setCapacity_X6_requireIndex : GoodIn wsX6_setCapacity (va_wsS RX6 99 yX6_requireIndex wsX6_requireIndex) := goodIn_app (goodIn_of _ (by decide +kernel)) ggX6_setCapacity_X6_requireIndex
set_option maxRecDepth 20000 in
theorem ggX6_setCapacity_X6_isUpTo : GoodIn wsX6_setCapacity wsX6_isUpTo := goodIn_r _ [13] (by decide +kernel) (by decide +kernel)
set_option maxRecDepth 20000 in
theorem gX6_setCapacity_X6_isUpTo : GoodIn wsX6_setCapacity (va_wsS RX6 77 yX6_isUpTo wsX6_isUpTo) := goodIn_app (goodIn_of _ (by decide +kernel)) ggX6_setCapacity_X6_isUpTo
set_option maxRecDepth 20000 in
theorem ggX6_setCapacity_X6_requireArgument : GoodIn wsX6_setCapacity wsX6_requireArgument := goodIn_ca (goodIn_r _ [16, 17, 18] (by decide +kernel) (by decide +kernel)) (goodIn_sub (fun _ h => List.mem_cons_of_mem _ (List.mem_append_right _ h)) (by decide +kernel))
set_option maxRecDepth 20000 in
theorem gX6_setCapacity_X6_requireArgument : GoodIn wsX6_setCapacity (va_wsS RX6 81 yX6_requireArgument wsX6_requireArgument) := goodIn_app (goodIn_of _ (by decide +kernel)) ggX6_setCapacity_X6_requireArgument
set_option maxRecDepth 20000 in
theorem ggX6_setCapacity_X0_keep : GoodIn wsX6_setCapacity wsX0_keep := goodIn_r _ [23, 24, 25, 26, 27, 28, 22, 29, 30, 31, 32, 33, 34, 35, 36, 37, 38, 39, 40, 41, 42, 43, 59, 60, 54, 55, 56, 57, 58] (by decide +kernel) (by decide +kernel)
set_option maxRecDepth 20000 in
theorem gX6_setCapacity_X0_keep : GoodIn wsX6_setCapacity (wsV RX6 85 RX0 yX0_keep wsX0_keep) := goodIn_app (goodIn_of _ (by decide +kernel)) ggX6_setCapacity_X0_keep
theorem dX6_setCapacity_0 : decode cX6_setCapacity 0 = .ok (.iload_n 1, 1) := by decide +kernel
theorem dX6_setCapacity_1 : decode cX6_setCapacity 1 = .ok (.aload_n 0, 1) := by decide +kernel
theorem dX6_setCapacity_2 : decode cX6_setCapacity 2 = .ok (.getfield 18, 3) := by decide +kernel
theorem dX6_setCapacity_5 : decode cX6_setCapacity 5 = .ok (.invokestatic 99, 3) := by decide +kernel
theorem dX6_setCapacity_8 : decode cX6_setCapacity 8 = .ok (.iload_n 2, 1) := by decide +kernel
theorem dX6_setCapacity_9 : decode cX6_setCapacity 9 = .ok (.iconst 3, 1) := by decide +kernel
theorem dX6_setCapacity_10 : decode cX6_setCapacity 10 = .ok (.invokestatic 77, 3) := by decide +kernel
theorem dX6_setCapacity_13 : decode cX6_setCapacity 13 = .ok (.invokestatic 81, 3) := by decide +kernel
theorem dX6_setCapacity_16 : decode cX6_setCapacity 16 = .ok (.aload_n 0, 1) := by decide +kernel
theorem dX6_setCapacity_17 : decode cX6_setCapacity 17 = .ok (.getfield 32, 3) := by decide +kernel
theorem dX6_setCapacity_20 : decode cX6_setCapacity 20 = .ok (.aload_n 0, 1) := by decide +kernel
theorem dX6_setCapacity_21 : decode cX6_setCapacity 21 = .ok (.getfield 25, 3) := by decide +kernel
theorem dX6_setCapacity_24 : decode cX6_setCapacity 24 = .ok (.invokevirtual 85, 3) := by decide +kernel
theorem dX6_setCapacity_27 : decode cX6_setCapacity 27 = .ok (.aload_n 0, 1) := by decide +kernel
theorem dX6_setCapacity_28 : decode cX6_setCapacity 28 = .ok (.getfield 25, 3) := by decide +kernel
theorem dX6_setCapacity_31 : decode cX6_setCapacity 31 = .ok (.getfield 103, 3) := by decide +kernel
theorem dX6_setCapacity_34 : decode cX6_setCapacity 34 = .ok (.iload_n 1, 1) := by decide +kernel
theorem dX6_setCapacity_35 : decode cX6_setCapacity 35 = .ok (.iaload, 1) := by decide +kernel
theorem dX6_setCapacity_36 : decode cX6_setCapacity 36 = .ok (.istore_n 3, 1) := by decide +kernel
theorem dX6_setCapacity_37 : decode cX6_setCapacity 37 = .ok (.aload_n 0, 1) := by decide +kernel
theorem dX6_setCapacity_38 : decode cX6_setCapacity 38 = .ok (.getfield 25, 3) := by decide +kernel
theorem dX6_setCapacity_41 : decode cX6_setCapacity 41 = .ok (.getfield 103, 3) := by decide +kernel
theorem dX6_setCapacity_44 : decode cX6_setCapacity 44 = .ok (.iload_n 1, 1) := by decide +kernel
theorem dX6_setCapacity_45 : decode cX6_setCapacity 45 = .ok (.iload_n 2, 1) := by decide +kernel
theorem dX6_setCapacity_46 : decode cX6_setCapacity 46 = .ok (.iastore, 1) := by decide +kernel
theorem dX6_setCapacity_47 : decode cX6_setCapacity 47 = .ok (.iload_n 3, 1) := by decide +kernel
theorem dX6_setCapacity_48 : decode cX6_setCapacity 48 = .ok (.ireturn, 1) := by decide +kernel
set_option maxRecDepth 20000 in
theorem ggX6_addCar_X6_isUpTo : GoodIn wsX6_addCar wsX6_isUpTo := goodIn_r _ [9] (by decide +kernel) (by decide +kernel)
set_option maxRecDepth 20000 in
theorem gX6_addCar_X6_isUpTo : GoodIn wsX6_addCar (va_wsS RX6 77 yX6_isUpTo wsX6_isUpTo) := goodIn_app (goodIn_of _ (by decide +kernel)) ggX6_addCar_X6_isUpTo
set_option maxRecDepth 20000 in
theorem ggX6_addCar_X6_requireArgument : GoodIn wsX6_addCar wsX6_requireArgument := goodIn_ca (goodIn_r _ [12, 13, 14] (by decide +kernel) (by decide +kernel)) (goodIn_sub (fun _ h => List.mem_cons_of_mem _ (List.mem_append_left _ (List.mem_append_right _ h))) (by decide +kernel))
set_option maxRecDepth 20000 in
theorem gX6_addCar_X6_requireArgument : GoodIn wsX6_addCar (va_wsS RX6 81 yX6_requireArgument wsX6_requireArgument) := goodIn_app (goodIn_of _ (by decide +kernel)) ggX6_addCar_X6_requireArgument
set_option maxRecDepth 20000 in
theorem ggX6_addCar_X6_requireState : GoodIn wsX6_addCar wsX6_requireState := goodIn_ca (goodIn_r _ [17, 18, 19] (by decide +kernel) (by decide +kernel)) (goodIn_sub (fun _ h => List.mem_cons_of_mem _ (List.mem_append_right _ h)) (by decide +kernel))
set_option maxRecDepth 20000 in
theorem gX6_addCar_X6_requireState : GoodIn wsX6_addCar (va_wsS RX6 109 yX6_requireState wsX6_requireState) := goodIn_app (goodIn_of _ (by decide +kernel)) ggX6_addCar_X6_requireState
set_option maxRecDepth 20000 in
theorem ggX6_addCar_X0_keep : GoodIn wsX6_addCar wsX0_keep := goodIn_r _ [24, 25, 26, 27, 28, 29, 23, 30, 31, 32, 33, 34, 35, 36, 37, 38, 39, 40, 41, 42, 43, 44, 60, 61, 55, 56, 57, 58, 59] (by decide +kernel) (by decide +kernel)
set_option maxRecDepth 20000 in
theorem gX6_addCar_X0_keep : GoodIn wsX6_addCar (wsV RX6 85 RX0 yX0_keep wsX0_keep) := goodIn_app (goodIn_of _ (by decide +kernel)) ggX6_addCar_X0_keep
theorem dX6_addCar_0 : decode cX6_addCar 0 = .ok (.iload_n 1, 1) := by decide +kernel
theorem dX6_addCar_1 : decode cX6_addCar 1 = .ok (.aload_n 0, 1) := by decide +kernel
theorem dX6_addCar_2 : decode cX6_addCar 2 = .ok (.getfield 18, 3) := by decide +kernel
theorem dX6_addCar_5 : decode cX6_addCar 5 = .ok (.iconst 1, 1) := by decide +kernel
theorem dX6_addCar_6 : decode cX6_addCar 6 = .ok (.isub, 1) := by decide +kernel
theorem dX6_addCar_7 : decode cX6_addCar 7 = .ok (.invokestatic 77, 3) := by decide +kernel
theorem dX6_addCar_10 : decode cX6_addCar 10 = .ok (.invokestatic 81, 3) := by decide +kernel
theorem dX6_addCar_13 : decode cX6_addCar 13 = .ok (.aload_n 0, 1) := by decide +kernel
theorem dX6_addCar_14 : decode cX6_addCar 14 = .ok (.getfield 25, 3) := by decide +kernel
theorem dX6_addCar_17 : decode cX6_addCar 17 = .ok (.getfield 106, 3) := by decide +kernel
theorem dX6_addCar_20 : decode cX6_addCar 20 = .ok (.bipush 9, 2) := by decide +kernel
theorem dX6_addCar_22 : decode cX6_addCar 22 = .ok (.if_icmp .ge 7, 3) := by decide +kernel
theorem dX6_addCar_25 : decode cX6_addCar 25 = .ok (.iconst 1, 1) := by decide +kernel
theorem dX6_addCar_26 : decode cX6_addCar 26 = .ok (.goto 4, 3) := by decide +kernel
theorem dX6_addCar_29 : decode cX6_addCar 29 = .ok (.iconst 0, 1) := by decide +kernel
theorem dX6_addCar_30 : decode cX6_addCar 30 = .ok (.invokestatic 109, 3) := by decide +kernel
theorem dX6_addCar_33 : decode cX6_addCar 33 = .ok (.aload_n 0, 1) := by decide +kernel
theorem dX6_addCar_34 : decode cX6_addCar 34 = .ok (.getfield 32, 3) := by decide +kernel
theorem dX6_addCar_37 : decode cX6_addCar 37 = .ok (.aload_n 0, 1) := by decide +kernel
theorem dX6_addCar_38 : decode cX6_addCar 38 = .ok (.getfield 25, 3) := by decide +kernel
theorem dX6_addCar_41 : decode cX6_addCar 41 = .ok (.invokevirtual 85, 3) := by decide +kernel
theorem dX6_addCar_44 : decode cX6_addCar 44 = .ok (.aload_n 0, 1) := by decide +kernel
theorem dX6_addCar_45 : decode cX6_addCar 45 = .ok (.getfield 25, 3) := by decide +kernel
theorem dX6_addCar_48 : decode cX6_addCar 48 = .ok (.getfield 106, 3) := by decide +kernel
theorem dX6_addCar_51 : decode cX6_addCar 51 = .ok (.istore_n 2, 1) := by decide +kernel
theorem dX6_addCar_52 : decode cX6_addCar 52 = .ok (.aload_n 0, 1) := by decide +kernel
theorem dX6_addCar_53 : decode cX6_addCar 53 = .ok (.getfield 25, 3) := by decide +kernel
theorem dX6_addCar_56 : decode cX6_addCar 56 = .ok (.getfield 112, 3) := by decide +kernel
theorem dX6_addCar_59 : decode cX6_addCar 59 = .ok (.iload_n 2, 1) := by decide +kernel
theorem dX6_addCar_60 : decode cX6_addCar 60 = .ok (.iload_n 1, 1) := by decide +kernel
theorem dX6_addCar_61 : decode cX6_addCar 61 = .ok (.iastore, 1) := by decide +kernel
theorem dX6_addCar_62 : decode cX6_addCar 62 = .ok (.aload_n 0, 1) := by decide +kernel
theorem dX6_addCar_63 : decode cX6_addCar 63 = .ok (.getfield 25, 3) := by decide +kernel
theorem dX6_addCar_66 : decode cX6_addCar 66 = .ok (.iload_n 2, 1) := by decide +kernel
theorem dX6_addCar_67 : decode cX6_addCar 67 = .ok (.iconst 1, 1) := by decide +kernel
theorem dX6_addCar_68 : decode cX6_addCar 68 = .ok (.iadd, 1) := by decide +kernel
theorem dX6_addCar_69 : decode cX6_addCar 69 = .ok (.putfield 106, 3) := by decide +kernel
theorem dX6_addCar_72 : decode cX6_addCar 72 = .ok (.iload_n 2, 1) := by decide +kernel
theorem dX6_addCar_73 : decode cX6_addCar 73 = .ok (.ireturn, 1) := by decide +kernel
set_option maxRecDepth 20000 in
theorem ggX6_setPreference_X6_requireIndex : GoodIn wsX6_setPreference wsX6_requireIndex := goodIn_ca (goodIn_r _ [9, 10, 11] (by decide +kernel) (by decide +kernel)) (goodIn_sub (fun _ h => List.mem_cons_of_mem _ (List.mem_append_left _ (List.mem_append_right _ h))) (by decide +kernel))
set_option maxRecDepth 20000 in
theorem gX6_setPreference_X6_requireIndex : GoodIn wsX6_setPreference (va_wsS RX6 99 yX6_requireIndex wsX6_requireIndex) := goodIn_app (goodIn_of _ (by decide +kernel)) ggX6_setPreference_X6_requireIndex
set_option maxRecDepth 20000 in
theorem ggX6_setPreference_X6_isUpTo : GoodIn wsX6_setPreference wsX6_isUpTo := goodIn_r _ [14] (by decide +kernel) (by decide +kernel)
set_option maxRecDepth 20000 in
theorem gX6_setPreference_X6_isUpTo : GoodIn wsX6_setPreference (va_wsS RX6 77 yX6_isUpTo wsX6_isUpTo) := goodIn_app (goodIn_of _ (by decide +kernel)) ggX6_setPreference_X6_isUpTo
set_option maxRecDepth 20000 in
theorem ggX6_setPreference_X6_requireArgument : GoodIn wsX6_setPreference wsX6_requireArgument := goodIn_ca (goodIn_r _ [17, 18, 19] (by decide +kernel) (by decide +kernel)) (goodIn_sub (fun _ h => List.mem_cons_of_mem _ (List.mem_append_right _ h)) (by decide +kernel))
set_option maxRecDepth 20000 in
theorem gX6_setPreference_X6_requireArgument : GoodIn wsX6_setPreference (va_wsS RX6 81 yX6_requireArgument wsX6_requireArgument) := goodIn_app (goodIn_of _ (by decide +kernel)) ggX6_setPreference_X6_requireArgument
set_option maxRecDepth 20000 in
theorem ggX6_setPreference_X0_keep : GoodIn wsX6_setPreference wsX0_keep := goodIn_r _ [24, 25, 26, 27, 28, 29, 23, 30, 31, 32, 33, 34, 35, 36, 37, 38, 39, 40, 41, 42, 43, 44, 60, 61, 55, 56, 57, 58, 59] (by decide +kernel) (by decide +kernel)
set_option maxRecDepth 20000 in
theorem gX6_setPreference_X0_keep : GoodIn wsX6_setPreference (wsV RX6 85 RX0 yX0_keep wsX0_keep) := goodIn_app (goodIn_of _ (by decide +kernel)) ggX6_setPreference_X0_keep
theorem dX6_setPreference_0 : decode cX6_setPreference 0 = .ok (.iload_n 1, 1) := by decide +kernel
theorem dX6_setPreference_1 : decode cX6_setPreference 1 = .ok (.aload_n 0, 1) := by decide +kernel
theorem dX6_setPreference_2 : decode cX6_setPreference 2 = .ok (.getfield 25, 3) := by decide +kernel
theorem dX6_setPreference_5 : decode cX6_setPreference 5 = .ok (.getfield 106, 3) := by decide +kernel
theorem dX6_setPreference_8 : decode cX6_setPreference 8 = .ok (.invokestatic 99, 3) := by decide +kernel
theorem dX6_setPreference_11 : decode cX6_setPreference 11 = .ok (.iload_n 2, 1) := by decide +kernel
theorem dX6_setPreference_12 : decode cX6_setPreference 12 = .ok (.aload_n 0, 1) := by decide +kernel
theorem dX6_setPreference_13 : decode cX6_setPreference 13 = .ok (.getfield 18, 3) := by decide +kernel
theorem dX6_setPreference_16 : decode cX6_setPreference 16 = .ok (.iconst 1, 1) := by decide +kernel
theorem dX6_setPreference_17 : decode cX6_setPreference 17 = .ok (.isub, 1) := by decide +kernel
theorem dX6_setPreference_18 : decode cX6_setPreference 18 = .ok (.invokestatic 77, 3) := by decide +kernel
theorem dX6_setPreference_21 : decode cX6_setPreference 21 = .ok (.invokestatic 81, 3) := by decide +kernel
theorem dX6_setPreference_24 : decode cX6_setPreference 24 = .ok (.aload_n 0, 1) := by decide +kernel
theorem dX6_setPreference_25 : decode cX6_setPreference 25 = .ok (.getfield 32, 3) := by decide +kernel
theorem dX6_setPreference_28 : decode cX6_setPreference 28 = .ok (.aload_n 0, 1) := by decide +kernel
theorem dX6_setPreference_29 : decode cX6_setPreference 29 = .ok (.getfield 25, 3) := by decide +kernel
theorem dX6_setPreference_32 : decode cX6_setPreference 32 = .ok (.invokevirtual 85, 3) := by decide +kernel
theorem dX6_setPreference_35 : decode cX6_setPreference 35 = .ok (.aload_n 0, 1) := by decide +kernel
theorem dX6_setPreference_36 : decode cX6_setPreference 36 = .ok (.getfield 25, 3) := by decide +kernel
theorem dX6_setPreference_39 : decode cX6_setPreference 39 = .ok (.getfield 112, 3) := by decide +kernel
theorem dX6_setPreference_42 : decode cX6_setPreference 42 = .ok (.iload_n 1, 1) := by decide +kernel
theorem dX6_setPreference_43 : decode cX6_setPreference 43 = .ok (.iaload, 1) := by decide +kernel
theorem dX6_setPreference_44 : decode cX6_setPreference 44 = .ok (.istore_n 3, 1) := by decide +kernel
theorem dX6_setPreference_45 : decode cX6_setPreference 45 = .ok (.aload_n 0, 1) := by decide +kernel
theorem dX6_setPreference_46 : decode cX6_setPreference 46 = .ok (.getfield 25, 3) := by decide +kernel
theorem dX6_setPreference_49 : decode cX6_setPreference 49 = .ok (.getfield 112, 3) := by decide +kernel
theorem dX6_setPreference_52 : decode cX6_setPreference 52 = .ok (.iload_n 1, 1) := by decide +kernel
theorem dX6_setPreference_53 : decode cX6_setPreference 53 = .ok (.iload_n 2, 1) := by decide +kernel
theorem dX6_setPreference_54 : decode cX6_setPreference 54 = .ok (.iastore, 1) := by decide +kernel
theorem dX6_setPreference_55 : decode cX6_setPreference 55 = .ok (.iload_n 3, 1) := by decide +kernel
theorem dX6_setPreference_56 : decode cX6_setPreference 56 = .ok (.ireturn, 1) := by decide +kernel
set_option maxRecDepth 20000 in
theorem ggX6_removeCar_X6_requireState : GoodIn wsX6_removeCar wsX6_requireState := goodIn_ca (goodIn_r _ [7, 8, 9] (by decide +kernel) (by decide +kernel)) (goodIn_sub (fun _ h => List.mem_cons_of_mem _ (List.mem_append_right _ h)) (by decide +kernel))
set_option maxRecDepth 20000 in
theorem gX6_removeCar_X6_requireState : GoodIn wsX6_removeCar (va_wsS RX6 109 yX6_requireState wsX6_requireState) := goodIn_app (goodIn_of _ (by decide +kernel)) ggX6_removeCar_X6_requireState
set_option maxRecDepth 20000 in
theorem ggX6_removeCar_X0_keep : GoodIn wsX6_removeCar wsX0_keep := goodIn_r _ [14, 15, 16, 17, 18, 19, 13, 20, 21, 22, 23, 24, 25, 26, 27, 28, 29, 30, 31, 32, 33, 34, 50, 51, 45, 46, 47, 48, 49] (by decide +kernel) (by decide +kernel)
set_option maxRecDepth 20000 in
theorem gX6_removeCar_X0_keep : GoodIn wsX6_removeCar (wsV RX6 85 RX0 yX0_keep wsX0_keep) := goodIn_app (goodIn_of _ (by decide +kernel)) ggX6_removeCar_X0_keep
theorem dX6_removeCar_0 : decode cX6_removeCar 0 = .ok (.aload_n 0, 1) := by decide +kernel
theorem dX6_removeCar_1 : decode cX6_removeCar 1 = .ok (.getfield 25, 3) := by decide +kernel
theorem dX6_removeCar_4 : decode cX6_removeCar 4 = .ok (.getfield 106, 3) := by decide +kernel
theorem dX6_removeCar_7 : decode cX6_removeCar 7 = .ok (.ifCond .le 7, 3) := by decide +kernel
theorem dX6_removeCar_10 : decode cX6_removeCar 10 = .ok (.iconst 1, 1) := by decide +kernel
theorem dX6_removeCar_11 : decode cX6_removeCar 11 = .ok (.goto 4, 3) := by decide +kernel
theorem dX6_removeCar_14 : decode cX6_removeCar 14 = .ok (.iconst 0, 1) := by decide +kernel
theorem dX6_removeCar_15 : decode cX6_removeCar 15 = .ok (.invokestatic 109, 3) := by decide +kernel
theorem dX6_removeCar_18 : decode cX6_removeCar 18 = .ok (.aload_n 0, 1) := by decide +kernel
theorem dX6_removeCar_19 : decode cX6_removeCar 19 = .ok (.getfield 32, 3) := by decide +kernel
theorem dX6_removeCar_22 : decode cX6_removeCar 22 = .ok (.aload_n 0, 1) := by decide +kernel
theorem dX6_removeCar_23 : decode cX6_removeCar 23 = .ok (.getfield 25, 3) := by decide +kernel
theorem dX6_removeCar_26 : decode cX6_removeCar 26 = .ok (.invokevirtual 85, 3) := by decide +kernel
theorem dX6_removeCar_29 : decode cX6_removeCar 29 = .ok (.aload_n 0, 1) := by decide +kernel
theorem dX6_removeCar_30 : decode cX6_removeCar 30 = .ok (.getfield 25, 3) := by decide +kernel
theorem dX6_removeCar_33 : decode cX6_removeCar 33 = .ok (.dup, 1) := by decide +kernel
theorem dX6_removeCar_34 : decode cX6_removeCar 34 = .ok (.getfield 106, 3) := by decide +kernel
theorem dX6_removeCar_37 : decode cX6_removeCar 37 = .ok (.iconst 1, 1) := by decide +kernel
theorem dX6_removeCar_38 : decode cX6_removeCar 38 = .ok (.isub, 1) := by decide +kernel
theorem dX6_removeCar_39 : decode cX6_removeCar 39 = .ok (.putfield 106, 3) := by decide +kernel
theorem dX6_removeCar_42 : decode cX6_removeCar 42 = .ok (.aload_n 0, 1) := by decide +kernel
theorem dX6_removeCar_43 : decode cX6_removeCar 43 = .ok (.getfield 25, 3) := by decide +kernel
theorem dX6_removeCar_46 : decode cX6_removeCar 46 = .ok (.getfield 106, 3) := by decide +kernel
theorem dX6_removeCar_49 : decode cX6_removeCar 49 = .ok (.ireturn, 1) := by decide +kernel
theorem dX6_cars_0 : decode cX6_cars 0 = .ok (.aload_n 0, 1) := by decide +kernel
theorem dX6_cars_1 : decode cX6_cars 1 = .ok (.getfield 25, 3) := by decide +kernel
theorem dX6_cars_4 : decode cX6_cars 4 = .ok (.getfield 106, 3) := by decide +kernel
theorem dX6_cars_7 : decode cX6_cars 7 = .ok (.ireturn, 1) := by decide +kernel
set_option maxRecDepth 20000 in
theorem ggX6_preference_X6_requireIndex : GoodIn wsX6_preference wsX6_requireIndex := goodIn_ca (goodIn_r _ [7, 8, 9] (by decide +kernel) (by decide +kernel)) (goodIn_sub (fun _ h => List.mem_cons_of_mem _ (List.mem_append_right _ h)) (by decide +kernel))
set_option maxRecDepth 20000 in
theorem gX6_preference_X6_requireIndex : GoodIn wsX6_preference (va_wsS RX6 99 yX6_requireIndex wsX6_requireIndex) := goodIn_app (goodIn_of _ (by decide +kernel)) ggX6_preference_X6_requireIndex
theorem dX6_preference_0 : decode cX6_preference 0 = .ok (.iload_n 1, 1) := by decide +kernel
theorem dX6_preference_1 : decode cX6_preference 1 = .ok (.aload_n 0, 1) := by decide +kernel
theorem dX6_preference_2 : decode cX6_preference 2 = .ok (.getfield 25, 3) := by decide +kernel
theorem dX6_preference_5 : decode cX6_preference 5 = .ok (.getfield 106, 3) := by decide +kernel
theorem dX6_preference_8 : decode cX6_preference 8 = .ok (.invokestatic 99, 3) := by decide +kernel
theorem dX6_preference_11 : decode cX6_preference 11 = .ok (.aload_n 0, 1) := by decide +kernel
theorem dX6_preference_12 : decode cX6_preference 12 = .ok (.getfield 25, 3) := by decide +kernel
theorem dX6_preference_15 : decode cX6_preference 15 = .ok (.getfield 112, 3) := by decide +kernel
theorem dX6_preference_18 : decode cX6_preference 18 = .ok (.iload_n 1, 1) := by decide +kernel
theorem dX6_preference_19 : decode cX6_preference 19 = .ok (.iaload, 1) := by decide +kernel
theorem dX6_preference_20 : decode cX6_preference 20 = .ok (.ireturn, 1) := by decide +kernel
set_option maxRecDepth 20000 in
theorem ggX6_spaceOf_X6_requireIndex : GoodIn wsX6_spaceOf wsX6_requireIndex := goodIn_ca (goodIn_r _ [8, 9, 10] (by decide +kernel) (by decide +kernel)) (goodIn_sub (fun _ h => List.mem_cons_of_mem _ (List.mem_append_right _ h)) (by decide +kernel))
set_option maxRecDepth 20000 in
theorem gX6_spaceOf_X6_requireIndex : GoodIn wsX6_spaceOf (va_wsS RX6 99 yX6_requireIndex wsX6_requireIndex) := goodIn_app (goodIn_of _ (by decide +kernel)) ggX6_spaceOf_X6_requireIndex
set_option maxRecDepth 20000 in
theorem ggX6_spaceOf_X6_parkAll : GoodIn wsX6_spaceOf wsX6_parkAll := goodIn_r _ [14, 3, 1, 2, 15, 16, 17, 18, 19, 20, 21, 22, 23, 24, 25, 26, 27, 28, 29, 30, 31, 32, 33, 34, 35, 36, 37, 38, 39, 40, 41, 42, 43, 44, 45, 46, 47, 48, 49, 50, 51, 52, 53, 54, 55, 56, 57, 58, 59, 60, 61, 62, 63, 64, 65, 66, 67, 68, 69, 70, 71, 72, 73, 74, 75, 76, 77, 78, 79, 80, 81, 82] (by decide +kernel) (by decide +kernel)
set_option maxRecDepth 20000 in
theorem gX6_spaceOf_X6_parkAll : GoodIn wsX6_spaceOf (wsV RX6 115 RX6 yX6_parkAll wsX6_parkAll) := goodIn_app (goodIn_of _ (by decide +kernel)) ggX6_spaceOf_X6_parkAll
theorem dX6_spaceOf_0 : decode cX6_spaceOf 0 = .ok (.iload_n 1, 1) := by decide +kernel
theorem dX6_spaceOf_1 : decode cX6_spaceOf 1 = .ok (.aload_n 0, 1) := by decide +kernel
theorem dX6_spaceOf_2 : decode cX6_spaceOf 2 = .ok (.getfield 25, 3) := by decide +kernel
theorem dX6_spaceOf_5 : decode cX6_spaceOf 5 = .ok (.getfield 106, 3) := by decide +kernel
theorem dX6_spaceOf_8 : decode cX6_spaceOf 8 = .ok (.invokestatic 99, 3) := by decide +kernel
theorem dX6_spaceOf_11 : decode cX6_spaceOf 11 = .ok (.aload_n 0, 1) := by decide +kernel
theorem dX6_spaceOf_12 : decode cX6_spaceOf 12 = .ok (.invokevirtual 115, 3) := by decide +kernel
theorem dX6_spaceOf_15 : decode cX6_spaceOf 15 = .ok (.aload_n 0, 1) := by decide +kernel
theorem dX6_spaceOf_16 : decode cX6_spaceOf 16 = .ok (.getfield 41, 3) := by decide +kernel
theorem dX6_spaceOf_19 : decode cX6_spaceOf 19 = .ok (.getfield 118, 3) := by decide +kernel
theorem dX6_spaceOf_22 : decode cX6_spaceOf 22 = .ok (.iload_n 1, 1) := by decide +kernel
theorem dX6_spaceOf_23 : decode cX6_spaceOf 23 = .ok (.iaload, 1) := by decide +kernel
theorem dX6_spaceOf_24 : decode cX6_spaceOf 24 = .ok (.ireturn, 1) := by decide +kernel
set_option maxRecDepth 20000 in
theorem ggX6_steps_X6_requireIndex : GoodIn wsX6_steps wsX6_requireIndex := goodIn_ca (goodIn_r _ [8, 9, 10] (by decide +kernel) (by decide +kernel)) (goodIn_sub (fun _ h => List.mem_cons_of_mem _ (List.mem_append_right _ h)) (by decide +kernel))
set_option maxRecDepth 20000 in
theorem gX6_steps_X6_requireIndex : GoodIn wsX6_steps (va_wsS RX6 99 yX6_requireIndex wsX6_requireIndex) := goodIn_app (goodIn_of _ (by decide +kernel)) ggX6_steps_X6_requireIndex
set_option maxRecDepth 20000 in
theorem ggX6_steps_X6_parkAll : GoodIn wsX6_steps wsX6_parkAll := goodIn_r _ [14, 3, 1, 2, 15, 16, 17, 18, 19, 20, 21, 22, 23, 24, 25, 26, 27, 28, 29, 30, 31, 32, 33, 34, 35, 36, 37, 38, 39, 40, 41, 42, 43, 44, 45, 46, 47, 48, 49, 50, 51, 52, 53, 54, 55, 56, 57, 58, 59, 60, 61, 62, 63, 64, 65, 66, 67, 68, 69, 70, 71, 72, 73, 74, 75, 76, 77, 78, 79, 80, 81, 82] (by decide +kernel) (by decide +kernel)
set_option maxRecDepth 20000 in
theorem gX6_steps_X6_parkAll : GoodIn wsX6_steps (wsV RX6 115 RX6 yX6_parkAll wsX6_parkAll) := goodIn_app (goodIn_of _ (by decide +kernel)) ggX6_steps_X6_parkAll
theorem dX6_steps_0 : decode cX6_steps 0 = .ok (.iload_n 1, 1) := by decide +kernel
theorem dX6_steps_1 : decode cX6_steps 1 = .ok (.aload_n 0, 1) := by decide +kernel
theorem dX6_steps_2 : decode cX6_steps 2 = .ok (.getfield 25, 3) := by decide +kernel
theorem dX6_steps_5 : decode cX6_steps 5 = .ok (.getfield 106, 3) := by decide +kernel
theorem dX6_steps_8 : decode cX6_steps 8 = .ok (.invokestatic 99, 3) := by decide +kernel
theorem dX6_steps_11 : decode cX6_steps 11 = .ok (.aload_n 0, 1) := by decide +kernel
theorem dX6_steps_12 : decode cX6_steps 12 = .ok (.invokevirtual 115, 3) := by decide +kernel
theorem dX6_steps_15 : decode cX6_steps 15 = .ok (.aload_n 0, 1) := by decide +kernel
theorem dX6_steps_16 : decode cX6_steps 16 = .ok (.getfield 41, 3) := by decide +kernel
theorem dX6_steps_19 : decode cX6_steps 19 = .ok (.getfield 121, 3) := by decide +kernel
theorem dX6_steps_22 : decode cX6_steps 22 = .ok (.iload_n 1, 1) := by decide +kernel
theorem dX6_steps_23 : decode cX6_steps 23 = .ok (.iaload, 1) := by decide +kernel
theorem dX6_steps_24 : decode cX6_steps 24 = .ok (.ireturn, 1) := by decide +kernel
set_option maxRecDepth 20000 in
theorem ggX6_carsIn_X6_requireIndex : GoodIn wsX6_carsIn wsX6_requireIndex := goodIn_ca (goodIn_r _ [6, 7, 8] (by decide +kernel) (by decide +kernel)) (goodIn_sub (fun _ h => List.mem_cons_of_mem _ (List.mem_append_right _ h)) (by decide +kernel))
set_option maxRecDepth 20000 in
theorem gX6_carsIn_X6_requireIndex : GoodIn wsX6_carsIn (va_wsS RX6 99 yX6_requireIndex wsX6_requireIndex) := goodIn_app (goodIn_of _ (by decide +kernel)) ggX6_carsIn_X6_requireIndex
set_option maxRecDepth 20000 in
theorem ggX6_carsIn_X6_parkAll : GoodIn wsX6_carsIn wsX6_parkAll := goodIn_r _ [12, 2, 13, 14, 15, 16, 17, 18, 19, 20, 21, 22, 23, 24, 25, 26, 27, 28, 29, 30, 31, 32, 33, 34, 35, 36, 37, 38, 39, 40, 41, 42, 43, 44, 45, 46, 47, 48, 49, 50, 51, 52, 53, 54, 55, 56, 57, 62, 63, 64, 65, 66, 67, 68, 69, 70, 71, 72, 73, 74, 75, 76, 77, 78, 79, 80, 81, 82, 83, 84, 85, 86] (by decide +kernel) (by decide +kernel)
set_option maxRecDepth 20000 in
theorem gX6_carsIn_X6_parkAll : GoodIn wsX6_carsIn (wsV RX6 115 RX6 yX6_parkAll wsX6_parkAll) := goodIn_app (goodIn_of _ (by decide +kernel)) ggX6_carsIn_X6_parkAll
set_option maxRecDepth 20000 in
theorem ggX6_carsIn_X1_setOfCarsIn : GoodIn wsX6_carsIn wsX1_setOfCarsIn := goodIn_r _ [61, 29, 36, 77, 78, 79, 80, 81, 82, 83, 84, 85, 86] (by decide +kernel) (by decide +kernel)
set_option maxRecDepth 20000 in
theorem gX6_carsIn_X1_setOfCarsIn : GoodIn wsX6_carsIn (wsV RX6 124 RX1 yX1_setOfCarsIn wsX1_setOfCarsIn) := goodIn_app (goodIn_of _ (by decide +kernel)) ggX6_carsIn_X1_setOfCarsIn
theorem dX6_carsIn_0 : decode cX6_carsIn 0 = .ok (.iload_n 1, 1) := by decide +kernel
theorem dX6_carsIn_1 : decode cX6_carsIn 1 = .ok (.aload_n 0, 1) := by decide +kernel
theorem dX6_carsIn_2 : decode cX6_carsIn 2 = .ok (.getfield 18, 3) := by decide +kernel
theorem dX6_carsIn_5 : decode cX6_carsIn 5 = .ok (.invokestatic 99, 3) := by decide +kernel
theorem dX6_carsIn_8 : decode cX6_carsIn 8 = .ok (.aload_n 0, 1) := by decide +kernel
theorem dX6_carsIn_9 : decode cX6_carsIn 9 = .ok (.invokevirtual 115, 3) := by decide +kernel
theorem dX6_carsIn_12 : decode cX6_carsIn 12 = .ok (.aload_n 0, 1) := by decide +kernel
theorem dX6_carsIn_13 : decode cX6_carsIn 13 = .ok (.getfield 41, 3) := by decide +kernel
theorem dX6_carsIn_16 : decode cX6_carsIn 16 = .ok (.iload_n 1, 1) := by decide +kernel
theorem dX6_carsIn_17 : decode cX6_carsIn 17 = .ok (.invokevirtual 124, 3) := by decide +kernel
theorem dX6_carsIn_20 : decode cX6_carsIn 20 = .ok (.ireturn, 1) := by decide +kernel
set_option maxRecDepth 20000 in
theorem ggX6_defect_X6_parkAll : GoodIn wsX6_defect wsX6_parkAll := goodIn_r _ [6, 1, 7, 8, 9, 10, 11, 12, 13, 14, 15, 16, 17, 18, 19, 20, 21, 22, 23, 24, 25, 26, 27, 28, 29, 30, 31, 32, 33, 34, 35, 36, 37, 38, 39, 40, 41, 42, 43, 44, 45, 46, 47, 48, 49, 50, 51, 56, 57, 58, 59, 60, 61, 62, 63, 64, 65, 66, 67, 68, 69, 70, 71, 72, 73, 74, 75, 76, 77, 78, 79, 80] (by decide +kernel) (by decide +kernel)
set_option maxRecDepth 20000 in
theorem gX6_defect_X6_parkAll : GoodIn wsX6_defect (wsV RX6 115 RX6 yX6_parkAll wsX6_parkAll) := goodIn_app (goodIn_of _ (by decide +kernel)) ggX6_defect_X6_parkAll
set_option maxRecDepth 20000 in
theorem ggX6_defect_X1_countOfLeavers : GoodIn wsX6_defect wsX1_countOfLeavers := goodIn_r _ [55, 23, 30, 71, 72, 73, 74, 75, 76, 77, 78, 79, 80] (by decide +kernel) (by decide +kernel)
set_option maxRecDepth 20000 in
theorem gX6_defect_X1_countOfLeavers : GoodIn wsX6_defect (wsV RX6 128 RX1 yX1_countOfLeavers wsX1_countOfLeavers) := goodIn_app (goodIn_of _ (by decide +kernel)) ggX6_defect_X1_countOfLeavers
theorem dX6_defect_0 : decode cX6_defect 0 = .ok (.aload_n 0, 1) := by decide +kernel
theorem dX6_defect_1 : decode cX6_defect 1 = .ok (.invokevirtual 115, 3) := by decide +kernel
theorem dX6_defect_4 : decode cX6_defect 4 = .ok (.aload_n 0, 1) := by decide +kernel
theorem dX6_defect_5 : decode cX6_defect 5 = .ok (.getfield 41, 3) := by decide +kernel
theorem dX6_defect_8 : decode cX6_defect 8 = .ok (.invokevirtual 128, 3) := by decide +kernel
theorem dX6_defect_11 : decode cX6_defect 11 = .ok (.ireturn, 1) := by decide +kernel
set_option maxRecDepth 20000 in
theorem ggX6_firstLeaving_X6_parkAll : GoodIn wsX6_firstLeaving wsX6_parkAll := goodIn_r _ [6, 1, 7, 8, 9, 10, 11, 12, 13, 14, 15, 16, 17, 18, 19, 20, 21, 22, 23, 24, 25, 26, 27, 28, 29, 30, 31, 32, 33, 34, 35, 36, 37, 38, 39, 40, 41, 42, 43, 44, 45, 46, 47, 48, 49, 50, 51, 56, 57, 58, 59, 60, 61, 62, 63, 64, 65, 66, 67, 68, 69, 70, 71, 72, 73, 74, 75, 76, 77, 78, 79, 80] (by decide +kernel) (by decide +kernel)
set_option maxRecDepth 20000 in
theorem gX6_firstLeaving_X6_parkAll : GoodIn wsX6_firstLeaving (wsV RX6 115 RX6 yX6_parkAll wsX6_parkAll) := goodIn_app (goodIn_of _ (by decide +kernel)) ggX6_firstLeaving_X6_parkAll
set_option maxRecDepth 20000 in
theorem ggX6_firstLeaving_X1_firstLeaver : GoodIn wsX6_firstLeaving wsX1_firstLeaver := goodIn_r _ [55, 23, 30, 71, 72, 73, 74, 75, 76, 77, 78, 79, 80] (by decide +kernel) (by decide +kernel)
set_option maxRecDepth 20000 in
theorem gX6_firstLeaving_X1_firstLeaver : GoodIn wsX6_firstLeaving (wsV RX6 131 RX1 yX1_firstLeaver wsX1_firstLeaver) := goodIn_app (goodIn_of _ (by decide +kernel)) ggX6_firstLeaving_X1_firstLeaver
theorem dX6_firstLeaving_0 : decode cX6_firstLeaving 0 = .ok (.aload_n 0, 1) := by decide +kernel
theorem dX6_firstLeaving_1 : decode cX6_firstLeaving 1 = .ok (.invokevirtual 115, 3) := by decide +kernel
theorem dX6_firstLeaving_4 : decode cX6_firstLeaving 4 = .ok (.aload_n 0, 1) := by decide +kernel
theorem dX6_firstLeaving_5 : decode cX6_firstLeaving 5 = .ok (.getfield 41, 3) := by decide +kernel
theorem dX6_firstLeaving_8 : decode cX6_firstLeaving 8 = .ok (.invokevirtual 131, 3) := by decide +kernel
theorem dX6_firstLeaving_11 : decode cX6_firstLeaving 11 = .ok (.ireturn, 1) := by decide +kernel
set_option maxRecDepth 20000 in
theorem ggX6_lucky_X6_parkAll : GoodIn wsX6_lucky wsX6_parkAll := goodIn_r _ [6, 1, 7, 8, 9, 10, 11, 12, 13, 14, 15, 16, 17, 18, 19, 20, 21, 22, 23, 24, 25, 26, 27, 28, 29, 30, 31, 32, 33, 34, 35, 36, 37, 38, 39, 40, 41, 42, 43, 44, 45, 46, 47, 48, 49, 50, 51, 56, 57, 58, 59, 60, 61, 62, 63, 64, 65, 66, 67, 68, 69, 70, 71, 72, 73, 74, 75, 76, 77, 78, 79, 80] (by decide +kernel) (by decide +kernel)
set_option maxRecDepth 20000 in
theorem gX6_lucky_X6_parkAll : GoodIn wsX6_lucky (wsV RX6 115 RX6 yX6_parkAll wsX6_parkAll) := goodIn_app (goodIn_of _ (by decide +kernel)) ggX6_lucky_X6_parkAll
set_option maxRecDepth 20000 in
theorem ggX6_lucky_X1_setOfLuckyCars : GoodIn wsX6_lucky wsX1_setOfLuckyCars := goodIn_r _ [55, 23, 30, 29, 71, 72, 73, 74, 75, 76, 77, 78, 79, 80] (by decide +kernel) (by decide +kernel)
set_option maxRecDepth 20000 in
theorem gX6_lucky_X1_setOfLuckyCars : GoodIn wsX6_lucky (wsV RX6 134 RX1 yX1_setOfLuckyCars wsX1_setOfLuckyCars) := goodIn_app (goodIn_of _ (by decide +kernel)) ggX6_lucky_X1_setOfLuckyCars
theorem dX6_lucky_0 : decode cX6_lucky 0 = .ok (.aload_n 0, 1) := by decide +kernel
theorem dX6_lucky_1 : decode cX6_lucky 1 = .ok (.invokevirtual 115, 3) := by decide +kernel
theorem dX6_lucky_4 : decode cX6_lucky 4 = .ok (.aload_n 0, 1) := by decide +kernel
theorem dX6_lucky_5 : decode cX6_lucky 5 = .ok (.getfield 41, 3) := by decide +kernel
theorem dX6_lucky_8 : decode cX6_lucky 8 = .ok (.invokevirtual 134, 3) := by decide +kernel
theorem dX6_lucky_11 : decode cX6_lucky 11 = .ok (.ireturn, 1) := by decide +kernel
set_option maxRecDepth 20000 in
theorem ggX6_displacement_X6_parkAll : GoodIn wsX6_displacement wsX6_parkAll := goodIn_r _ [6, 1, 7, 8, 9, 10, 11, 12, 13, 14, 15, 16, 17, 18, 19, 20, 21, 22, 23, 24, 25, 26, 27, 28, 29, 30, 31, 32, 33, 34, 35, 36, 37, 38, 39, 40, 41, 42, 43, 44, 45, 46, 47, 48, 49, 50, 51, 60, 61, 62, 63, 64, 65, 66, 67, 68, 69, 70, 71, 72, 73, 74, 75, 76, 77, 78, 79, 80, 81, 82, 83, 84] (by decide +kernel) (by decide +kernel)
set_option maxRecDepth 20000 in
theorem gX6_displacement_X6_parkAll : GoodIn wsX6_displacement (wsV RX6 115 RX6 yX6_parkAll wsX6_parkAll) := goodIn_app (goodIn_of _ (by decide +kernel)) ggX6_displacement_X6_parkAll
set_option maxRecDepth 20000 in
theorem ggX6_displacement_X1_sumOfDistances : GoodIn wsX6_displacement wsX1_sumOfDistances := goodIn_r _ [55, 23, 30, 29, 56, 57, 58, 59, 75, 76, 77, 78, 79, 80, 81, 82, 83, 84] (by decide +kernel) (by decide +kernel)
set_option maxRecDepth 20000 in
theorem gX6_displacement_X1_sumOfDistances : GoodIn wsX6_displacement (wsV RX6 137 RX1 yX1_sumOfDistances wsX1_sumOfDistances) := goodIn_app (goodIn_of _ (by decide +kernel)) ggX6_displacement_X1_sumOfDistances
theorem dX6_displacement_0 : decode cX6_displacement 0 = .ok (.aload_n 0, 1) := by decide +kernel
theorem dX6_displacement_1 : decode cX6_displacement 1 = .ok (.invokevirtual 115, 3) := by decide +kernel
theorem dX6_displacement_4 : decode cX6_displacement 4 = .ok (.aload_n 0, 1) := by decide +kernel
theorem dX6_displacement_5 : decode cX6_displacement 5 = .ok (.getfield 41, 3) := by decide +kernel
theorem dX6_displacement_8 : decode cX6_displacement 8 = .ok (.invokevirtual 137, 3) := by decide +kernel
theorem dX6_displacement_11 : decode cX6_displacement 11 = .ok (.ireturn, 1) := by decide +kernel
set_option maxRecDepth 20000 in
theorem ggX6_parkAll_X1_open : GoodIn wsX6_parkAll wsX1_open := goodIn_r _ [9, 10, 11, 12, 13, 14, 15, 16, 17, 18, 19, 62, 63, 64, 65, 66, 67, 68, 69, 70, 71, 57, 58, 59, 60, 61] (by decide +kernel) (by decide +kernel)
set_option maxRecDepth 20000 in
theorem gX6_parkAll_X1_open : GoodIn wsX6_parkAll (wsV RX6 140 RX1 yX1_open wsX1_open) := goodIn_app (goodIn_of _ (by decide +kernel)) ggX6_parkAll_X1_open
set_option maxRecDepth 20000 in
theorem ggX6_parkAll_X1_arrive : GoodIn wsX6_parkAll wsX1_arrive := goodIn_r _ [23, 18, 24, 25, 26, 27, 28, 29, 8, 30, 15, 17, 10, 31, 32, 33, 34, 35, 36, 37, 38, 13, 11, 19, 39, 40, 41, 42, 43, 44, 45, 46, 62, 63, 64, 65, 66, 67, 68, 69, 70, 71] (by decide +kernel) (by decide +kernel)
set_option maxRecDepth 20000 in
theorem gX6_parkAll_X1_arrive : GoodIn wsX6_parkAll (wsV RX6 143 RX1 yX1_arrive wsX1_arrive) := goodIn_app (goodIn_of _ (by decide +kernel)) ggX6_parkAll_X1_arrive
theorem dX6_parkAll_0 : decode cX6_parkAll 0 = .ok (.aload_n 0, 1) := by decide +kernel
theorem dX6_parkAll_1 : decode cX6_parkAll 1 = .ok (.getfield 41, 3) := by decide +kernel
theorem dX6_parkAll_4 : decode cX6_parkAll 4 = .ok (.aload_n 0, 1) := by decide +kernel
theorem dX6_parkAll_5 : decode cX6_parkAll 5 = .ok (.getfield 25, 3) := by decide +kernel
theorem dX6_parkAll_8 : decode cX6_parkAll 8 = .ok (.invokevirtual 140, 3) := by decide +kernel
theorem dX6_parkAll_11 : decode cX6_parkAll 11 = .ok (.iconst 0, 1) := by decide +kernel
theorem dX6_parkAll_12 : decode cX6_parkAll 12 = .ok (.istore_n 1, 1) := by decide +kernel
theorem dX6_parkAll_13 : decode cX6_parkAll 13 = .ok (.iload_n 1, 1) := by decide +kernel
theorem dX6_parkAll_14 : decode cX6_parkAll 14 = .ok (.aload_n 0, 1) := by decide +kernel
theorem dX6_parkAll_15 : decode cX6_parkAll 15 = .ok (.getfield 25, 3) := by decide +kernel
theorem dX6_parkAll_18 : decode cX6_parkAll 18 = .ok (.getfield 106, 3) := by decide +kernel
theorem dX6_parkAll_21 : decode cX6_parkAll 21 = .ok (.if_icmp .ge 26, 3) := by decide +kernel
theorem dX6_parkAll_24 : decode cX6_parkAll 24 = .ok (.aload_n 0, 1) := by decide +kernel
theorem dX6_parkAll_25 : decode cX6_parkAll 25 = .ok (.getfield 41, 3) := by decide +kernel
theorem dX6_parkAll_28 : decode cX6_parkAll 28 = .ok (.aload_n 0, 1) := by decide +kernel
theorem dX6_parkAll_29 : decode cX6_parkAll 29 = .ok (.getfield 25, 3) := by decide +kernel
theorem dX6_parkAll_32 : decode cX6_parkAll 32 = .ok (.getfield 112, 3) := by decide +kernel
theorem dX6_parkAll_35 : decode cX6_parkAll 35 = .ok (.iload_n 1, 1) := by decide +kernel
theorem dX6_parkAll_36 : decode cX6_parkAll 36 = .ok (.iaload, 1) := by decide +kernel
theorem dX6_parkAll_37 : decode cX6_parkAll 37 = .ok (.invokevirtual 143, 3) := by decide +kernel
theorem dX6_parkAll_40 : decode cX6_parkAll 40 = .ok (.pop, 1) := by decide +kernel
theorem dX6_parkAll_41 : decode cX6_parkAll 41 = .ok (.iinc 1 1, 3) := by decide +kernel
theorem dX6_parkAll_44 : decode cX6_parkAll 44 = .ok (.goto (-31), 3) := by decide +kernel
theorem dX6_parkAll_47 : decode cX6_parkAll 47 = .ok (.return_, 1) := by decide +kernel
set_option maxRecDepth 20000 in
theorem ggX6_countDefect_X6_isUpTo : GoodIn wsX6_countDefect wsX6_isUpTo := goodIn_r _ [4] (by decide +kernel) (by decide +kernel)
set_option maxRecDepth 20000 in
theorem gX6_countDefect_X6_isUpTo : GoodIn wsX6_countDefect (va_wsS RX6 77 yX6_isUpTo wsX6_isUpTo) := goodIn_app (goodIn_of _ (by decide +kernel)) ggX6_countDefect_X6_isUpTo
set_option maxRecDepth 20000 in
theorem ggX6_countDefect_X6_requireArgument : GoodIn wsX6_countDefect wsX6_requireArgument := goodIn_ca (goodIn_r _ [7, 8, 9] (by decide +kernel) (by decide +kernel)) (goodIn_sub (fun _ h => List.mem_cons_of_mem _ (List.mem_append_left _ (List.mem_append_right _ h))) (by decide +kernel))
set_option maxRecDepth 20000 in
theorem gX6_countDefect_X6_requireArgument : GoodIn wsX6_countDefect (va_wsS RX6 81 yX6_requireArgument wsX6_requireArgument) := goodIn_app (goodIn_of _ (by decide +kernel)) ggX6_countDefect_X6_requireArgument
set_option maxRecDepth 20000 in
theorem ggX6_countDefect_X6_countAll : GoodIn wsX6_countDefect wsX6_countAll := goodIn_ca (goodIn_r _ [13, 14, 15, 16, 17, 18, 3, 19, 20, 21, 22, 23, 24, 25, 26, 27, 28, 29, 30, 31, 32, 33, 34, 35, 36, 37, 38, 39, 40, 41, 42, 43, 44, 45, 46, 47, 48, 49, 50, 51, 52, 53, 54, 55, 56, 57, 58, 59, 60, 61, 62, 63, 64, 65, 66, 67, 68, 69, 70, 71, 72, 73, 74, 75, 76, 77, 78, 79, 80, 81, 82, 83, 84, 85, 86, 87, 88, 89, 90, 91, 92, 93, 94, 95, 96, 97, 98, 99, 100, 101, 102, 103, 104, 105, 106, 107, 108, 109, 110, 111, 112, 113, 114, 115, 116, 117, 118, 119, 120, 121, 122, 123, 124, 125, 126, 127, 128, 129, 130, 131, 132, 133, 134, 135, 136, 137, 138, 139, 140, 141, 142, 143, 144, 145, 146, 147, 148, 149, 150, 151, 152, 153] (by decide +kernel) (by decide +kernel)) (goodIn_sub (fun _ h => List.mem_cons_of_mem _ (List.mem_append_right _ h)) (by decide +kernel))
set_option maxRecDepth 20000 in
theorem gX6_countDefect_X6_countAll : GoodIn wsX6_countDefect (wsV RX6 147 RX6 yX6_countAll wsX6_countAll) := goodIn_app (goodIn_of _ (by decide +kernel)) ggX6_countDefect_X6_countAll
theorem dX6_countDefect_0 : decode cX6_countDefect 0 = .ok (.iload_n 1, 1) := by decide +kernel
theorem dX6_countDefect_1 : decode cX6_countDefect 1 = .ok (.bipush 9, 2) := by decide +kernel
theorem dX6_countDefect_3 : decode cX6_countDefect 3 = .ok (.invokestatic 77, 3) := by decide +kernel
theorem dX6_countDefect_6 : decode cX6_countDefect 6 = .ok (.ifCond .eq 16, 3) := by decide +kernel
theorem dX6_countDefect_9 : decode cX6_countDefect 9 = .ok (.iload_n 2, 1) := by decide +kernel
theorem dX6_countDefect_10 : decode cX6_countDefect 10 = .ok (.bipush 9, 2) := by decide +kernel
theorem dX6_countDefect_12 : decode cX6_countDefect 12 = .ok (.invokestatic 77, 3) := by decide +kernel
theorem dX6_countDefect_15 : decode cX6_countDefect 15 = .ok (.ifCond .eq 7, 3) := by decide +kernel
theorem dX6_countDefect_18 : decode cX6_countDefect 18 = .ok (.iconst 1, 1) := by decide +kernel
theorem dX6_countDefect_19 : decode cX6_countDefect 19 = .ok (.goto 4, 3) := by decide +kernel
theorem dX6_countDefect_22 : decode cX6_countDefect 22 = .ok (.iconst 0, 1) := by decide +kernel
theorem dX6_countDefect_23 : decode cX6_countDefect 23 = .ok (.invokestatic 81, 3) := by decide +kernel
theorem dX6_countDefect_26 : decode cX6_countDefect 26 = .ok (.aload_n 0, 1) := by decide +kernel
theorem dX6_countDefect_27 : decode cX6_countDefect 27 = .ok (.iload_n 1, 1) := by decide +kernel
theorem dX6_countDefect_28 : decode cX6_countDefect 28 = .ok (.iconst 0, 1) := by decide +kernel
theorem dX6_countDefect_29 : decode cX6_countDefect 29 = .ok (.iload_n 2, 1) := by decide +kernel
theorem dX6_countDefect_30 : decode cX6_countDefect 30 = .ok (.invokevirtual 147, 3) := by decide +kernel
theorem dX6_countDefect_33 : decode cX6_countDefect 33 = .ok (.ireturn, 1) := by decide +kernel
set_option maxRecDepth 20000 in
theorem ggX6_countLucky_X6_isUpTo : GoodIn wsX6_countLucky wsX6_isUpTo := goodIn_r _ [4] (by decide +kernel) (by decide +kernel)
set_option maxRecDepth 20000 in
theorem gX6_countLucky_X6_isUpTo : GoodIn wsX6_countLucky (va_wsS RX6 77 yX6_isUpTo wsX6_isUpTo) := goodIn_app (goodIn_of _ (by decide +kernel)) ggX6_countLucky_X6_isUpTo
set_option maxRecDepth 20000 in
theorem ggX6_countLucky_X6_requireArgument : GoodIn wsX6_countLucky wsX6_requireArgument := goodIn_ca (goodIn_r _ [7, 8, 9] (by decide +kernel) (by decide +kernel)) (goodIn_sub (fun _ h => List.mem_cons_of_mem _ (List.mem_append_left _ (List.mem_append_right _ h))) (by decide +kernel))
set_option maxRecDepth 20000 in
theorem gX6_countLucky_X6_requireArgument : GoodIn wsX6_countLucky (va_wsS RX6 81 yX6_requireArgument wsX6_requireArgument) := goodIn_app (goodIn_of _ (by decide +kernel)) ggX6_countLucky_X6_requireArgument
set_option maxRecDepth 20000 in
theorem ggX6_countLucky_X6_countAll : GoodIn wsX6_countLucky wsX6_countAll := goodIn_ca (goodIn_r _ [13, 14, 15, 16, 17, 18, 3, 19, 20, 21, 22, 23, 24, 25, 26, 27, 28, 29, 30, 31, 32, 33, 34, 35, 36, 37, 38, 39, 40, 41, 42, 43, 44, 45, 46, 47, 48, 49, 50, 51, 52, 53, 54, 55, 56, 57, 58, 59, 60, 61, 62, 63, 64, 65, 66, 67, 68, 69, 70, 71, 72, 73, 74, 75, 76, 77, 78, 79, 80, 81, 82, 83, 84, 85, 86, 87, 88, 89, 90, 91, 92, 93, 94, 95, 96, 97, 98, 99, 100, 101, 102, 103, 104, 105, 106, 107, 108, 109, 110, 111, 112, 113, 114, 115, 116, 117, 118, 119, 120, 121, 122, 123, 124, 125, 126, 127, 128, 129, 130, 131, 132, 133, 134, 135, 136, 137, 138, 139, 140, 141, 142, 143, 144, 145, 146, 147, 148, 149, 150, 151, 152, 153] (by decide +kernel) (by decide +kernel)) (goodIn_sub (fun _ h => List.mem_cons_of_mem _ (List.mem_append_right _ h)) (by decide +kernel))
set_option maxRecDepth 20000 in
theorem gX6_countLucky_X6_countAll : GoodIn wsX6_countLucky (wsV RX6 147 RX6 yX6_countAll wsX6_countAll) := goodIn_app (goodIn_of _ (by decide +kernel)) ggX6_countLucky_X6_countAll
theorem dX6_countLucky_0 : decode cX6_countLucky 0 = .ok (.iload_n 1, 1) := by decide +kernel
theorem dX6_countLucky_1 : decode cX6_countLucky 1 = .ok (.bipush 9, 2) := by decide +kernel
theorem dX6_countLucky_3 : decode cX6_countLucky 3 = .ok (.invokestatic 77, 3) := by decide +kernel
theorem dX6_countLucky_6 : decode cX6_countLucky 6 = .ok (.ifCond .eq 16, 3) := by decide +kernel
theorem dX6_countLucky_9 : decode cX6_countLucky 9 = .ok (.iload_n 2, 1) := by decide +kernel
theorem dX6_countLucky_10 : decode cX6_countLucky 10 = .ok (.bipush 9, 2) := by decide +kernel
theorem dX6_countLucky_12 : decode cX6_countLucky 12 = .ok (.invokestatic 77, 3) := by decide +kernel
theorem dX6_countLucky_15 : decode cX6_countLucky 15 = .ok (.ifCond .eq 7, 3) := by decide +kernel
theorem dX6_countLucky_18 : decode cX6_countLucky 18 = .ok (.iconst 1, 1) := by decide +kernel
theorem dX6_countLucky_19 : decode cX6_countLucky 19 = .ok (.goto 4, 3) := by decide +kernel
theorem dX6_countLucky_22 : decode cX6_countLucky 22 = .ok (.iconst 0, 1) := by decide +kernel
theorem dX6_countLucky_23 : decode cX6_countLucky 23 = .ok (.invokestatic 81, 3) := by decide +kernel
theorem dX6_countLucky_26 : decode cX6_countLucky 26 = .ok (.aload_n 0, 1) := by decide +kernel
theorem dX6_countLucky_27 : decode cX6_countLucky 27 = .ok (.iload_n 1, 1) := by decide +kernel
theorem dX6_countLucky_28 : decode cX6_countLucky 28 = .ok (.iconst 1, 1) := by decide +kernel
theorem dX6_countLucky_29 : decode cX6_countLucky 29 = .ok (.iload_n 2, 1) := by decide +kernel
theorem dX6_countLucky_30 : decode cX6_countLucky 30 = .ok (.invokevirtual 147, 3) := by decide +kernel
theorem dX6_countLucky_33 : decode cX6_countLucky 33 = .ok (.ireturn, 1) := by decide +kernel
set_option maxRecDepth 20000 in
theorem ggX6_countSum_X6_isUpTo : GoodIn wsX6_countSum wsX6_isUpTo := goodIn_r _ [4] (by decide +kernel) (by decide +kernel)
set_option maxRecDepth 20000 in
theorem gX6_countSum_X6_isUpTo : GoodIn wsX6_countSum (va_wsS RX6 77 yX6_isUpTo wsX6_isUpTo) := goodIn_app (goodIn_of _ (by decide +kernel)) ggX6_countSum_X6_isUpTo
set_option maxRecDepth 20000 in
theorem ggX6_countSum_X6_requireArgument : GoodIn wsX6_countSum wsX6_requireArgument := goodIn_ca (goodIn_r _ [7, 8, 9] (by decide +kernel) (by decide +kernel)) (goodIn_sub (fun _ h => List.mem_cons_of_mem _ (List.mem_append_left _ (List.mem_append_right _ h))) (by decide +kernel))
set_option maxRecDepth 20000 in
theorem gX6_countSum_X6_requireArgument : GoodIn wsX6_countSum (va_wsS RX6 81 yX6_requireArgument wsX6_requireArgument) := goodIn_app (goodIn_of _ (by decide +kernel)) ggX6_countSum_X6_requireArgument
set_option maxRecDepth 20000 in
theorem ggX6_countSum_X6_countAll : GoodIn wsX6_countSum wsX6_countAll := goodIn_ca (goodIn_r _ [13, 14, 15, 16, 17, 18, 3, 19, 20, 21, 22, 23, 24, 25, 26, 27, 28, 29, 30, 31, 32, 33, 34, 35, 36, 37, 38, 39, 40, 41, 42, 43, 44, 45, 46, 47, 48, 49, 50, 51, 52, 53, 54, 55, 56, 57, 58, 59, 60, 61, 62, 63, 64, 65, 66, 67, 68, 69, 70, 71, 72, 73, 74, 75, 76, 77, 78, 79, 80, 81, 82, 83, 84, 85, 86, 87, 88, 89, 90, 91, 92, 93, 94, 95, 96, 97, 98, 99, 100, 101, 102, 103, 104, 105, 106, 107, 108, 109, 110, 111, 112, 113, 114, 115, 116, 117, 118, 119, 120, 121, 122, 123, 124, 125, 126, 127, 128, 129, 130, 131, 132, 133, 134, 135, 136, 137, 138, 139, 140, 141, 142, 143, 144, 145, 146, 147, 148, 149, 150, 151, 152, 153] (by decide +kernel) (by decide +kernel)) (goodIn_sub (fun _ h => List.mem_cons_of_mem _ (List.mem_append_right _ h)) (by decide +kernel))
set_option maxRecDepth 20000 in
theorem gX6_countSum_X6_countAll : GoodIn wsX6_countSum (wsV RX6 147 RX6 yX6_countAll wsX6_countAll) := goodIn_app (goodIn_of _ (by decide +kernel)) ggX6_countSum_X6_countAll
theorem dX6_countSum_0 : decode cX6_countSum 0 = .ok (.iload_n 1, 1) := by decide +kernel
theorem dX6_countSum_1 : decode cX6_countSum 1 = .ok (.bipush 9, 2) := by decide +kernel
theorem dX6_countSum_3 : decode cX6_countSum 3 = .ok (.invokestatic 77, 3) := by decide +kernel
theorem dX6_countSum_6 : decode cX6_countSum 6 = .ok (.ifCond .eq 16, 3) := by decide +kernel
theorem dX6_countSum_9 : decode cX6_countSum 9 = .ok (.iload_n 2, 1) := by decide +kernel
theorem dX6_countSum_10 : decode cX6_countSum 10 = .ok (.bipush 63, 2) := by decide +kernel
theorem dX6_countSum_12 : decode cX6_countSum 12 = .ok (.invokestatic 77, 3) := by decide +kernel
theorem dX6_countSum_15 : decode cX6_countSum 15 = .ok (.ifCond .eq 7, 3) := by decide +kernel
theorem dX6_countSum_18 : decode cX6_countSum 18 = .ok (.iconst 1, 1) := by decide +kernel
theorem dX6_countSum_19 : decode cX6_countSum 19 = .ok (.goto 4, 3) := by decide +kernel
theorem dX6_countSum_22 : decode cX6_countSum 22 = .ok (.iconst 0, 1) := by decide +kernel
theorem dX6_countSum_23 : decode cX6_countSum 23 = .ok (.invokestatic 81, 3) := by decide +kernel
theorem dX6_countSum_26 : decode cX6_countSum 26 = .ok (.aload_n 0, 1) := by decide +kernel
theorem dX6_countSum_27 : decode cX6_countSum 27 = .ok (.iload_n 1, 1) := by decide +kernel
theorem dX6_countSum_28 : decode cX6_countSum 28 = .ok (.iconst 2, 1) := by decide +kernel
theorem dX6_countSum_29 : decode cX6_countSum 29 = .ok (.iload_n 2, 1) := by decide +kernel
theorem dX6_countSum_30 : decode cX6_countSum 30 = .ok (.invokevirtual 147, 3) := by decide +kernel
theorem dX6_countSum_33 : decode cX6_countSum 33 = .ok (.ireturn, 1) := by decide +kernel
set_option maxRecDepth 20000 in
theorem ggX6_rank_X6_isCountable : GoodIn wsX6_rank wsX6_isCountable := goodIn_r _ [9, 10, 11, 121, 122, 123, 124, 125, 126, 127, 128, 129, 130] (by decide +kernel) (by decide +kernel)
set_option maxRecDepth 20000 in
theorem gX6_rank_X6_isCountable : GoodIn wsX6_rank (wsV RX6 151 RX6 yX6_isCountable wsX6_isCountable) := goodIn_app (goodIn_of _ (by decide +kernel)) ggX6_rank_X6_isCountable
set_option maxRecDepth 20000 in
theorem ggX6_rank_X6_requireState : GoodIn wsX6_rank wsX6_requireState := goodIn_ca (goodIn_r _ [14, 15, 16] (by decide +kernel) (by decide +kernel)) (goodIn_sub (fun _ h => List.mem_cons_of_mem _ (List.mem_append_right _ h)) (by decide +kernel))
set_option maxRecDepth 20000 in
theorem gX6_rank_X6_requireState : GoodIn wsX6_rank (va_wsS RX6 109 yX6_requireState wsX6_requireState) := goodIn_app (goodIn_of _ (by decide +kernel)) ggX6_rank_X6_requireState
set_option maxRecDepth 20000 in
theorem ggX6_rank_X6_startCount : GoodIn wsX6_rank wsX6_startCount := goodIn_r _ [20, 4, 1, 21, 22, 23, 24, 25, 26, 27, 28, 29, 30, 31, 32, 33, 34, 35, 36, 37, 38, 39, 40, 41, 42, 43, 44, 45, 46, 47, 121, 122, 123, 124, 125, 126, 127, 128, 129, 130, 136, 137, 138, 139, 140, 141, 142, 143, 144, 145, 131, 132, 133, 134, 135, 146, 147] (by decide +kernel) (by decide +kernel)
set_option maxRecDepth 20000 in
theorem gX6_rank_X6_startCount : GoodIn wsX6_rank (wsV RX6 154 RX6 yX6_startCount wsX6_startCount) := goodIn_app (goodIn_of _ (by decide +kernel)) ggX6_rank_X6_startCount
set_option maxRecDepth 20000 in
theorem ggX6_rank_X6_countBeginningWith : GoodIn wsX6_rank wsX6_countBeginningWith := goodIn_r _ [51, 4, 21, 52, 53, 54, 25, 55, 35, 56, 57, 58, 59, 60, 61, 62, 32, 34, 27, 63, 64, 65, 66, 67, 68, 69, 70, 30, 28, 36, 71, 72, 73, 74, 75, 76, 77, 78, 79, 80, 8, 81, 82, 83, 84, 85, 86, 40, 87, 42, 88, 89, 90, 91, 92, 93, 94, 95, 96, 97, 98, 99, 100, 101, 102, 103, 104, 105, 106, 107, 108, 109, 110, 111, 112, 113, 114, 115, 116, 117, 118, 119, 120, 121, 122, 123, 124, 125, 126, 127, 128, 129, 130, 136, 137, 138, 139, 140, 141, 142, 143, 144, 145, 146, 147] (by decide +kernel) (by decide +kernel)
set_option maxRecDepth 20000 in
theorem gX6_rank_X6_countBeginningWith : GoodIn wsX6_rank (wsV RX6 157 RX6 yX6_countBeginningWith wsX6_countBeginningWith) := goodIn_app (goodIn_of _ (by decide +kernel)) ggX6_rank_X6_countBeginningWith
set_option maxRecDepth 20000 in
theorem ggX6_rank_X1_arrive : GoodIn wsX6_rank wsX1_arrive := goodIn_r _ [55, 35, 56, 57, 58, 59, 60, 61, 25, 62, 32, 34, 27, 63, 64, 65, 66, 67, 68, 69, 70, 30, 28, 36, 71, 72, 73, 74, 75, 76, 77, 78, 136, 137, 138, 139, 140, 141, 142, 143, 144, 145] (by decide +kernel) (by decide +kernel)
set_option maxRecDepth 20000 in
theorem gX6_rank_X1_arrive : GoodIn wsX6_rank (wsV RX6 143 RX1 yX1_arrive wsX1_arrive) := goodIn_app (goodIn_of _ (by decide +kernel)) ggX6_rank_X1_arrive
theorem dX6_rank_0 : decode cX6_rank 0 = .ok (.aload_n 0, 1) := by decide +kernel
theorem dX6_rank_1 : decode cX6_rank 1 = .ok (.aload_n 0, 1) := by decide +kernel
theorem dX6_rank_2 : decode cX6_rank 2 = .ok (.getfield 25, 3) := by decide +kernel
theorem dX6_rank_5 : decode cX6_rank 5 = .ok (.getfield 106, 3) := by decide +kernel
theorem dX6_rank_8 : decode cX6_rank 8 = .ok (.invokevirtual 151, 3) := by decide +kernel
theorem dX6_rank_11 : decode cX6_rank 11 = .ok (.invokestatic 109, 3) := by decide +kernel
theorem dX6_rank_14 : decode cX6_rank 14 = .ok (.aload_n 0, 1) := by decide +kernel
theorem dX6_rank_15 : decode cX6_rank 15 = .ok (.invokevirtual 154, 3) := by decide +kernel
theorem dX6_rank_18 : decode cX6_rank 18 = .ok (.iconst 0, 1) := by decide +kernel
theorem dX6_rank_19 : decode cX6_rank 19 = .ok (.istore_n 1, 1) := by decide +kernel
theorem dX6_rank_20 : decode cX6_rank 20 = .ok (.iconst 1, 1) := by decide +kernel
theorem dX6_rank_21 : decode cX6_rank 21 = .ok (.istore_n 2, 1) := by decide +kernel
theorem dX6_rank_22 : decode cX6_rank 22 = .ok (.iconst 0, 1) := by decide +kernel
theorem dX6_rank_23 : decode cX6_rank 23 = .ok (.istore_n 3, 1) := by decide +kernel
theorem dX6_rank_24 : decode cX6_rank 24 = .ok (.iload_n 3, 1) := by decide +kernel
theorem dX6_rank_25 : decode cX6_rank 25 = .ok (.aload_n 0, 1) := by decide +kernel
theorem dX6_rank_26 : decode cX6_rank 26 = .ok (.getfield 25, 3) := by decide +kernel
theorem dX6_rank_29 : decode cX6_rank 29 = .ok (.getfield 106, 3) := by decide +kernel
theorem dX6_rank_32 : decode cX6_rank 32 = .ok (.if_icmp .ge 73, 3) := by decide +kernel
theorem dX6_rank_35 : decode cX6_rank 35 = .ok (.iload_n 2, 1) := by decide +kernel
theorem dX6_rank_36 : decode cX6_rank 36 = .ok (.ifCond .eq 69, 3) := by decide +kernel
theorem dX6_rank_39 : decode cX6_rank 39 = .ok (.iconst 0, 1) := by decide +kernel
theorem dX6_rank_40 : decode cX6_rank 40 = .ok (.istore 4, 2) := by decide +kernel
theorem dX6_rank_42 : decode cX6_rank 42 = .ok (.iload 4, 2) := by decide +kernel
theorem dX6_rank_44 : decode cX6_rank 44 = .ok (.aload_n 0, 1) := by decide +kernel
theorem dX6_rank_45 : decode cX6_rank 45 = .ok (.getfield 25, 3) := by decide +kernel
theorem dX6_rank_48 : decode cX6_rank 48 = .ok (.getfield 112, 3) := by decide +kernel
theorem dX6_rank_51 : decode cX6_rank 51 = .ok (.iload_n 3, 1) := by decide +kernel
theorem dX6_rank_52 : decode cX6_rank 52 = .ok (.iaload, 1) := by decide +kernel
theorem dX6_rank_53 : decode cX6_rank 53 = .ok (.if_icmp .ge 29, 3) := by decide +kernel
theorem dX6_rank_56 : decode cX6_rank 56 = .ok (.iload_n 1, 1) := by decide +kernel
theorem dX6_rank_57 : decode cX6_rank 57 = .ok (.aload_n 0, 1) := by decide +kernel
theorem dX6_rank_58 : decode cX6_rank 58 = .ok (.iload 4, 2) := by decide +kernel
theorem dX6_rank_60 : decode cX6_rank 60 = .ok (.aload_n 0, 1) := by decide +kernel
theorem dX6_rank_61 : decode cX6_rank 61 = .ok (.getfield 25, 3) := by decide +kernel
theorem dX6_rank_64 : decode cX6_rank 64 = .ok (.getfield 106, 3) := by decide +kernel
theorem dX6_rank_67 : decode cX6_rank 67 = .ok (.iload_n 3, 1) := by decide +kernel
theorem dX6_rank_68 : decode cX6_rank 68 = .ok (.isub, 1) := by decide +kernel
theorem dX6_rank_69 : decode cX6_rank 69 = .ok (.iconst 1, 1) := by decide +kernel
theorem dX6_rank_70 : decode cX6_rank 70 = .ok (.isub, 1) := by decide +kernel
theorem dX6_rank_71 : decode cX6_rank 71 = .ok (.invokevirtual 157, 3) := by decide +kernel
theorem dX6_rank_74 : decode cX6_rank 74 = .ok (.iadd, 1) := by decide +kernel
theorem dX6_rank_75 : decode cX6_rank 75 = .ok (.istore_n 1, 1) := by decide +kernel
theorem dX6_rank_76 : decode cX6_rank 76 = .ok (.iinc 4 1, 3) := by decide +kernel
theorem dX6_rank_79 : decode cX6_rank 79 = .ok (.goto (-37), 3) := by decide +kernel
theorem dX6_rank_82 : decode cX6_rank 82 = .ok (.aload_n 0, 1) := by decide +kernel
theorem dX6_rank_83 : decode cX6_rank 83 = .ok (.getfield 41, 3) := by decide +kernel
theorem dX6_rank_86 : decode cX6_rank 86 = .ok (.aload_n 0, 1) := by decide +kernel
theorem dX6_rank_87 : decode cX6_rank 87 = .ok (.getfield 25, 3) := by decide +kernel
theorem dX6_rank_90 : decode cX6_rank 90 = .ok (.getfield 112, 3) := by decide +kernel
theorem dX6_rank_93 : decode cX6_rank 93 = .ok (.iload_n 3, 1) := by decide +kernel
theorem dX6_rank_94 : decode cX6_rank 94 = .ok (.iaload, 1) := by decide +kernel
theorem dX6_rank_95 : decode cX6_rank 95 = .ok (.invokevirtual 143, 3) := by decide +kernel
theorem dX6_rank_98 : decode cX6_rank 98 = .ok (.istore_n 2, 1) := by decide +kernel
theorem dX6_rank_99 : decode cX6_rank 99 = .ok (.iinc 3 1, 3) := by decide +kernel
theorem dX6_rank_102 : decode cX6_rank 102 = .ok (.goto (-78), 3) := by decide +kernel
theorem dX6_rank_105 : decode cX6_rank 105 = .ok (.iload_n 1, 1) := by decide +kernel
theorem dX6_rank_106 : decode cX6_rank 106 = .ok (.ireturn, 1) := by decide +kernel
set_option maxRecDepth 20000 in
theorem ggX6_setRank_X6_isUpTo : GoodIn wsX6_setRank wsX6_isUpTo := goodIn_r _ [10] (by decide +kernel) (by decide +kernel)
set_option maxRecDepth 20000 in
theorem gX6_setRank_X6_isUpTo : GoodIn wsX6_setRank (va_wsS RX6 77 yX6_isUpTo wsX6_isUpTo) := goodIn_app (goodIn_of _ (by decide +kernel)) ggX6_setRank_X6_isUpTo
set_option maxRecDepth 20000 in
theorem ggX6_setRank_X6_requireArgument : GoodIn wsX6_setRank wsX6_requireArgument := goodIn_ca (goodIn_r _ [13, 14, 15] (by decide +kernel) (by decide +kernel)) (goodIn_sub (fun _ h => List.mem_cons_of_mem _ (List.mem_append_left _ (List.mem_append_right _ h))) (by decide +kernel))
set_option maxRecDepth 20000 in
theorem gX6_setRank_X6_requireArgument : GoodIn wsX6_setRank (va_wsS RX6 81 yX6_requireArgument wsX6_requireArgument) := goodIn_app (goodIn_of _ (by decide +kernel)) ggX6_setRank_X6_requireArgument
set_option maxRecDepth 20000 in
theorem ggX6_setRank_X6_countAll : GoodIn wsX6_setRank wsX6_countAll := goodIn_ca (goodIn_r _ [19, 1, 20, 21, 22, 23, 9, 24, 25, 26, 27, 28, 29, 30, 31, 32, 33, 34, 35, 2, 36, 37, 38, 39, 40, 41, 42, 43, 44, 45, 46, 47, 48, 49, 50, 51, 52, 53, 54, 55, 56, 57, 58, 59, 60, 61, 62, 63, 64, 65, 66, 67, 68, 69, 70, 71, 72, 73, 74, 75, 76, 77, 78, 79, 80, 81, 82, 83, 84, 85, 86, 87, 88, 89, 90, 91, 92, 93, 94, 95, 96, 97, 98, 99, 100, 101, 102, 103, 104, 105, 106, 107, 108, 109, 110, 111, 112, 113, 114, 115, 116, 117, 118, 119, 120, 121, 122, 123, 124, 125, 126, 127, 128, 129, 130, 160, 161, 162, 163, 164, 165, 166, 167, 168, 169, 175, 176, 177, 178, 179, 180, 181, 182, 183, 184, 170, 171, 172, 173, 174, 185, 186] (by decide +kernel) (by decide +kernel)) (goodIn_sub (fun _ h => List.mem_cons_of_mem _ (List.mem_append_right _ h)) (by decide +kernel))
set_option maxRecDepth 20000 in
theorem gX6_setRank_X6_countAll : GoodIn wsX6_setRank (wsV RX6 147 RX6 yX6_countAll wsX6_countAll) := goodIn_app (goodIn_of _ (by decide +kernel)) ggX6_setRank_X6_countAll
set_option maxRecDepth 20000 in
theorem ggX6_setRank_X6_requireState : GoodIn wsX6_setRank wsX6_requireState := goodIn_ca (goodIn_r _ [29, 30, 31] (by decide +kernel) (by decide +kernel)) (goodIn_sub (fun _ h => List.mem_cons_of_mem _ (List.mem_append_right _ h)) (by decide +kernel))
set_option maxRecDepth 20000 in
theorem gX6_setRank_X6_requireState : GoodIn wsX6_setRank (va_wsS RX6 109 yX6_requireState wsX6_requireState) := goodIn_app (goodIn_of _ (by decide +kernel)) ggX6_setRank_X6_requireState
set_option maxRecDepth 20000 in
theorem ggX6_setRank_X1_open : GoodIn wsX6_setRank wsX1_open := goodIn_r _ [40, 41, 42, 43, 44, 45, 46, 47, 48, 49, 50, 175, 176, 177, 178, 179, 180, 181, 182, 183, 184, 170, 171, 172, 173, 174] (by decide +kernel) (by decide +kernel)
set_option maxRecDepth 20000 in
theorem gX6_setRank_X1_open : GoodIn wsX6_setRank (wsV RX6 140 RX1 yX1_open wsX1_open) := goodIn_app (goodIn_of _ (by decide +kernel)) ggX6_setRank_X1_open
set_option maxRecDepth 20000 in
theorem ggX6_setRank_X6_parkNextOfRank : GoodIn wsX6_setRank wsX6_parkNextOfRank := goodIn_r _ [134, 25, 1, 20, 76, 77, 78, 39, 79, 49, 80, 81, 82, 83, 84, 85, 86, 46, 48, 41, 87, 88, 89, 90, 91, 92, 93, 94, 44, 42, 50, 95, 96, 97, 98, 99, 100, 101, 102, 62, 63, 9, 64, 65, 66, 67, 68, 69, 54, 70, 56, 71, 72, 73, 74, 75, 103, 104, 105, 106, 107, 108, 109, 110, 111, 112, 113, 114, 115, 116, 117, 118, 119, 120, 121, 122, 123, 124, 125, 126, 127, 128, 129, 130, 160, 161, 162, 163, 164, 165, 166, 167, 168, 169, 175, 176, 177, 178, 179, 180, 181, 182, 183, 184, 185, 186] (by decide +kernel) (by decide +kernel)
set_option maxRecDepth 20000 in
theorem gX6_setRank_X6_parkNextOfRank : GoodIn wsX6_setRank (wsV RX6 160 RX6 yX6_parkNextOfRank wsX6_parkNextOfRank) := goodIn_app (goodIn_of _ (by decide +kernel)) ggX6_setRank_X6_parkNextOfRank
set_option maxRecDepth 20000 in
theorem ggX6_setRank_X0_keep : GoodIn wsX6_setRank wsX0_keep := goodIn_r _ [139, 140, 141, 142, 143, 144, 138, 145, 146, 147, 148, 149, 150, 151, 152, 153, 154, 155, 156, 157, 158, 159, 187, 188, 170, 171, 172, 173, 174] (by decide +kernel) (by decide +kernel)
set_option maxRecDepth 20000 in
theorem gX6_setRank_X0_keep : GoodIn wsX6_setRank (wsV RX6 85 RX0 yX0_keep wsX0_keep) := goodIn_app (goodIn_of _ (by decide +kernel)) ggX6_setRank_X0_keep
theorem dX6_setRank_0 : decode cX6_setRank 0 = .ok (.iload_n 1, 1) := by decide +kernel
theorem dX6_setRank_1 : decode cX6_setRank 1 = .ok (.bipush 9, 2) := by decide +kernel
theorem dX6_setRank_3 : decode cX6_setRank 3 = .ok (.invokestatic 77, 3) := by decide +kernel
theorem dX6_setRank_6 : decode cX6_setRank 6 = .ok (.ifCond .eq 11, 3) := by decide +kernel
theorem dX6_setRank_9 : decode cX6_setRank 9 = .ok (.iload_n 2, 1) := by decide +kernel
theorem dX6_setRank_10 : decode cX6_setRank 10 = .ok (.ifCond .lt 7, 3) := by decide +kernel
theorem dX6_setRank_13 : decode cX6_setRank 13 = .ok (.iconst 1, 1) := by decide +kernel
theorem dX6_setRank_14 : decode cX6_setRank 14 = .ok (.goto 4, 3) := by decide +kernel
theorem dX6_setRank_17 : decode cX6_setRank 17 = .ok (.iconst 0, 1) := by decide +kernel
theorem dX6_setRank_18 : decode cX6_setRank 18 = .ok (.invokestatic 81, 3) := by decide +kernel
theorem dX6_setRank_21 : decode cX6_setRank 21 = .ok (.iload_n 2, 1) := by decide +kernel
theorem dX6_setRank_22 : decode cX6_setRank 22 = .ok (.aload_n 0, 1) := by decide +kernel
theorem dX6_setRank_23 : decode cX6_setRank 23 = .ok (.iload_n 1, 1) := by decide +kernel
theorem dX6_setRank_24 : decode cX6_setRank 24 = .ok (.iconst 0, 1) := by decide +kernel
theorem dX6_setRank_25 : decode cX6_setRank 25 = .ok (.iconst 0, 1) := by decide +kernel
theorem dX6_setRank_26 : decode cX6_setRank 26 = .ok (.invokevirtual 147, 3) := by decide +kernel
theorem dX6_setRank_29 : decode cX6_setRank 29 = .ok (.if_icmp .ge 7, 3) := by decide +kernel
theorem dX6_setRank_32 : decode cX6_setRank 32 = .ok (.iconst 1, 1) := by decide +kernel
theorem dX6_setRank_33 : decode cX6_setRank 33 = .ok (.goto 4, 3) := by decide +kernel
theorem dX6_setRank_36 : decode cX6_setRank 36 = .ok (.iconst 0, 1) := by decide +kernel
theorem dX6_setRank_37 : decode cX6_setRank 37 = .ok (.invokestatic 109, 3) := by decide +kernel
theorem dX6_setRank_40 : decode cX6_setRank 40 = .ok (.aload_n 0, 1) := by decide +kernel
theorem dX6_setRank_41 : decode cX6_setRank 41 = .ok (.getfield 41, 3) := by decide +kernel
theorem dX6_setRank_44 : decode cX6_setRank 44 = .ok (.aload_n 0, 1) := by decide +kernel
theorem dX6_setRank_45 : decode cX6_setRank 45 = .ok (.getfield 25, 3) := by decide +kernel
theorem dX6_setRank_48 : decode cX6_setRank 48 = .ok (.invokevirtual 140, 3) := by decide +kernel
theorem dX6_setRank_51 : decode cX6_setRank 51 = .ok (.iload_n 2, 1) := by decide +kernel
theorem dX6_setRank_52 : decode cX6_setRank 52 = .ok (.istore_n 3, 1) := by decide +kernel
theorem dX6_setRank_53 : decode cX6_setRank 53 = .ok (.iconst 0, 1) := by decide +kernel
theorem dX6_setRank_54 : decode cX6_setRank 54 = .ok (.istore 4, 2) := by decide +kernel
theorem dX6_setRank_56 : decode cX6_setRank 56 = .ok (.iload 4, 2) := by decide +kernel
theorem dX6_setRank_58 : decode cX6_setRank 58 = .ok (.iload_n 1, 1) := by decide +kernel
theorem dX6_setRank_59 : decode cX6_setRank 59 = .ok (.if_icmp .ge 23, 3) := by decide +kernel
theorem dX6_setRank_62 : decode cX6_setRank 62 = .ok (.iload_n 3, 1) := by decide +kernel
theorem dX6_setRank_63 : decode cX6_setRank 63 = .ok (.aload_n 0, 1) := by decide +kernel
theorem dX6_setRank_64 : decode cX6_setRank 64 = .ok (.iload_n 1, 1) := by decide +kernel
theorem dX6_setRank_65 : decode cX6_setRank 65 = .ok (.iload 4, 2) := by decide +kernel
theorem dX6_setRank_67 : decode cX6_setRank 67 = .ok (.isub, 1) := by decide +kernel
theorem dX6_setRank_68 : decode cX6_setRank 68 = .ok (.iconst 1, 1) := by decide +kernel
theorem dX6_setRank_69 : decode cX6_setRank 69 = .ok (.isub, 1) := by decide +kernel
theorem dX6_setRank_70 : decode cX6_setRank 70 = .ok (.iload_n 3, 1) := by decide +kernel
theorem dX6_setRank_71 : decode cX6_setRank 71 = .ok (.invokevirtual 160, 3) := by decide +kernel
theorem dX6_setRank_74 : decode cX6_setRank 74 = .ok (.isub, 1) := by decide +kernel
theorem dX6_setRank_75 : decode cX6_setRank 75 = .ok (.istore_n 3, 1) := by decide +kernel
theorem dX6_setRank_76 : decode cX6_setRank 76 = .ok (.iinc 4 1, 3) := by decide +kernel
theorem dX6_setRank_79 : decode cX6_setRank 79 = .ok (.goto (-23), 3) := by decide +kernel
theorem dX6_setRank_82 : decode cX6_setRank 82 = .ok (.aload_n 0, 1) := by decide +kernel
theorem dX6_setRank_83 : decode cX6_setRank 83 = .ok (.getfield 32, 3) := by decide +kernel
theorem dX6_setRank_86 : decode cX6_setRank 86 = .ok (.aload_n 0, 1) := by decide +kernel
theorem dX6_setRank_87 : decode cX6_setRank 87 = .ok (.getfield 25, 3) := by decide +kernel
theorem dX6_setRank_90 : decode cX6_setRank 90 = .ok (.invokevirtual 85, 3) := by decide +kernel
theorem dX6_setRank_93 : decode cX6_setRank 93 = .ok (.iconst 0, 1) := by decide +kernel
theorem dX6_setRank_94 : decode cX6_setRank 94 = .ok (.istore 4, 2) := by decide +kernel
theorem dX6_setRank_96 : decode cX6_setRank 96 = .ok (.iconst 0, 1) := by decide +kernel
theorem dX6_setRank_97 : decode cX6_setRank 97 = .ok (.istore 5, 2) := by decide +kernel
theorem dX6_setRank_99 : decode cX6_setRank 99 = .ok (.iload 5, 2) := by decide +kernel
theorem dX6_setRank_101 : decode cX6_setRank 101 = .ok (.iload_n 1, 1) := by decide +kernel
theorem dX6_setRank_102 : decode cX6_setRank 102 = .ok (.if_icmp .ge 44, 3) := by decide +kernel
theorem dX6_setRank_105 : decode cX6_setRank 105 = .ok (.aload_n 0, 1) := by decide +kernel
theorem dX6_setRank_106 : decode cX6_setRank 106 = .ok (.getfield 25, 3) := by decide +kernel
theorem dX6_setRank_109 : decode cX6_setRank 109 = .ok (.getfield 112, 3) := by decide +kernel
theorem dX6_setRank_112 : decode cX6_setRank 112 = .ok (.iload 5, 2) := by decide +kernel
theorem dX6_setRank_114 : decode cX6_setRank 114 = .ok (.aload_n 0, 1) := by decide +kernel
theorem dX6_setRank_115 : decode cX6_setRank 115 = .ok (.getfield 41, 3) := by decide +kernel
theorem dX6_setRank_118 : decode cX6_setRank 118 = .ok (.getfield 163, 3) := by decide +kernel
theorem dX6_setRank_121 : decode cX6_setRank 121 = .ok (.iload 5, 2) := by decide +kernel
theorem dX6_setRank_123 : decode cX6_setRank 123 = .ok (.iaload, 1) := by decide +kernel
theorem dX6_setRank_124 : decode cX6_setRank 124 = .ok (.iastore, 1) := by decide +kernel
theorem dX6_setRank_125 : decode cX6_setRank 125 = .ok (.iload 4, 2) := by decide +kernel
theorem dX6_setRank_127 : decode cX6_setRank 127 = .ok (.aload_n 0, 1) := by decide +kernel
theorem dX6_setRank_128 : decode cX6_setRank 128 = .ok (.getfield 41, 3) := by decide +kernel
theorem dX6_setRank_131 : decode cX6_setRank 131 = .ok (.getfield 163, 3) := by decide +kernel
theorem dX6_setRank_134 : decode cX6_setRank 134 = .ok (.iload 5, 2) := by decide +kernel
theorem dX6_setRank_136 : decode cX6_setRank 136 = .ok (.iaload, 1) := by decide +kernel
theorem dX6_setRank_137 : decode cX6_setRank 137 = .ok (.iadd, 1) := by decide +kernel
theorem dX6_setRank_138 : decode cX6_setRank 138 = .ok (.istore 4, 2) := by decide +kernel
theorem dX6_setRank_140 : decode cX6_setRank 140 = .ok (.iinc 5 1, 3) := by decide +kernel
theorem dX6_setRank_143 : decode cX6_setRank 143 = .ok (.goto (-44), 3) := by decide +kernel
theorem dX6_setRank_146 : decode cX6_setRank 146 = .ok (.aload_n 0, 1) := by decide +kernel
theorem dX6_setRank_147 : decode cX6_setRank 147 = .ok (.getfield 25, 3) := by decide +kernel
theorem dX6_setRank_150 : decode cX6_setRank 150 = .ok (.iload_n 1, 1) := by decide +kernel
theorem dX6_setRank_151 : decode cX6_setRank 151 = .ok (.putfield 106, 3) := by decide +kernel
theorem dX6_setRank_154 : decode cX6_setRank 154 = .ok (.iload 4, 2) := by decide +kernel
theorem dX6_setRank_156 : decode cX6_setRank 156 = .ok (.ireturn, 1) := by decide +kernel
theorem dX6_isCountable_0 : decode cX6_isCountable 0 = .ok (.iconst 1, 1) := by decide +kernel
theorem dX6_isCountable_1 : decode cX6_isCountable 1 = .ok (.istore_n 2, 1) := by decide +kernel
theorem dX6_isCountable_2 : decode cX6_isCountable 2 = .ok (.iconst 0, 1) := by decide +kernel
theorem dX6_isCountable_3 : decode cX6_isCountable 3 = .ok (.istore_n 3, 1) := by decide +kernel
theorem dX6_isCountable_4 : decode cX6_isCountable 4 = .ok (.iload_n 3, 1) := by decide +kernel
theorem dX6_isCountable_5 : decode cX6_isCountable 5 = .ok (.iload_n 1, 1) := by decide +kernel
theorem dX6_isCountable_6 : decode cX6_isCountable 6 = .ok (.if_icmp .ge 16, 3) := by decide +kernel
theorem dX6_isCountable_9 : decode cX6_isCountable 9 = .ok (.iload_n 2, 1) := by decide +kernel
theorem dX6_isCountable_10 : decode cX6_isCountable 10 = .ok (.aload_n 0, 1) := by decide +kernel
theorem dX6_isCountable_11 : decode cX6_isCountable 11 = .ok (.getfield 18, 3) := by decide +kernel
theorem dX6_isCountable_14 : decode cX6_isCountable 14 = .ok (.imul, 1) := by decide +kernel
theorem dX6_isCountable_15 : decode cX6_isCountable 15 = .ok (.istore_n 2, 1) := by decide +kernel
theorem dX6_isCountable_16 : decode cX6_isCountable 16 = .ok (.iinc 3 1, 3) := by decide +kernel
theorem dX6_isCountable_19 : decode cX6_isCountable 19 = .ok (.goto (-15), 3) := by decide +kernel
theorem dX6_isCountable_22 : decode cX6_isCountable 22 = .ok (.iload_n 2, 1) := by decide +kernel
theorem dX6_isCountable_23 : decode cX6_isCountable 23 = .ok (.ldc 164, 2) := by decide +kernel
theorem dX6_isCountable_25 : decode cX6_isCountable 25 = .ok (.if_icmp .gt 7, 3) := by decide +kernel
theorem dX6_isCountable_28 : decode cX6_isCountable 28 = .ok (.iconst 1, 1) := by decide +kernel
theorem dX6_isCountable_29 : decode cX6_isCountable 29 = .ok (.goto 4, 3) := by decide +kernel
theorem dX6_isCountable_32 : decode cX6_isCountable 32 = .ok (.iconst 0, 1) := by decide +kernel
theorem dX6_isCountable_33 : decode cX6_isCountable 33 = .ok (.ireturn, 1) := by decide +kernel
set_option maxRecDepth 20000 in
theorem ggX6_countAll_X6_isCountable : GoodIn wsX6_countAll wsX6_isCountable := goodIn_r _ [7, 8, 9, 115, 116, 117, 118, 119, 120, 121, 122, 123, 124] (by decide +kernel) (by decide +kernel)
set_option maxRecDepth 20000 in
theorem gX6_countAll_X6_isCountable : GoodIn wsX6_countAll (wsV RX6 151 RX6 yX6_isCountable wsX6_isCountable) := goodIn_app (goodIn_of _ (by decide +kernel)) ggX6_countAll_X6_isCountable
set_option maxRecDepth 20000 in
theorem ggX6_countAll_X6_requireState : GoodIn wsX6_countAll wsX6_requireState := goodIn_ca (goodIn_r _ [12, 13, 14] (by decide +kernel) (by decide +kernel)) (goodIn_sub (fun _ h => List.mem_cons_of_mem _ (List.mem_append_right _ h)) (by decide +kernel))
set_option maxRecDepth 20000 in
theorem gX6_countAll_X6_requireState : GoodIn wsX6_countAll (va_wsS RX6 109 yX6_requireState wsX6_requireState) := goodIn_app (goodIn_of _ (by decide +kernel)) ggX6_countAll_X6_requireState
set_option maxRecDepth 20000 in
theorem ggX6_countAll_X6_startCount : GoodIn wsX6_countAll wsX6_startCount := goodIn_r _ [18, 1, 19, 2, 20, 21, 22, 23, 24, 25, 26, 27, 28, 29, 30, 31, 32, 33, 34, 35, 36, 37, 38, 39, 40, 41, 42, 43, 44, 45, 115, 116, 117, 118, 119, 120, 121, 122, 123, 124, 125, 126, 127, 128, 129, 130, 131, 132, 133, 134, 135, 136, 137, 138, 139, 140, 141] (by decide +kernel) (by decide +kernel)
set_option maxRecDepth 20000 in
theorem gX6_countAll_X6_startCount : GoodIn wsX6_countAll (wsV RX6 154 RX6 yX6_startCount wsX6_startCount) := goodIn_app (goodIn_of _ (by decide +kernel)) ggX6_countAll_X6_startCount
set_option maxRecDepth 20000 in
theorem ggX6_countAll_X6_countLists : GoodIn wsX6_countAll wsX6_countLists := goodIn_r _ [48, 49, 50, 51, 52, 53, 38, 54, 40, 55, 56, 57, 58, 59, 60, 61, 62, 23, 63, 33, 64, 65, 66, 67, 68, 69, 70, 30, 32, 25, 71, 72, 73, 74, 75, 76, 77, 78, 28, 26, 34, 79, 80, 81, 82, 83, 84, 85, 86, 87, 88, 6, 89, 90, 91, 92, 93, 94, 95, 96, 97, 98, 99, 100, 101, 102, 103, 104, 105, 106, 46, 47, 107, 108, 109, 110, 111, 112, 113, 114, 125, 126, 127, 128, 129, 130, 131, 132, 133, 134, 140, 141] (by decide +kernel) (by decide +kernel)
set_option maxRecDepth 20000 in
theorem gX6_countAll_X6_countLists : GoodIn wsX6_countAll (va_wsS RX6 165 yX6_countLists wsX6_countLists) := goodIn_app (goodIn_of _ (by decide +kernel)) ggX6_countAll_X6_countLists
theorem dX6_countAll_0 : decode cX6_countAll 0 = .ok (.aload_n 0, 1) := by decide +kernel
theorem dX6_countAll_1 : decode cX6_countAll 1 = .ok (.iload_n 1, 1) := by decide +kernel
theorem dX6_countAll_2 : decode cX6_countAll 2 = .ok (.invokevirtual 151, 3) := by decide +kernel
theorem dX6_countAll_5 : decode cX6_countAll 5 = .ok (.invokestatic 109, 3) := by decide +kernel
theorem dX6_countAll_8 : decode cX6_countAll 8 = .ok (.aload_n 0, 1) := by decide +kernel
theorem dX6_countAll_9 : decode cX6_countAll 9 = .ok (.invokevirtual 154, 3) := by decide +kernel
theorem dX6_countAll_12 : decode cX6_countAll 12 = .ok (.aload_n 0, 1) := by decide +kernel
theorem dX6_countAll_13 : decode cX6_countAll 13 = .ok (.getfield 41, 3) := by decide +kernel
theorem dX6_countAll_16 : decode cX6_countAll 16 = .ok (.aload_n 0, 1) := by decide +kernel
theorem dX6_countAll_17 : decode cX6_countAll 17 = .ok (.getfield 48, 3) := by decide +kernel
theorem dX6_countAll_20 : decode cX6_countAll 20 = .ok (.iload_n 1, 1) := by decide +kernel
theorem dX6_countAll_21 : decode cX6_countAll 21 = .ok (.iload_n 2, 1) := by decide +kernel
theorem dX6_countAll_22 : decode cX6_countAll 22 = .ok (.iload_n 3, 1) := by decide +kernel
theorem dX6_countAll_23 : decode cX6_countAll 23 = .ok (.invokestatic 165, 3) := by decide +kernel
theorem dX6_countAll_26 : decode cX6_countAll 26 = .ok (.ireturn, 1) := by decide +kernel
set_option maxRecDepth 20000 in
theorem ggX6_startCount_X1_open : GoodIn wsX6_startCount wsX1_open := goodIn_r _ [8, 9, 10, 11, 12, 13, 14, 15, 16, 17, 18, 40, 41, 42, 43, 44, 45, 46, 47, 48, 49, 50, 51, 52, 53, 54] (by decide +kernel) (by decide +kernel)
set_option maxRecDepth 20000 in
theorem gX6_startCount_X1_open : GoodIn wsX6_startCount (wsV RX6 140 RX1 yX1_open wsX1_open) := goodIn_app (goodIn_of _ (by decide +kernel)) ggX6_startCount_X1_open
set_option maxRecDepth 20000 in
theorem ggX6_startCount_X2_clear : GoodIn wsX6_startCount wsX2_clear := goodIn_r _ [23, 24, 25, 26, 27, 28, 29, 55, 56] (by decide +kernel) (by decide +kernel)
set_option maxRecDepth 20000 in
theorem gX6_startCount_X2_clear : GoodIn wsX6_startCount (wsV RX6 169 RX2 yX2_clear wsX2_clear) := goodIn_app (goodIn_of _ (by decide +kernel)) ggX6_startCount_X2_clear
theorem dX6_startCount_0 : decode cX6_startCount 0 = .ok (.aload_n 0, 1) := by decide +kernel
theorem dX6_startCount_1 : decode cX6_startCount 1 = .ok (.getfield 41, 3) := by decide +kernel
theorem dX6_startCount_4 : decode cX6_startCount 4 = .ok (.aload_n 0, 1) := by decide +kernel
theorem dX6_startCount_5 : decode cX6_startCount 5 = .ok (.getfield 25, 3) := by decide +kernel
theorem dX6_startCount_8 : decode cX6_startCount 8 = .ok (.invokevirtual 140, 3) := by decide +kernel
theorem dX6_startCount_11 : decode cX6_startCount 11 = .ok (.aload_n 0, 1) := by decide +kernel
theorem dX6_startCount_12 : decode cX6_startCount 12 = .ok (.getfield 48, 3) := by decide +kernel
theorem dX6_startCount_15 : decode cX6_startCount 15 = .ok (.invokevirtual 169, 3) := by decide +kernel
theorem dX6_startCount_18 : decode cX6_startCount 18 = .ok (.return_, 1) := by decide +kernel
set_option maxRecDepth 20000 in
theorem ggX6_countLists_X2_find : GoodIn wsX6_countLists wsX2_find := goodIn_r _ [7, 8, 9, 10, 11, 6, 12, 13, 90, 91] (by decide +kernel) (by decide +kernel)
set_option maxRecDepth 20000 in
theorem gX6_countLists_X2_find : GoodIn wsX6_countLists (wsV RX6 175 RX2 yX2_find wsX2_find) := goodIn_app (goodIn_of _ (by decide +kernel)) ggX6_countLists_X2_find
set_option maxRecDepth 20000 in
theorem ggX6_countLists_X1_arrive : GoodIn wsX6_countLists wsX1_arrive := goodIn_r _ [18, 19, 20, 21, 22, 23, 24, 25, 17, 26, 27, 28, 29, 30, 31, 32, 33, 34, 35, 36, 37, 38, 39, 40, 41, 42, 43, 44, 45, 46, 47, 48, 80, 81, 82, 83, 84, 85, 86, 87, 88, 89] (by decide +kernel) (by decide +kernel)
set_option maxRecDepth 20000 in
theorem gX6_countLists_X1_arrive : GoodIn wsX6_countLists (wsV RX6 143 RX1 yX1_arrive wsX1_arrive) := goodIn_app (goodIn_of _ (by decide +kernel)) ggX6_countLists_X1_arrive
set_option maxRecDepth 20000 in
theorem ggX6_countLists_X6_shareOfLastCar : GoodIn wsX6_countLists wsX6_shareOfLastCar := goodIn_r _ [52, 53, 54, 55, 56, 17, 57, 21, 20, 58, 59, 60, 61, 19, 62, 63, 64, 65, 66, 67, 68, 69, 80, 81, 82, 83, 84, 85, 86, 87, 88, 89] (by decide +kernel) (by decide +kernel)
set_option maxRecDepth 20000 in
theorem gX6_countLists_X6_shareOfLastCar : GoodIn wsX6_countLists (va_wsS RX6 182 yX6_shareOfLastCar wsX6_shareOfLastCar) := goodIn_app (goodIn_of _ (by decide +kernel)) ggX6_countLists_X6_shareOfLastCar
set_option maxRecDepth 20000 in
theorem ggX6_countLists_X6_countLists : GoodIn wsX6_countLists wsX6_countLists := goodIn_r _ [0, 1, 2, 3, 4, 5, 6, 7, 8, 9, 10, 11, 12, 13, 14, 15, 16, 17, 18, 19, 20, 21, 22, 23, 24, 25, 26, 27, 28, 29, 30, 31, 32, 33, 34, 35, 36, 37, 38, 39, 40, 41, 42, 43, 44, 45, 46, 47, 48, 49, 50, 51, 52, 53, 54, 55, 56, 57, 58, 59, 60, 61, 62, 63, 64, 65, 66, 67, 68, 69, 70, 71, 72, 73, 74, 75, 76, 77, 78, 79, 80, 81, 82, 83, 84, 85, 86, 87, 88, 89, 90, 91] (by decide +kernel) (by decide +kernel)
set_option maxRecDepth 20000 in
theorem gX6_countLists_X6_countLists : GoodIn wsX6_countLists (va_wsS RX6 165 yX6_countLists wsX6_countLists) := goodIn_app (goodIn_of _ (by decide +kernel)) ggX6_countLists_X6_countLists
set_option maxRecDepth 20000 in
theorem ggX6_countLists_X1_takeBackLast : GoodIn wsX6_countLists wsX1_takeBackLast := goodIn_r _ [75, 19, 21, 29, 38, 40, 80, 81, 82, 83, 84, 85, 86, 87, 88, 89] (by decide +kernel) (by decide +kernel)
set_option maxRecDepth 20000 in
theorem gX6_countLists_X1_takeBackLast : GoodIn wsX6_countLists (wsV RX6 186 RX1 yX1_takeBackLast wsX1_takeBackLast) := goodIn_app (goodIn_of _ (by decide +kernel)) ggX6_countLists_X1_takeBackLast
set_option maxRecDepth 20000 in
theorem ggX6_countLists_X2_put : GoodIn wsX6_countLists wsX2_put := goodIn_r _ [79, 8, 9, 10, 11, 6, 12, 13, 90, 91] (by decide +kernel) (by decide +kernel)
set_option maxRecDepth 20000 in
theorem gX6_countLists_X2_put : GoodIn wsX6_countLists (wsV RX6 189 RX2 yX2_put wsX2_put) := goodIn_app (goodIn_of _ (by decide +kernel)) ggX6_countLists_X2_put
theorem dX6_countLists_0 : decode cX6_countLists 0 = .ok (.iload_n 2, 1) := by decide +kernel
theorem dX6_countLists_1 : decode cX6_countLists 1 = .ok (.ifCond .gt 14, 3) := by decide +kernel
theorem dX6_countLists_4 : decode cX6_countLists 4 = .ok (.iload 4, 2) := by decide +kernel
theorem dX6_countLists_6 : decode cX6_countLists 6 = .ok (.ifCond .ne 7, 3) := by decide +kernel
theorem dX6_countLists_9 : decode cX6_countLists 9 = .ok (.iconst 1, 1) := by decide +kernel
theorem dX6_countLists_10 : decode cX6_countLists 10 = .ok (.goto 4, 3) := by decide +kernel
theorem dX6_countLists_13 : decode cX6_countLists 13 = .ok (.iconst 0, 1) := by decide +kernel
theorem dX6_countLists_14 : decode cX6_countLists 14 = .ok (.ireturn, 1) := by decide +kernel
theorem dX6_countLists_15 : decode cX6_countLists 15 = .ok (.aload_n 0, 1) := by decide +kernel
theorem dX6_countLists_16 : decode cX6_countLists 16 = .ok (.getfield 172, 3) := by decide +kernel
theorem dX6_countLists_19 : decode cX6_countLists 19 = .ok (.i2l, 1) := by decide +kernel
theorem dX6_countLists_20 : decode cX6_countLists 20 = .ok (.iload_n 2, 1) := by decide +kernel
theorem dX6_countLists_21 : decode cX6_countLists 21 = .ok (.i2l, 1) := by decide +kernel
theorem dX6_countLists_22 : decode cX6_countLists 22 = .ok (.bipush 16, 2) := by decide +kernel
theorem dX6_countLists_24 : decode cX6_countLists 24 = .ok (.lshl, 1) := by decide +kernel
theorem dX6_countLists_25 : decode cX6_countLists 25 = .ok (.lor, 1) := by decide +kernel
theorem dX6_countLists_26 : decode cX6_countLists 26 = .ok (.iload 4, 2) := by decide +kernel
theorem dX6_countLists_28 : decode cX6_countLists 28 = .ok (.i2l, 1) := by decide +kernel
theorem dX6_countLists_29 : decode cX6_countLists 29 = .ok (.bipush 20, 2) := by decide +kernel
theorem dX6_countLists_31 : decode cX6_countLists 31 = .ok (.lshl, 1) := by decide +kernel
theorem dX6_countLists_32 : decode cX6_countLists 32 = .ok (.lor, 1) := by decide +kernel
theorem dX6_countLists_33 : decode cX6_countLists 33 = .ok (.lstore 5, 2) := by decide +kernel
theorem dX6_countLists_35 : decode cX6_countLists 35 = .ok (.aload_n 1, 1) := by decide +kernel
theorem dX6_countLists_36 : decode cX6_countLists 36 = .ok (.lload 5, 2) := by decide +kernel
theorem dX6_countLists_38 : decode cX6_countLists 38 = .ok (.invokevirtual 175, 3) := by decide +kernel
theorem dX6_countLists_41 : decode cX6_countLists 41 = .ok (.istore 7, 2) := by decide +kernel
theorem dX6_countLists_43 : decode cX6_countLists 43 = .ok (.iload 7, 2) := by decide +kernel
theorem dX6_countLists_45 : decode cX6_countLists 45 = .ok (.iconst (-1), 1) := by decide +kernel
theorem dX6_countLists_46 : decode cX6_countLists 46 = .ok (.if_icmp .eq 6, 3) := by decide +kernel
theorem dX6_countLists_49 : decode cX6_countLists 49 = .ok (.iload 7, 2) := by decide +kernel
theorem dX6_countLists_51 : decode cX6_countLists 51 = .ok (.ireturn, 1) := by decide +kernel
theorem dX6_countLists_52 : decode cX6_countLists 52 = .ok (.iconst 0, 1) := by decide +kernel
theorem dX6_countLists_53 : decode cX6_countLists 53 = .ok (.istore 8, 2) := by decide +kernel
theorem dX6_countLists_55 : decode cX6_countLists 55 = .ok (.iconst 0, 1) := by decide +kernel
theorem dX6_countLists_56 : decode cX6_countLists 56 = .ok (.istore 9, 2) := by decide +kernel
theorem dX6_countLists_58 : decode cX6_countLists 58 = .ok (.iload 9, 2) := by decide +kernel
theorem dX6_countLists_60 : decode cX6_countLists 60 = .ok (.aload_n 0, 1) := by decide +kernel
theorem dX6_countLists_61 : decode cX6_countLists 61 = .ok (.getfield 179, 3) := by decide +kernel
theorem dX6_countLists_64 : decode cX6_countLists 64 = .ok (.if_icmp .ge 61, 3) := by decide +kernel
theorem dX6_countLists_67 : decode cX6_countLists 67 = .ok (.aload_n 0, 1) := by decide +kernel
theorem dX6_countLists_68 : decode cX6_countLists 68 = .ok (.iload 9, 2) := by decide +kernel
theorem dX6_countLists_70 : decode cX6_countLists 70 = .ok (.invokevirtual 143, 3) := by decide +kernel
theorem dX6_countLists_73 : decode cX6_countLists 73 = .ok (.istore 10, 2) := by decide +kernel
theorem dX6_countLists_75 : decode cX6_countLists 75 = .ok (.iload 4, 2) := by decide +kernel
theorem dX6_countLists_77 : decode cX6_countLists 77 = .ok (.aload_n 0, 1) := by decide +kernel
theorem dX6_countLists_78 : decode cX6_countLists 78 = .ok (.iload_n 3, 1) := by decide +kernel
theorem dX6_countLists_79 : decode cX6_countLists 79 = .ok (.invokestatic 182, 3) := by decide +kernel
theorem dX6_countLists_82 : decode cX6_countLists 82 = .ok (.isub, 1) := by decide +kernel
theorem dX6_countLists_83 : decode cX6_countLists 83 = .ok (.istore 11, 2) := by decide +kernel
theorem dX6_countLists_85 : decode cX6_countLists 85 = .ok (.iload 10, 2) := by decide +kernel
theorem dX6_countLists_87 : decode cX6_countLists 87 = .ok (.ifCond .ne 7, 3) := by decide +kernel
theorem dX6_countLists_90 : decode cX6_countLists 90 = .ok (.iload_n 3, 1) := by decide +kernel
theorem dX6_countLists_91 : decode cX6_countLists 91 = .ok (.ifCond .ne 24, 3) := by decide +kernel
theorem dX6_countLists_94 : decode cX6_countLists 94 = .ok (.iload 11, 2) := by decide +kernel
theorem dX6_countLists_96 : decode cX6_countLists 96 = .ok (.ifCond .lt 19, 3) := by decide +kernel
theorem dX6_countLists_99 : decode cX6_countLists 99 = .ok (.iload 8, 2) := by decide +kernel
theorem dX6_countLists_101 : decode cX6_countLists 101 = .ok (.aload_n 0, 1) := by decide +kernel
theorem dX6_countLists_102 : decode cX6_countLists 102 = .ok (.aload_n 1, 1) := by decide +kernel
theorem dX6_countLists_103 : decode cX6_countLists 103 = .ok (.iload_n 2, 1) := by decide +kernel
theorem dX6_countLists_104 : decode cX6_countLists 104 = .ok (.iconst 1, 1) := by decide +kernel
theorem dX6_countLists_105 : decode cX6_countLists 105 = .ok (.isub, 1) := by decide +kernel
theorem dX6_countLists_106 : decode cX6_countLists 106 = .ok (.iload_n 3, 1) := by decide +kernel
theorem dX6_countLists_107 : decode cX6_countLists 107 = .ok (.iload 11, 2) := by decide +kernel
theorem dX6_countLists_109 : decode cX6_countLists 109 = .ok (.invokestatic 165, 3) := by decide +kernel
theorem dX6_countLists_112 : decode cX6_countLists 112 = .ok (.iadd, 1) := by decide +kernel
theorem dX6_countLists_113 : decode cX6_countLists 113 = .ok (.istore 8, 2) := by decide +kernel
theorem dX6_countLists_115 : decode cX6_countLists 115 = .ok (.aload_n 0, 1) := by decide +kernel
theorem dX6_countLists_116 : decode cX6_countLists 116 = .ok (.invokevirtual 186, 3) := by decide +kernel
theorem dX6_countLists_119 : decode cX6_countLists 119 = .ok (.iinc 9 1, 3) := by decide +kernel
theorem dX6_countLists_122 : decode cX6_countLists 122 = .ok (.goto (-64), 3) := by decide +kernel
theorem dX6_countLists_125 : decode cX6_countLists 125 = .ok (.aload_n 1, 1) := by decide +kernel
theorem dX6_countLists_126 : decode cX6_countLists 126 = .ok (.lload 5, 2) := by decide +kernel
theorem dX6_countLists_128 : decode cX6_countLists 128 = .ok (.iload 8, 2) := by decide +kernel
theorem dX6_countLists_130 : decode cX6_countLists 130 = .ok (.invokevirtual 189, 3) := by decide +kernel
theorem dX6_countLists_133 : decode cX6_countLists 133 = .ok (.iload 8, 2) := by decide +kernel
theorem dX6_countLists_135 : decode cX6_countLists 135 = .ok (.ireturn, 1) := by decide +kernel
set_option maxRecDepth 20000 in
theorem ggX6_shareOfLastCar_X1_isLuckyCar : GoodIn wsX6_shareOfLastCar wsX1_isLuckyCar := goodIn_r _ [6, 7, 8, 9, 10, 11, 5, 12, 13, 22, 23, 24, 25, 26, 27, 28, 29, 30, 31] (by decide +kernel) (by decide +kernel)
set_option maxRecDepth 20000 in
theorem gX6_shareOfLastCar_X1_isLuckyCar : GoodIn wsX6_shareOfLastCar (wsV RX6 196 RX1 yX1_isLuckyCar wsX1_isLuckyCar) := goodIn_app (goodIn_of _ (by decide +kernel)) ggX6_shareOfLastCar_X1_isLuckyCar
set_option maxRecDepth 20000 in
theorem ggX6_shareOfLastCar_X1_wishOf : GoodIn wsX6_shareOfLastCar wsX1_wishOf := goodIn_r _ [17, 8, 9, 10, 11, 5, 12, 13, 22, 23, 24, 25, 26, 27, 28, 29, 30, 31] (by decide +kernel) (by decide +kernel)
set_option maxRecDepth 20000 in
theorem gX6_shareOfLastCar_X1_wishOf : GoodIn wsX6_shareOfLastCar (wsV RX6 199 RX1 yX1_wishOf wsX1_wishOf) := goodIn_app (goodIn_of _ (by decide +kernel)) ggX6_shareOfLastCar_X1_wishOf
set_option maxRecDepth 20000 in
theorem ggX6_shareOfLastCar_X1_hasLeft : GoodIn wsX6_shareOfLastCar wsX1_hasLeft := goodIn_r _ [21, 7, 9, 10, 11, 5, 12, 13, 22, 23, 24, 25, 26, 27, 28, 29, 30, 31] (by decide +kernel) (by decide +kernel)
set_option maxRecDepth 20000 in
theorem gX6_shareOfLastCar_X1_hasLeft : GoodIn wsX6_shareOfLastCar (wsV RX6 202 RX1 yX1_hasLeft wsX1_hasLeft) := goodIn_app (goodIn_of _ (by decide +kernel)) ggX6_shareOfLastCar_X1_hasLeft
theorem dX6_shareOfLastCar_0 : decode cX6_shareOfLastCar 0 = .ok (.aload_n 0, 1) := by decide +kernel
theorem dX6_shareOfLastCar_1 : decode cX6_shareOfLastCar 1 = .ok (.getfield 193, 3) := by decide +kernel
theorem dX6_shareOfLastCar_4 : decode cX6_shareOfLastCar 4 = .ok (.iconst 1, 1) := by decide +kernel
theorem dX6_shareOfLastCar_5 : decode cX6_shareOfLastCar 5 = .ok (.isub, 1) := by decide +kernel
theorem dX6_shareOfLastCar_6 : decode cX6_shareOfLastCar 6 = .ok (.istore_n 2, 1) := by decide +kernel
theorem dX6_shareOfLastCar_7 : decode cX6_shareOfLastCar 7 = .ok (.iload_n 1, 1) := by decide +kernel
theorem dX6_shareOfLastCar_8 : decode cX6_shareOfLastCar 8 = .ok (.lookupswitch 48 #[(1, 28), (2, 42)], 28) := by decide +kernel
theorem dX6_shareOfLastCar_36 : decode cX6_shareOfLastCar 36 = .ok (.aload_n 0, 1) := by decide +kernel
theorem dX6_shareOfLastCar_37 : decode cX6_shareOfLastCar 37 = .ok (.iload_n 2, 1) := by decide +kernel
theorem dX6_shareOfLastCar_38 : decode cX6_shareOfLastCar 38 = .ok (.invokevirtual 196, 3) := by decide +kernel
theorem dX6_shareOfLastCar_41 : decode cX6_shareOfLastCar 41 = .ok (.ifCond .eq 7, 3) := by decide +kernel
theorem dX6_shareOfLastCar_44 : decode cX6_shareOfLastCar 44 = .ok (.iconst 1, 1) := by decide +kernel
theorem dX6_shareOfLastCar_45 : decode cX6_shareOfLastCar 45 = .ok (.goto 4, 3) := by decide +kernel
theorem dX6_shareOfLastCar_48 : decode cX6_shareOfLastCar 48 = .ok (.iconst 0, 1) := by decide +kernel
theorem dX6_shareOfLastCar_49 : decode cX6_shareOfLastCar 49 = .ok (.ireturn, 1) := by decide +kernel
theorem dX6_shareOfLastCar_50 : decode cX6_shareOfLastCar 50 = .ok (.aload_n 0, 1) := by decide +kernel
theorem dX6_shareOfLastCar_51 : decode cX6_shareOfLastCar 51 = .ok (.iload_n 2, 1) := by decide +kernel
theorem dX6_shareOfLastCar_52 : decode cX6_shareOfLastCar 52 = .ok (.invokevirtual 199, 3) := by decide +kernel
theorem dX6_shareOfLastCar_55 : decode cX6_shareOfLastCar 55 = .ok (.ireturn, 1) := by decide +kernel
theorem dX6_shareOfLastCar_56 : decode cX6_shareOfLastCar 56 = .ok (.aload_n 0, 1) := by decide +kernel
theorem dX6_shareOfLastCar_57 : decode cX6_shareOfLastCar 57 = .ok (.iload_n 2, 1) := by decide +kernel
theorem dX6_shareOfLastCar_58 : decode cX6_shareOfLastCar 58 = .ok (.invokevirtual 202, 3) := by decide +kernel
theorem dX6_shareOfLastCar_61 : decode cX6_shareOfLastCar 61 = .ok (.ifCond .eq 7, 3) := by decide +kernel
theorem dX6_shareOfLastCar_64 : decode cX6_shareOfLastCar 64 = .ok (.iconst 1, 1) := by decide +kernel
theorem dX6_shareOfLastCar_65 : decode cX6_shareOfLastCar 65 = .ok (.goto 4, 3) := by decide +kernel
theorem dX6_shareOfLastCar_68 : decode cX6_shareOfLastCar 68 = .ok (.iconst 0, 1) := by decide +kernel
theorem dX6_shareOfLastCar_69 : decode cX6_shareOfLastCar 69 = .ok (.ireturn, 1) := by decide +kernel
set_option maxRecDepth 20000 in
theorem ggX6_countBeginningWith_X1_arrive : GoodIn wsX6_countBeginningWith wsX1_arrive := goodIn_r _ [7, 8, 9, 10, 11, 12, 13, 14, 6, 15, 16, 17, 18, 19, 20, 21, 22, 23, 24, 25, 26, 27, 28, 29, 30, 31, 32, 33, 34, 35, 36, 37, 93, 94, 95, 96, 97, 98, 99, 100, 101, 102] (by decide +kernel) (by decide +kernel)
set_option maxRecDepth 20000 in
theorem gX6_countBeginningWith_X1_arrive : GoodIn wsX6_countBeginningWith (wsV RX6 143 RX1 yX1_arrive wsX1_arrive) := goodIn_app (goodIn_of _ (by decide +kernel)) ggX6_countBeginningWith_X1_arrive
set_option maxRecDepth 20000 in
theorem ggX6_countBeginningWith_X6_countLists : GoodIn wsX6_countBeginningWith wsX6_countLists := goodIn_r _ [41, 42, 43, 44, 45, 46, 47, 48, 49, 50, 51, 52, 53, 54, 3, 4, 5, 6, 7, 8, 9, 10, 11, 12, 13, 14, 15, 16, 17, 18, 19, 20, 21, 22, 23, 24, 25, 26, 27, 28, 29, 30, 31, 32, 33, 34, 35, 36, 37, 55, 56, 40, 57, 58, 59, 60, 61, 62, 63, 64, 65, 66, 67, 68, 69, 70, 71, 72, 73, 74, 38, 39, 75, 76, 77, 78, 79, 80, 81, 82, 93, 94, 95, 96, 97, 98, 99, 100, 101, 102, 103, 104] (by decide +kernel) (by decide +kernel)
set_option maxRecDepth 20000 in
theorem gX6_countBeginningWith_X6_countLists : GoodIn wsX6_countBeginningWith (va_wsS RX6 165 yX6_countLists wsX6_countLists) := goodIn_app (goodIn_of _ (by decide +kernel)) ggX6_countBeginningWith_X6_countLists
set_option maxRecDepth 20000 in
theorem ggX6_countBeginningWith_X1_takeBackLast : GoodIn wsX6_countBeginningWith wsX1_takeBackLast := goodIn_r _ [78, 8, 10, 18, 27, 29, 93, 94, 95, 96, 97, 98, 99, 100, 101, 102] (by decide +kernel) (by decide +kernel)
set_option maxRecDepth 20000 in
theorem gX6_countBeginningWith_X1_takeBackLast : GoodIn wsX6_countBeginningWith (wsV RX6 186 RX1 yX1_takeBackLast wsX1_takeBackLast) := goodIn_app (goodIn_of _ (by decide +kernel)) ggX6_countBeginningWith_X1_takeBackLast
theorem dX6_countBeginningWith_0 : decode cX6_countBeginningWith 0 = .ok (.aload_n 0, 1) := by decide +kernel
theorem dX6_countBeginningWith_1 : decode cX6_countBeginningWith 1 = .ok (.getfield 41, 3) := by decide +kernel
theorem dX6_countBeginningWith_4 : decode cX6_countBeginningWith 4 = .ok (.iload_n 1, 1) := by decide +kernel
theorem dX6_countBeginningWith_5 : decode cX6_countBeginningWith 5 = .ok (.invokevirtual 143, 3) := by decide +kernel
theorem dX6_countBeginningWith_8 : decode cX6_countBeginningWith 8 = .ok (.ifCond .eq 20, 3) := by decide +kernel
theorem dX6_countBeginningWith_11 : decode cX6_countBeginningWith 11 = .ok (.aload_n 0, 1) := by decide +kernel
theorem dX6_countBeginningWith_12 : decode cX6_countBeginningWith 12 = .ok (.getfield 41, 3) := by decide +kernel
theorem dX6_countBeginningWith_15 : decode cX6_countBeginningWith 15 = .ok (.aload_n 0, 1) := by decide +kernel
theorem dX6_countBeginningWith_16 : decode cX6_countBeginningWith 16 = .ok (.getfield 48, 3) := by decide +kernel
theorem dX6_countBeginningWith_19 : decode cX6_countBeginningWith 19 = .ok (.iload_n 2, 1) := by decide +kernel
theorem dX6_countBeginningWith_20 : decode cX6_countBeginningWith 20 = .ok (.iconst 0, 1) := by decide +kernel
theorem dX6_countBeginningWith_21 : decode cX6_countBeginningWith 21 = .ok (.iconst 0, 1) := by decide +kernel
theorem dX6_countBeginningWith_22 : decode cX6_countBeginningWith 22 = .ok (.invokestatic 165, 3) := by decide +kernel
theorem dX6_countBeginningWith_25 : decode cX6_countBeginningWith 25 = .ok (.goto 4, 3) := by decide +kernel
theorem dX6_countBeginningWith_28 : decode cX6_countBeginningWith 28 = .ok (.iconst 0, 1) := by decide +kernel
theorem dX6_countBeginningWith_29 : decode cX6_countBeginningWith 29 = .ok (.istore_n 3, 1) := by decide +kernel
theorem dX6_countBeginningWith_30 : decode cX6_countBeginningWith 30 = .ok (.aload_n 0, 1) := by decide +kernel
theorem dX6_countBeginningWith_31 : decode cX6_countBeginningWith 31 = .ok (.getfield 41, 3) := by decide +kernel
theorem dX6_countBeginningWith_34 : decode cX6_countBeginningWith 34 = .ok (.invokevirtual 186, 3) := by decide +kernel
theorem dX6_countBeginningWith_37 : decode cX6_countBeginningWith 37 = .ok (.iload_n 3, 1) := by decide +kernel
theorem dX6_countBeginningWith_38 : decode cX6_countBeginningWith 38 = .ok (.ireturn, 1) := by decide +kernel
set_option maxRecDepth 20000 in
theorem ggX6_parkNextOfRank_X1_arrive : GoodIn wsX6_parkNextOfRank wsX1_arrive := goodIn_r _ [8, 9, 10, 11, 12, 13, 14, 15, 7, 16, 17, 18, 19, 20, 21, 22, 23, 24, 25, 26, 27, 28, 29, 30, 31, 32, 33, 34, 35, 36, 37, 38, 94, 95, 96, 97, 98, 99, 100, 101, 102, 103] (by decide +kernel) (by decide +kernel)
set_option maxRecDepth 20000 in
theorem gX6_parkNextOfRank_X1_arrive : GoodIn wsX6_parkNextOfRank (wsV RX6 143 RX1 yX1_arrive wsX1_arrive) := goodIn_app (goodIn_of _ (by decide +kernel)) ggX6_parkNextOfRank_X1_arrive
set_option maxRecDepth 20000 in
theorem ggX6_parkNextOfRank_X6_countLists : GoodIn wsX6_parkNextOfRank wsX6_countLists := goodIn_r _ [42, 43, 44, 45, 46, 47, 48, 49, 50, 51, 52, 53, 54, 55, 4, 5, 6, 7, 8, 9, 10, 11, 12, 13, 14, 15, 16, 17, 18, 19, 20, 21, 22, 23, 24, 25, 26, 27, 28, 29, 30, 31, 32, 33, 34, 35, 36, 37, 38, 56, 57, 41, 58, 59, 60, 61, 62, 63, 64, 65, 66, 67, 68, 69, 70, 71, 72, 73, 74, 75, 39, 40, 76, 77, 78, 79, 80, 81, 82, 83, 94, 95, 96, 97, 98, 99, 100, 101, 102, 103, 104, 105] (by decide +kernel) (by decide +kernel)
set_option maxRecDepth 20000 in
theorem gX6_parkNextOfRank_X6_countLists : GoodIn wsX6_parkNextOfRank (va_wsS RX6 165 yX6_countLists wsX6_countLists) := goodIn_app (goodIn_of _ (by decide +kernel)) ggX6_parkNextOfRank_X6_countLists
set_option maxRecDepth 20000 in
theorem ggX6_parkNextOfRank_X1_takeBackLast : GoodIn wsX6_parkNextOfRank wsX1_takeBackLast := goodIn_r _ [79, 9, 11, 19, 28, 30, 94, 95, 96, 97, 98, 99, 100, 101, 102, 103] (by decide +kernel) (by decide +kernel)
set_option maxRecDepth 20000 in
theorem gX6_parkNextOfRank_X1_takeBackLast : GoodIn wsX6_parkNextOfRank (wsV RX6 186 RX1 yX1_takeBackLast wsX1_takeBackLast) := goodIn_app (goodIn_of _ (by decide +kernel)) ggX6_parkNextOfRank_X1_takeBackLast
theorem dX6_parkNextOfRank_0 : decode cX6_parkNextOfRank 0 = .ok (.iconst 0, 1) := by decide +kernel
theorem dX6_parkNextOfRank_1 : decode cX6_parkNextOfRank 1 = .ok (.istore_n 3, 1) := by decide +kernel
theorem dX6_parkNextOfRank_2 : decode cX6_parkNextOfRank 2 = .ok (.iconst 0, 1) := by decide +kernel
theorem dX6_parkNextOfRank_3 : decode cX6_parkNextOfRank 3 = .ok (.istore 4, 2) := by decide +kernel
theorem dX6_parkNextOfRank_5 : decode cX6_parkNextOfRank 5 = .ok (.iload 4, 2) := by decide +kernel
theorem dX6_parkNextOfRank_7 : decode cX6_parkNextOfRank 7 = .ok (.aload_n 0, 1) := by decide +kernel
theorem dX6_parkNextOfRank_8 : decode cX6_parkNextOfRank 8 = .ok (.getfield 18, 3) := by decide +kernel
theorem dX6_parkNextOfRank_11 : decode cX6_parkNextOfRank 11 = .ok (.if_icmp .ge 63, 3) := by decide +kernel
theorem dX6_parkNextOfRank_14 : decode cX6_parkNextOfRank 14 = .ok (.aload_n 0, 1) := by decide +kernel
theorem dX6_parkNextOfRank_15 : decode cX6_parkNextOfRank 15 = .ok (.getfield 41, 3) := by decide +kernel
theorem dX6_parkNextOfRank_18 : decode cX6_parkNextOfRank 18 = .ok (.iload 4, 2) := by decide +kernel
theorem dX6_parkNextOfRank_20 : decode cX6_parkNextOfRank 20 = .ok (.invokevirtual 143, 3) := by decide +kernel
theorem dX6_parkNextOfRank_23 : decode cX6_parkNextOfRank 23 = .ok (.ifCond .eq 20, 3) := by decide +kernel
theorem dX6_parkNextOfRank_26 : decode cX6_parkNextOfRank 26 = .ok (.aload_n 0, 1) := by decide +kernel
theorem dX6_parkNextOfRank_27 : decode cX6_parkNextOfRank 27 = .ok (.getfield 41, 3) := by decide +kernel
theorem dX6_parkNextOfRank_30 : decode cX6_parkNextOfRank 30 = .ok (.aload_n 0, 1) := by decide +kernel
theorem dX6_parkNextOfRank_31 : decode cX6_parkNextOfRank 31 = .ok (.getfield 48, 3) := by decide +kernel
theorem dX6_parkNextOfRank_34 : decode cX6_parkNextOfRank 34 = .ok (.iload_n 1, 1) := by decide +kernel
theorem dX6_parkNextOfRank_35 : decode cX6_parkNextOfRank 35 = .ok (.iconst 0, 1) := by decide +kernel
theorem dX6_parkNextOfRank_36 : decode cX6_parkNextOfRank 36 = .ok (.iconst 0, 1) := by decide +kernel
theorem dX6_parkNextOfRank_37 : decode cX6_parkNextOfRank 37 = .ok (.invokestatic 165, 3) := by decide +kernel
theorem dX6_parkNextOfRank_40 : decode cX6_parkNextOfRank 40 = .ok (.goto 4, 3) := by decide +kernel
theorem dX6_parkNextOfRank_43 : decode cX6_parkNextOfRank 43 = .ok (.iconst 0, 1) := by decide +kernel
theorem dX6_parkNextOfRank_44 : decode cX6_parkNextOfRank 44 = .ok (.istore 5, 2) := by decide +kernel
theorem dX6_parkNextOfRank_46 : decode cX6_parkNextOfRank 46 = .ok (.iload_n 2, 1) := by decide +kernel
theorem dX6_parkNextOfRank_47 : decode cX6_parkNextOfRank 47 = .ok (.iload_n 3, 1) := by decide +kernel
theorem dX6_parkNextOfRank_48 : decode cX6_parkNextOfRank 48 = .ok (.isub, 1) := by decide +kernel
theorem dX6_parkNextOfRank_49 : decode cX6_parkNextOfRank 49 = .ok (.iload 5, 2) := by decide +kernel
theorem dX6_parkNextOfRank_51 : decode cX6_parkNextOfRank 51 = .ok (.if_icmp .ge 5, 3) := by decide +kernel
theorem dX6_parkNextOfRank_54 : decode cX6_parkNextOfRank 54 = .ok (.iload_n 3, 1) := by decide +kernel
theorem dX6_parkNextOfRank_55 : decode cX6_parkNextOfRank 55 = .ok (.ireturn, 1) := by decide +kernel
theorem dX6_parkNextOfRank_56 : decode cX6_parkNextOfRank 56 = .ok (.aload_n 0, 1) := by decide +kernel
theorem dX6_parkNextOfRank_57 : decode cX6_parkNextOfRank 57 = .ok (.getfield 41, 3) := by decide +kernel
theorem dX6_parkNextOfRank_60 : decode cX6_parkNextOfRank 60 = .ok (.invokevirtual 186, 3) := by decide +kernel
theorem dX6_parkNextOfRank_63 : decode cX6_parkNextOfRank 63 = .ok (.iload_n 3, 1) := by decide +kernel
theorem dX6_parkNextOfRank_64 : decode cX6_parkNextOfRank 64 = .ok (.iload 5, 2) := by decide +kernel
theorem dX6_parkNextOfRank_66 : decode cX6_parkNextOfRank 66 = .ok (.iadd, 1) := by decide +kernel
theorem dX6_parkNextOfRank_67 : decode cX6_parkNextOfRank 67 = .ok (.istore_n 3, 1) := by decide +kernel
theorem dX6_parkNextOfRank_68 : decode cX6_parkNextOfRank 68 = .ok (.iinc 4 1, 3) := by decide +kernel
theorem dX6_parkNextOfRank_71 : decode cX6_parkNextOfRank 71 = .ok (.goto (-66), 3) := by decide +kernel
theorem dX6_parkNextOfRank_74 : decode cX6_parkNextOfRank 74 = .ok (.iload_n 3, 1) := by decide +kernel
theorem dX6_parkNextOfRank_75 : decode cX6_parkNextOfRank 75 = .ok (.ireturn, 1) := by decide +kernel
set_option maxRecDepth 20000 in
theorem ggX6_arrangements_X5_countOfWishes : GoodIn wsX6_arrangements wsX5_countOfWishes := goodIn_r _ [7, 8, 9, 10, 6, 11, 12, 13, 24, 25, 26, 27, 28] (by decide +kernel) (by decide +kernel)
set_option maxRecDepth 20000 in
theorem gX6_arrangements_X5_countOfWishes : GoodIn wsX6_arrangements (wsV RX6 205 RX5 yX5_countOfWishes wsX5_countOfWishes) := goodIn_app (goodIn_of _ (by decide +kernel)) ggX6_arrangements_X5_countOfWishes
theorem dX6_arrangements_0 : decode cX6_arrangements 0 = .ok (.iconst 1, 1) := by decide +kernel
theorem dX6_arrangements_1 : decode cX6_arrangements 1 = .ok (.istore_n 1, 1) := by decide +kernel
theorem dX6_arrangements_2 : decode cX6_arrangements 2 = .ok (.iconst 0, 1) := by decide +kernel
theorem dX6_arrangements_3 : decode cX6_arrangements 3 = .ok (.istore_n 2, 1) := by decide +kernel
theorem dX6_arrangements_4 : decode cX6_arrangements 4 = .ok (.iconst 0, 1) := by decide +kernel
theorem dX6_arrangements_5 : decode cX6_arrangements 5 = .ok (.istore_n 3, 1) := by decide +kernel
theorem dX6_arrangements_6 : decode cX6_arrangements 6 = .ok (.iload_n 3, 1) := by decide +kernel
theorem dX6_arrangements_7 : decode cX6_arrangements 7 = .ok (.aload_n 0, 1) := by decide +kernel
theorem dX6_arrangements_8 : decode cX6_arrangements 8 = .ok (.getfield 18, 3) := by decide +kernel
theorem dX6_arrangements_11 : decode cX6_arrangements 11 = .ok (.if_icmp .ge 45, 3) := by decide +kernel
theorem dX6_arrangements_14 : decode cX6_arrangements 14 = .ok (.aload_n 0, 1) := by decide +kernel
theorem dX6_arrangements_15 : decode cX6_arrangements 15 = .ok (.getfield 25, 3) := by decide +kernel
theorem dX6_arrangements_18 : decode cX6_arrangements 18 = .ok (.iload_n 3, 1) := by decide +kernel
theorem dX6_arrangements_19 : decode cX6_arrangements 19 = .ok (.invokevirtual 205, 3) := by decide +kernel
theorem dX6_arrangements_22 : decode cX6_arrangements 22 = .ok (.istore 4, 2) := by decide +kernel
theorem dX6_arrangements_24 : decode cX6_arrangements 24 = .ok (.iconst 1, 1) := by decide +kernel
theorem dX6_arrangements_25 : decode cX6_arrangements 25 = .ok (.istore 5, 2) := by decide +kernel
theorem dX6_arrangements_27 : decode cX6_arrangements 27 = .ok (.iload 5, 2) := by decide +kernel
theorem dX6_arrangements_29 : decode cX6_arrangements 29 = .ok (.iload 4, 2) := by decide +kernel
theorem dX6_arrangements_31 : decode cX6_arrangements 31 = .ok (.if_icmp .gt 19, 3) := by decide +kernel
theorem dX6_arrangements_34 : decode cX6_arrangements 34 = .ok (.iinc 2 1, 3) := by decide +kernel
theorem dX6_arrangements_37 : decode cX6_arrangements 37 = .ok (.iload_n 1, 1) := by decide +kernel
theorem dX6_arrangements_38 : decode cX6_arrangements 38 = .ok (.iload_n 2, 1) := by decide +kernel
theorem dX6_arrangements_39 : decode cX6_arrangements 39 = .ok (.imul, 1) := by decide +kernel
theorem dX6_arrangements_40 : decode cX6_arrangements 40 = .ok (.iload 5, 2) := by decide +kernel
theorem dX6_arrangements_42 : decode cX6_arrangements 42 = .ok (.idiv, 1) := by decide +kernel
theorem dX6_arrangements_43 : decode cX6_arrangements 43 = .ok (.istore_n 1, 1) := by decide +kernel
theorem dX6_arrangements_44 : decode cX6_arrangements 44 = .ok (.iinc 5 1, 3) := by decide +kernel
theorem dX6_arrangements_47 : decode cX6_arrangements 47 = .ok (.goto (-20), 3) := by decide +kernel
theorem dX6_arrangements_50 : decode cX6_arrangements 50 = .ok (.iinc 3 1, 3) := by decide +kernel
theorem dX6_arrangements_53 : decode cX6_arrangements 53 = .ok (.goto (-47), 3) := by decide +kernel
theorem dX6_arrangements_56 : decode cX6_arrangements 56 = .ok (.iload_n 1, 1) := by decide +kernel
theorem dX6_arrangements_57 : decode cX6_arrangements 57 = .ok (.ireturn, 1) := by decide +kernel
set_option maxRecDepth 20000 in
theorem ggX6_parkingArrangements_X5_countOfWishes : GoodIn wsX6_parkingArrangements wsX5_countOfWishes := goodIn_r _ [11, 12, 13, 14, 10, 15, 16, 17, 111, 112, 113, 114, 115] (by decide +kernel) (by decide +kernel)
set_option maxRecDepth 20000 in
theorem gX6_parkingArrangements_X5_countOfWishes : GoodIn wsX6_parkingArrangements (wsV RX6 205 RX5 yX5_countOfWishes wsX5_countOfWishes) := goodIn_app (goodIn_of _ (by decide +kernel)) ggX6_parkingArrangements_X5_countOfWishes
set_option maxRecDepth 20000 in
theorem ggX6_parkingArrangements_X6_startCount : GoodIn wsX6_parkingArrangements wsX6_startCount := goodIn_r _ [22, 4, 3, 5, 23, 24, 25, 26, 27, 28, 29, 30, 31, 32, 33, 34, 35, 36, 37, 38, 39, 40, 41, 42, 43, 44, 45, 46, 47, 48, 101, 102, 103, 104, 105, 106, 107, 108, 109, 110, 116, 117, 118, 119, 120, 121, 122, 123, 124, 125, 111, 112, 113, 114, 115, 126, 127] (by decide +kernel) (by decide +kernel)
set_option maxRecDepth 20000 in
theorem gX6_parkingArrangements_X6_startCount : GoodIn wsX6_parkingArrangements (wsV RX6 154 RX6 yX6_startCount wsX6_startCount) := goodIn_app (goodIn_of _ (by decide +kernel)) ggX6_parkingArrangements_X6_startCount
set_option maxRecDepth 20000 in
theorem ggX6_parkingArrangements_X6_countOrders : GoodIn wsX6_parkingArrangements wsX6_countOrders := goodIn_r _ [51, 52, 53, 54, 55, 21, 56, 57, 58, 59, 41, 60, 43, 61, 62, 63, 64, 65, 66, 67, 68, 26, 69, 36, 70, 71, 72, 73, 74, 75, 76, 33, 35, 28, 77, 78, 79, 80, 81, 82, 83, 84, 31, 29, 37, 85, 86, 87, 88, 89, 90, 91, 92, 49, 50, 93, 94, 95, 96, 97, 98, 99, 100, 116, 117, 118, 119, 120, 121, 122, 123, 124, 125, 126, 127] (by decide +kernel) (by decide +kernel)
set_option maxRecDepth 20000 in
theorem gX6_parkingArrangements_X6_countOrders : GoodIn wsX6_parkingArrangements (va_wsS RX6 208 yX6_countOrders wsX6_countOrders) := goodIn_app (goodIn_of _ (by decide +kernel)) ggX6_parkingArrangements_X6_countOrders
theorem dX6_parkingArrangements_0 : decode cX6_parkingArrangements 0 = .ok (.iconst 0, 1) := by decide +kernel
theorem dX6_parkingArrangements_1 : decode cX6_parkingArrangements 1 = .ok (.istore_n 1, 1) := by decide +kernel
theorem dX6_parkingArrangements_2 : decode cX6_parkingArrangements 2 = .ok (.iload_n 1, 1) := by decide +kernel
theorem dX6_parkingArrangements_3 : decode cX6_parkingArrangements 3 = .ok (.aload_n 0, 1) := by decide +kernel
theorem dX6_parkingArrangements_4 : decode cX6_parkingArrangements 4 = .ok (.getfield 18, 3) := by decide +kernel
theorem dX6_parkingArrangements_7 : decode cX6_parkingArrangements 7 = .ok (.if_icmp .ge 23, 3) := by decide +kernel
theorem dX6_parkingArrangements_10 : decode cX6_parkingArrangements 10 = .ok (.aload_n 0, 1) := by decide +kernel
theorem dX6_parkingArrangements_11 : decode cX6_parkingArrangements 11 = .ok (.getfield 66, 3) := by decide +kernel
theorem dX6_parkingArrangements_14 : decode cX6_parkingArrangements 14 = .ok (.iload_n 1, 1) := by decide +kernel
theorem dX6_parkingArrangements_15 : decode cX6_parkingArrangements 15 = .ok (.aload_n 0, 1) := by decide +kernel
theorem dX6_parkingArrangements_16 : decode cX6_parkingArrangements 16 = .ok (.getfield 25, 3) := by decide +kernel
theorem dX6_parkingArrangements_19 : decode cX6_parkingArrangements 19 = .ok (.iload_n 1, 1) := by decide +kernel
theorem dX6_parkingArrangements_20 : decode cX6_parkingArrangements 20 = .ok (.invokevirtual 205, 3) := by decide +kernel
theorem dX6_parkingArrangements_23 : decode cX6_parkingArrangements 23 = .ok (.iastore, 1) := by decide +kernel
theorem dX6_parkingArrangements_24 : decode cX6_parkingArrangements 24 = .ok (.iinc 1 1, 3) := by decide +kernel
theorem dX6_parkingArrangements_27 : decode cX6_parkingArrangements 27 = .ok (.goto (-25), 3) := by decide +kernel
theorem dX6_parkingArrangements_30 : decode cX6_parkingArrangements 30 = .ok (.aload_n 0, 1) := by decide +kernel
theorem dX6_parkingArrangements_31 : decode cX6_parkingArrangements 31 = .ok (.invokevirtual 154, 3) := by decide +kernel
theorem dX6_parkingArrangements_34 : decode cX6_parkingArrangements 34 = .ok (.aload_n 0, 1) := by decide +kernel
theorem dX6_parkingArrangements_35 : decode cX6_parkingArrangements 35 = .ok (.getfield 41, 3) := by decide +kernel
theorem dX6_parkingArrangements_38 : decode cX6_parkingArrangements 38 = .ok (.aload_n 0, 1) := by decide +kernel
theorem dX6_parkingArrangements_39 : decode cX6_parkingArrangements 39 = .ok (.getfield 48, 3) := by decide +kernel
theorem dX6_parkingArrangements_42 : decode cX6_parkingArrangements 42 = .ok (.aload_n 0, 1) := by decide +kernel
theorem dX6_parkingArrangements_43 : decode cX6_parkingArrangements 43 = .ok (.getfield 66, 3) := by decide +kernel
theorem dX6_parkingArrangements_46 : decode cX6_parkingArrangements 46 = .ok (.aload_n 0, 1) := by decide +kernel
theorem dX6_parkingArrangements_47 : decode cX6_parkingArrangements 47 = .ok (.getfield 25, 3) := by decide +kernel
theorem dX6_parkingArrangements_50 : decode cX6_parkingArrangements 50 = .ok (.getfield 106, 3) := by decide +kernel
theorem dX6_parkingArrangements_53 : decode cX6_parkingArrangements 53 = .ok (.invokestatic 208, 3) := by decide +kernel
theorem dX6_parkingArrangements_56 : decode cX6_parkingArrangements 56 = .ok (.ireturn, 1) := by decide +kernel
set_option maxRecDepth 20000 in
theorem ggX6_nextArrangement_X0_keep : GoodIn wsX6_nextArrangement wsX0_keep := goodIn_r _ [9, 10, 11, 12, 13, 14, 8, 15, 16, 17, 18, 19, 20, 21, 22, 23, 24, 25, 26, 27, 28, 29, 52, 53, 47, 48, 49, 50, 51] (by decide +kernel) (by decide +kernel)
set_option maxRecDepth 20000 in
theorem gX6_nextArrangement_X0_keep : GoodIn wsX6_nextArrangement (wsV RX6 85 RX0 yX0_keep wsX0_keep) := goodIn_app (goodIn_of _ (by decide +kernel)) ggX6_nextArrangement_X0_keep
set_option maxRecDepth 20000 in
theorem ggX6_nextArrangement_X6_toNextOrder : GoodIn wsX6_nextArrangement wsX6_toNextOrder := goodIn_r _ [33, 34, 35, 32, 36] (by decide +kernel) (by decide +kernel)
set_option maxRecDepth 20000 in
theorem gX6_nextArrangement_X6_toNextOrder : GoodIn wsX6_nextArrangement (va_wsS RX6 212 yX6_toNextOrder wsX6_toNextOrder) := goodIn_app (goodIn_of _ (by decide +kernel)) ggX6_nextArrangement_X6_toNextOrder
theorem dX6_nextArrangement_0 : decode cX6_nextArrangement 0 = .ok (.aload_n 0, 1) := by decide +kernel
theorem dX6_nextArrangement_1 : decode cX6_nextArrangement 1 = .ok (.getfield 32, 3) := by decide +kernel
theorem dX6_nextArrangement_4 : decode cX6_nextArrangement 4 = .ok (.aload_n 0, 1) := by decide +kernel
theorem dX6_nextArrangement_5 : decode cX6_nextArrangement 5 = .ok (.getfield 25, 3) := by decide +kernel
theorem dX6_nextArrangement_8 : decode cX6_nextArrangement 8 = .ok (.invokevirtual 85, 3) := by decide +kernel
theorem dX6_nextArrangement_11 : decode cX6_nextArrangement 11 = .ok (.aload_n 0, 1) := by decide +kernel
theorem dX6_nextArrangement_12 : decode cX6_nextArrangement 12 = .ok (.getfield 25, 3) := by decide +kernel
theorem dX6_nextArrangement_15 : decode cX6_nextArrangement 15 = .ok (.getfield 112, 3) := by decide +kernel
theorem dX6_nextArrangement_18 : decode cX6_nextArrangement 18 = .ok (.aload_n 0, 1) := by decide +kernel
theorem dX6_nextArrangement_19 : decode cX6_nextArrangement 19 = .ok (.getfield 25, 3) := by decide +kernel
theorem dX6_nextArrangement_22 : decode cX6_nextArrangement 22 = .ok (.getfield 106, 3) := by decide +kernel
theorem dX6_nextArrangement_25 : decode cX6_nextArrangement 25 = .ok (.invokestatic 212, 3) := by decide +kernel
theorem dX6_nextArrangement_28 : decode cX6_nextArrangement 28 = .ok (.ireturn, 1) := by decide +kernel
set_option maxRecDepth 20000 in
theorem ggX6_countOrders_X6_keyOf : GoodIn wsX6_countOrders wsX6_keyOf := goodIn_r _ [6] (by decide +kernel) (by decide +kernel)
set_option maxRecDepth 20000 in
theorem gX6_countOrders_X6_keyOf : GoodIn wsX6_countOrders (va_wsS RX6 216 yX6_keyOf wsX6_keyOf) := goodIn_app (goodIn_of _ (by decide +kernel)) ggX6_countOrders_X6_keyOf
set_option maxRecDepth 20000 in
theorem ggX6_countOrders_X2_find : GoodIn wsX6_countOrders wsX2_find := goodIn_r _ [11, 12, 13, 14, 15, 10, 16, 17, 73, 74] (by decide +kernel) (by decide +kernel)
set_option maxRecDepth 20000 in
theorem gX6_countOrders_X2_find : GoodIn wsX6_countOrders (wsV RX6 175 RX2 yX2_find wsX2_find) := goodIn_app (goodIn_of _ (by decide +kernel)) ggX6_countOrders_X2_find
set_option maxRecDepth 20000 in
theorem ggX6_countOrders_X1_arrive : GoodIn wsX6_countOrders wsX1_arrive := goodIn_r _ [22, 23, 24, 25, 26, 27, 28, 29, 21, 30, 31, 32, 33, 34, 35, 36, 37, 38, 39, 40, 41, 42, 43, 44, 45, 46, 47, 48, 49, 50, 51, 52, 63, 64, 65, 66, 67, 68, 69, 70, 71, 72] (by decide +kernel) (by decide +kernel)
set_option maxRecDepth 20000 in
theorem gX6_countOrders_X1_arrive : GoodIn wsX6_countOrders (wsV RX6 143 RX1 yX1_arrive wsX1_arrive) := goodIn_app (goodIn_of _ (by decide +kernel)) ggX6_countOrders_X1_arrive
set_option maxRecDepth 20000 in
theorem ggX6_countOrders_X6_countOrders : GoodIn wsX6_countOrders wsX6_countOrders := goodIn_r _ [0, 1, 2, 3, 4, 5, 6, 7, 8, 9, 10, 11, 12, 13, 14, 15, 16, 17, 18, 19, 20, 21, 22, 23, 24, 25, 26, 27, 28, 29, 30, 31, 32, 33, 34, 35, 36, 37, 38, 39, 40, 41, 42, 43, 44, 45, 46, 47, 48, 49, 50, 51, 52, 53, 54, 55, 56, 57, 58, 59, 60, 61, 62, 63, 64, 65, 66, 67, 68, 69, 70, 71, 72, 73, 74] (by decide +kernel) (by decide +kernel)
set_option maxRecDepth 20000 in
theorem gX6_countOrders_X6_countOrders : GoodIn wsX6_countOrders (va_wsS RX6 208 yX6_countOrders wsX6_countOrders) := goodIn_app (goodIn_of _ (by decide +kernel)) ggX6_countOrders_X6_countOrders
set_option maxRecDepth 20000 in
theorem ggX6_countOrders_X1_takeBackLast : GoodIn wsX6_countOrders wsX1_takeBackLast := goodIn_r _ [58, 23, 25, 33, 42, 44, 63, 64, 65, 66, 67, 68, 69, 70, 71, 72] (by decide +kernel) (by decide +kernel)
set_option maxRecDepth 20000 in
theorem gX6_countOrders_X1_takeBackLast : GoodIn wsX6_countOrders (wsV RX6 186 RX1 yX1_takeBackLast wsX1_takeBackLast) := goodIn_app (goodIn_of _ (by decide +kernel)) ggX6_countOrders_X1_takeBackLast
set_option maxRecDepth 20000 in
theorem ggX6_countOrders_X2_put : GoodIn wsX6_countOrders wsX2_put := goodIn_r _ [62, 12, 13, 14, 15, 10, 16, 17, 73, 74] (by decide +kernel) (by decide +kernel)
set_option maxRecDepth 20000 in
theorem gX6_countOrders_X2_put : GoodIn wsX6_countOrders (wsV RX6 189 RX2 yX2_put wsX2_put) := goodIn_app (goodIn_of _ (by decide +kernel)) ggX6_countOrders_X2_put
theorem dX6_countOrders_0 : decode cX6_countOrders 0 = .ok (.iload_n 3, 1) := by decide +kernel
theorem dX6_countOrders_1 : decode cX6_countOrders 1 = .ok (.ifCond .gt 5, 3) := by decide +kernel
theorem dX6_countOrders_4 : decode cX6_countOrders 4 = .ok (.iconst 1, 1) := by decide +kernel
theorem dX6_countOrders_5 : decode cX6_countOrders 5 = .ok (.ireturn, 1) := by decide +kernel
theorem dX6_countOrders_6 : decode cX6_countOrders 6 = .ok (.aload_n 2, 1) := by decide +kernel
theorem dX6_countOrders_7 : decode cX6_countOrders 7 = .ok (.invokestatic 216, 3) := by decide +kernel
theorem dX6_countOrders_10 : decode cX6_countOrders 10 = .ok (.bipush 16, 2) := by decide +kernel
theorem dX6_countOrders_12 : decode cX6_countOrders 12 = .ok (.lshl, 1) := by decide +kernel
theorem dX6_countOrders_13 : decode cX6_countOrders 13 = .ok (.aload_n 0, 1) := by decide +kernel
theorem dX6_countOrders_14 : decode cX6_countOrders 14 = .ok (.getfield 172, 3) := by decide +kernel
theorem dX6_countOrders_17 : decode cX6_countOrders 17 = .ok (.i2l, 1) := by decide +kernel
theorem dX6_countOrders_18 : decode cX6_countOrders 18 = .ok (.lor, 1) := by decide +kernel
theorem dX6_countOrders_19 : decode cX6_countOrders 19 = .ok (.lstore 4, 2) := by decide +kernel
theorem dX6_countOrders_21 : decode cX6_countOrders 21 = .ok (.aload_n 1, 1) := by decide +kernel
theorem dX6_countOrders_22 : decode cX6_countOrders 22 = .ok (.lload 4, 2) := by decide +kernel
theorem dX6_countOrders_24 : decode cX6_countOrders 24 = .ok (.invokevirtual 175, 3) := by decide +kernel
theorem dX6_countOrders_27 : decode cX6_countOrders 27 = .ok (.istore 6, 2) := by decide +kernel
theorem dX6_countOrders_29 : decode cX6_countOrders 29 = .ok (.iload 6, 2) := by decide +kernel
theorem dX6_countOrders_31 : decode cX6_countOrders 31 = .ok (.iconst (-1), 1) := by decide +kernel
theorem dX6_countOrders_32 : decode cX6_countOrders 32 = .ok (.if_icmp .eq 6, 3) := by decide +kernel
theorem dX6_countOrders_35 : decode cX6_countOrders 35 = .ok (.iload 6, 2) := by decide +kernel
theorem dX6_countOrders_37 : decode cX6_countOrders 37 = .ok (.ireturn, 1) := by decide +kernel
theorem dX6_countOrders_38 : decode cX6_countOrders 38 = .ok (.iconst 0, 1) := by decide +kernel
theorem dX6_countOrders_39 : decode cX6_countOrders 39 = .ok (.istore 7, 2) := by decide +kernel
theorem dX6_countOrders_41 : decode cX6_countOrders 41 = .ok (.iconst 0, 1) := by decide +kernel
theorem dX6_countOrders_42 : decode cX6_countOrders 42 = .ok (.istore 8, 2) := by decide +kernel
theorem dX6_countOrders_44 : decode cX6_countOrders 44 = .ok (.iload 8, 2) := by decide +kernel
theorem dX6_countOrders_46 : decode cX6_countOrders 46 = .ok (.aload_n 0, 1) := by decide +kernel
theorem dX6_countOrders_47 : decode cX6_countOrders 47 = .ok (.getfield 179, 3) := by decide +kernel
theorem dX6_countOrders_50 : decode cX6_countOrders 50 = .ok (.if_icmp .ge 66, 3) := by decide +kernel
theorem dX6_countOrders_53 : decode cX6_countOrders 53 = .ok (.iload 8, 2) := by decide +kernel
theorem dX6_countOrders_55 : decode cX6_countOrders 55 = .ok (.aload_n 2, 1) := by decide +kernel
theorem dX6_countOrders_56 : decode cX6_countOrders 56 = .ok (.arraylength, 1) := by decide +kernel
theorem dX6_countOrders_57 : decode cX6_countOrders 57 = .ok (.if_icmp .ge 59, 3) := by decide +kernel
theorem dX6_countOrders_60 : decode cX6_countOrders 60 = .ok (.aload_n 2, 1) := by decide +kernel
theorem dX6_countOrders_61 : decode cX6_countOrders 61 = .ok (.iload 8, 2) := by decide +kernel
theorem dX6_countOrders_63 : decode cX6_countOrders 63 = .ok (.iaload, 1) := by decide +kernel
theorem dX6_countOrders_64 : decode cX6_countOrders 64 = .ok (.ifCond .le 46, 3) := by decide +kernel
theorem dX6_countOrders_67 : decode cX6_countOrders 67 = .ok (.aload_n 2, 1) := by decide +kernel
theorem dX6_countOrders_68 : decode cX6_countOrders 68 = .ok (.iload 8, 2) := by decide +kernel
theorem dX6_countOrders_70 : decode cX6_countOrders 70 = .ok (.dup2, 1) := by decide +kernel
theorem dX6_countOrders_71 : decode cX6_countOrders 71 = .ok (.iaload, 1) := by decide +kernel
theorem dX6_countOrders_72 : decode cX6_countOrders 72 = .ok (.iconst 1, 1) := by decide +kernel
theorem dX6_countOrders_73 : decode cX6_countOrders 73 = .ok (.isub, 1) := by decide +kernel
theorem dX6_countOrders_74 : decode cX6_countOrders 74 = .ok (.iastore, 1) := by decide +kernel
theorem dX6_countOrders_75 : decode cX6_countOrders 75 = .ok (.aload_n 0, 1) := by decide +kernel
theorem dX6_countOrders_76 : decode cX6_countOrders 76 = .ok (.iload 8, 2) := by decide +kernel
theorem dX6_countOrders_78 : decode cX6_countOrders 78 = .ok (.invokevirtual 143, 3) := by decide +kernel
theorem dX6_countOrders_81 : decode cX6_countOrders 81 = .ok (.ifCond .eq 17, 3) := by decide +kernel
theorem dX6_countOrders_84 : decode cX6_countOrders 84 = .ok (.iload 7, 2) := by decide +kernel
theorem dX6_countOrders_86 : decode cX6_countOrders 86 = .ok (.aload_n 0, 1) := by decide +kernel
theorem dX6_countOrders_87 : decode cX6_countOrders 87 = .ok (.aload_n 1, 1) := by decide +kernel
theorem dX6_countOrders_88 : decode cX6_countOrders 88 = .ok (.aload_n 2, 1) := by decide +kernel
theorem dX6_countOrders_89 : decode cX6_countOrders 89 = .ok (.iload_n 3, 1) := by decide +kernel
theorem dX6_countOrders_90 : decode cX6_countOrders 90 = .ok (.iconst 1, 1) := by decide +kernel
theorem dX6_countOrders_91 : decode cX6_countOrders 91 = .ok (.isub, 1) := by decide +kernel
theorem dX6_countOrders_92 : decode cX6_countOrders 92 = .ok (.invokestatic 208, 3) := by decide +kernel
theorem dX6_countOrders_95 : decode cX6_countOrders 95 = .ok (.iadd, 1) := by decide +kernel
theorem dX6_countOrders_96 : decode cX6_countOrders 96 = .ok (.istore 7, 2) := by decide +kernel
theorem dX6_countOrders_98 : decode cX6_countOrders 98 = .ok (.aload_n 0, 1) := by decide +kernel
theorem dX6_countOrders_99 : decode cX6_countOrders 99 = .ok (.invokevirtual 186, 3) := by decide +kernel
theorem dX6_countOrders_102 : decode cX6_countOrders 102 = .ok (.aload_n 2, 1) := by decide +kernel
theorem dX6_countOrders_103 : decode cX6_countOrders 103 = .ok (.iload 8, 2) := by decide +kernel
theorem dX6_countOrders_105 : decode cX6_countOrders 105 = .ok (.dup2, 1) := by decide +kernel
theorem dX6_countOrders_106 : decode cX6_countOrders 106 = .ok (.iaload, 1) := by decide +kernel
theorem dX6_countOrders_107 : decode cX6_countOrders 107 = .ok (.iconst 1, 1) := by decide +kernel
theorem dX6_countOrders_108 : decode cX6_countOrders 108 = .ok (.iadd, 1) := by decide +kernel
theorem dX6_countOrders_109 : decode cX6_countOrders 109 = .ok (.iastore, 1) := by decide +kernel
theorem dX6_countOrders_110 : decode cX6_countOrders 110 = .ok (.iinc 8 1, 3) := by decide +kernel
theorem dX6_countOrders_113 : decode cX6_countOrders 113 = .ok (.goto (-69), 3) := by decide +kernel
theorem dX6_countOrders_116 : decode cX6_countOrders 116 = .ok (.aload_n 1, 1) := by decide +kernel
theorem dX6_countOrders_117 : decode cX6_countOrders 117 = .ok (.lload 4, 2) := by decide +kernel
theorem dX6_countOrders_119 : decode cX6_countOrders 119 = .ok (.iload 7, 2) := by decide +kernel
theorem dX6_countOrders_121 : decode cX6_countOrders 121 = .ok (.invokevirtual 189, 3) := by decide +kernel
theorem dX6_countOrders_124 : decode cX6_countOrders 124 = .ok (.iload 7, 2) := by decide +kernel
theorem dX6_countOrders_126 : decode cX6_countOrders 126 = .ok (.ireturn, 1) := by decide +kernel
theorem dX6_keyOf_0 : decode cX6_keyOf 0 = .ok (.lconst 0, 1) := by decide +kernel
theorem dX6_keyOf_1 : decode cX6_keyOf 1 = .ok (.lstore_n 1, 1) := by decide +kernel
theorem dX6_keyOf_2 : decode cX6_keyOf 2 = .ok (.aload_n 0, 1) := by decide +kernel
theorem dX6_keyOf_3 : decode cX6_keyOf 3 = .ok (.astore_n 3, 1) := by decide +kernel
theorem dX6_keyOf_4 : decode cX6_keyOf 4 = .ok (.aload_n 3, 1) := by decide +kernel
theorem dX6_keyOf_5 : decode cX6_keyOf 5 = .ok (.arraylength, 1) := by decide +kernel
theorem dX6_keyOf_6 : decode cX6_keyOf 6 = .ok (.istore 4, 2) := by decide +kernel
theorem dX6_keyOf_8 : decode cX6_keyOf 8 = .ok (.iconst 0, 1) := by decide +kernel
theorem dX6_keyOf_9 : decode cX6_keyOf 9 = .ok (.istore 5, 2) := by decide +kernel
theorem dX6_keyOf_11 : decode cX6_keyOf 11 = .ok (.iload 5, 2) := by decide +kernel
theorem dX6_keyOf_13 : decode cX6_keyOf 13 = .ok (.iload 4, 2) := by decide +kernel
theorem dX6_keyOf_15 : decode cX6_keyOf 15 = .ok (.if_icmp .ge 23, 3) := by decide +kernel
theorem dX6_keyOf_18 : decode cX6_keyOf 18 = .ok (.aload_n 3, 1) := by decide +kernel
theorem dX6_keyOf_19 : decode cX6_keyOf 19 = .ok (.iload 5, 2) := by decide +kernel
theorem dX6_keyOf_21 : decode cX6_keyOf 21 = .ok (.iaload, 1) := by decide +kernel
theorem dX6_keyOf_22 : decode cX6_keyOf 22 = .ok (.istore 6, 2) := by decide +kernel
theorem dX6_keyOf_24 : decode cX6_keyOf 24 = .ok (.lload_n 1, 1) := by decide +kernel
theorem dX6_keyOf_25 : decode cX6_keyOf 25 = .ok (.iconst 4, 1) := by decide +kernel
theorem dX6_keyOf_26 : decode cX6_keyOf 26 = .ok (.lshl, 1) := by decide +kernel
theorem dX6_keyOf_27 : decode cX6_keyOf 27 = .ok (.iload 6, 2) := by decide +kernel
theorem dX6_keyOf_29 : decode cX6_keyOf 29 = .ok (.i2l, 1) := by decide +kernel
theorem dX6_keyOf_30 : decode cX6_keyOf 30 = .ok (.lor, 1) := by decide +kernel
theorem dX6_keyOf_31 : decode cX6_keyOf 31 = .ok (.lstore_n 1, 1) := by decide +kernel
theorem dX6_keyOf_32 : decode cX6_keyOf 32 = .ok (.iinc 5 1, 3) := by decide +kernel
theorem dX6_keyOf_35 : decode cX6_keyOf 35 = .ok (.goto (-24), 3) := by decide +kernel
theorem dX6_keyOf_38 : decode cX6_keyOf 38 = .ok (.lload_n 1, 1) := by decide +kernel
theorem dX6_keyOf_39 : decode cX6_keyOf 39 = .ok (.lreturn, 1) := by decide +kernel
set_option maxRecDepth 20000 in
theorem ggX6_toNextOrder_X6_swap : GoodIn wsX6_toNextOrder wsX6_swap := goodIn_r _ [4] (by decide +kernel) (by decide +kernel)
set_option maxRecDepth 20000 in
theorem gX6_toNextOrder_X6_swap : GoodIn wsX6_toNextOrder (va_wsS RX6 220 yX6_swap wsX6_swap) := goodIn_app (goodIn_of _ (by decide +kernel)) ggX6_toNextOrder_X6_swap
theorem dX6_toNextOrder_0 : decode cX6_toNextOrder 0 = .ok (.iload_n 1, 1) := by decide +kernel
theorem dX6_toNextOrder_1 : decode cX6_toNextOrder 1 = .ok (.iconst 2, 1) := by decide +kernel
theorem dX6_toNextOrder_2 : decode cX6_toNextOrder 2 = .ok (.isub, 1) := by decide +kernel
theorem dX6_toNextOrder_3 : decode cX6_toNextOrder 3 = .ok (.istore_n 2, 1) := by decide +kernel
theorem dX6_toNextOrder_4 : decode cX6_toNextOrder 4 = .ok (.iload_n 2, 1) := by decide +kernel
theorem dX6_toNextOrder_5 : decode cX6_toNextOrder 5 = .ok (.ifCond .lt 20, 3) := by decide +kernel
theorem dX6_toNextOrder_8 : decode cX6_toNextOrder 8 = .ok (.aload_n 0, 1) := by decide +kernel
theorem dX6_toNextOrder_9 : decode cX6_toNextOrder 9 = .ok (.iload_n 2, 1) := by decide +kernel
theorem dX6_toNextOrder_10 : decode cX6_toNextOrder 10 = .ok (.iaload, 1) := by decide +kernel
theorem dX6_toNextOrder_11 : decode cX6_toNextOrder 11 = .ok (.aload_n 0, 1) := by decide +kernel
theorem dX6_toNextOrder_12 : decode cX6_toNextOrder 12 = .ok (.iload_n 2, 1) := by decide +kernel
theorem dX6_toNextOrder_13 : decode cX6_toNextOrder 13 = .ok (.iconst 1, 1) := by decide +kernel
theorem dX6_toNextOrder_14 : decode cX6_toNextOrder 14 = .ok (.iadd, 1) := by decide +kernel
theorem dX6_toNextOrder_15 : decode cX6_toNextOrder 15 = .ok (.iaload, 1) := by decide +kernel
theorem dX6_toNextOrder_16 : decode cX6_toNextOrder 16 = .ok (.if_icmp .lt 9, 3) := by decide +kernel
theorem dX6_toNextOrder_19 : decode cX6_toNextOrder 19 = .ok (.iinc 2 (-1), 3) := by decide +kernel
theorem dX6_toNextOrder_22 : decode cX6_toNextOrder 22 = .ok (.goto (-18), 3) := by decide +kernel
theorem dX6_toNextOrder_25 : decode cX6_toNextOrder 25 = .ok (.iload_n 2, 1) := by decide +kernel
theorem dX6_toNextOrder_26 : decode cX6_toNextOrder 26 = .ok (.ifCond .lt 33, 3) := by decide +kernel
theorem dX6_toNextOrder_29 : decode cX6_toNextOrder 29 = .ok (.iload_n 1, 1) := by decide +kernel
theorem dX6_toNextOrder_30 : decode cX6_toNextOrder 30 = .ok (.iconst 1, 1) := by decide +kernel
theorem dX6_toNextOrder_31 : decode cX6_toNextOrder 31 = .ok (.isub, 1) := by decide +kernel
theorem dX6_toNextOrder_32 : decode cX6_toNextOrder 32 = .ok (.istore_n 3, 1) := by decide +kernel
theorem dX6_toNextOrder_33 : decode cX6_toNextOrder 33 = .ok (.iload_n 3, 1) := by decide +kernel
theorem dX6_toNextOrder_34 : decode cX6_toNextOrder 34 = .ok (.iload_n 2, 1) := by decide +kernel
theorem dX6_toNextOrder_35 : decode cX6_toNextOrder 35 = .ok (.if_icmp .le 18, 3) := by decide +kernel
theorem dX6_toNextOrder_38 : decode cX6_toNextOrder 38 = .ok (.aload_n 0, 1) := by decide +kernel
theorem dX6_toNextOrder_39 : decode cX6_toNextOrder 39 = .ok (.iload_n 3, 1) := by decide +kernel
theorem dX6_toNextOrder_40 : decode cX6_toNextOrder 40 = .ok (.iaload, 1) := by decide +kernel
theorem dX6_toNextOrder_41 : decode cX6_toNextOrder 41 = .ok (.aload_n 0, 1) := by decide +kernel
theorem dX6_toNextOrder_42 : decode cX6_toNextOrder 42 = .ok (.iload_n 2, 1) := by decide +kernel
theorem dX6_toNextOrder_43 : decode cX6_toNextOrder 43 = .ok (.iaload, 1) := by decide +kernel
theorem dX6_toNextOrder_44 : decode cX6_toNextOrder 44 = .ok (.if_icmp .gt 9, 3) := by decide +kernel
theorem dX6_toNextOrder_47 : decode cX6_toNextOrder 47 = .ok (.iinc 3 (-1), 3) := by decide +kernel
theorem dX6_toNextOrder_50 : decode cX6_toNextOrder 50 = .ok (.goto (-17), 3) := by decide +kernel
theorem dX6_toNextOrder_53 : decode cX6_toNextOrder 53 = .ok (.aload_n 0, 1) := by decide +kernel
theorem dX6_toNextOrder_54 : decode cX6_toNextOrder 54 = .ok (.iload_n 2, 1) := by decide +kernel
theorem dX6_toNextOrder_55 : decode cX6_toNextOrder 55 = .ok (.iload_n 3, 1) := by decide +kernel
theorem dX6_toNextOrder_56 : decode cX6_toNextOrder 56 = .ok (.invokestatic 220, 3) := by decide +kernel
theorem dX6_toNextOrder_59 : decode cX6_toNextOrder 59 = .ok (.iload_n 2, 1) := by decide +kernel
theorem dX6_toNextOrder_60 : decode cX6_toNextOrder 60 = .ok (.iconst 1, 1) := by decide +kernel
theorem dX6_toNextOrder_61 : decode cX6_toNextOrder 61 = .ok (.iadd, 1) := by decide +kernel
theorem dX6_toNextOrder_62 : decode cX6_toNextOrder 62 = .ok (.istore_n 3, 1) := by decide +kernel
theorem dX6_toNextOrder_63 : decode cX6_toNextOrder 63 = .ok (.iload_n 1, 1) := by decide +kernel
theorem dX6_toNextOrder_64 : decode cX6_toNextOrder 64 = .ok (.iconst 1, 1) := by decide +kernel
theorem dX6_toNextOrder_65 : decode cX6_toNextOrder 65 = .ok (.isub, 1) := by decide +kernel
theorem dX6_toNextOrder_66 : decode cX6_toNextOrder 66 = .ok (.istore 4, 2) := by decide +kernel
theorem dX6_toNextOrder_68 : decode cX6_toNextOrder 68 = .ok (.iload_n 3, 1) := by decide +kernel
theorem dX6_toNextOrder_69 : decode cX6_toNextOrder 69 = .ok (.iload 4, 2) := by decide +kernel
theorem dX6_toNextOrder_71 : decode cX6_toNextOrder 71 = .ok (.if_icmp .ge 19, 3) := by decide +kernel
theorem dX6_toNextOrder_74 : decode cX6_toNextOrder 74 = .ok (.aload_n 0, 1) := by decide +kernel
theorem dX6_toNextOrder_75 : decode cX6_toNextOrder 75 = .ok (.iload_n 3, 1) := by decide +kernel
theorem dX6_toNextOrder_76 : decode cX6_toNextOrder 76 = .ok (.iload 4, 2) := by decide +kernel
theorem dX6_toNextOrder_78 : decode cX6_toNextOrder 78 = .ok (.invokestatic 220, 3) := by decide +kernel
theorem dX6_toNextOrder_81 : decode cX6_toNextOrder 81 = .ok (.iinc 3 1, 3) := by decide +kernel
theorem dX6_toNextOrder_84 : decode cX6_toNextOrder 84 = .ok (.iinc 4 (-1), 3) := by decide +kernel
theorem dX6_toNextOrder_87 : decode cX6_toNextOrder 87 = .ok (.goto (-19), 3) := by decide +kernel
theorem dX6_toNextOrder_90 : decode cX6_toNextOrder 90 = .ok (.iload_n 2, 1) := by decide +kernel
theorem dX6_toNextOrder_91 : decode cX6_toNextOrder 91 = .ok (.ifCond .lt 7, 3) := by decide +kernel
theorem dX6_toNextOrder_94 : decode cX6_toNextOrder 94 = .ok (.iconst 1, 1) := by decide +kernel
theorem dX6_toNextOrder_95 : decode cX6_toNextOrder 95 = .ok (.goto 4, 3) := by decide +kernel
theorem dX6_toNextOrder_98 : decode cX6_toNextOrder 98 = .ok (.iconst 0, 1) := by decide +kernel
theorem dX6_toNextOrder_99 : decode cX6_toNextOrder 99 = .ok (.ireturn, 1) := by decide +kernel
theorem dX6_swap_0 : decode cX6_swap 0 = .ok (.aload_n 0, 1) := by decide +kernel
theorem dX6_swap_1 : decode cX6_swap 1 = .ok (.iload_n 1, 1) := by decide +kernel
theorem dX6_swap_2 : decode cX6_swap 2 = .ok (.iaload, 1) := by decide +kernel
theorem dX6_swap_3 : decode cX6_swap 3 = .ok (.istore_n 3, 1) := by decide +kernel
theorem dX6_swap_4 : decode cX6_swap 4 = .ok (.aload_n 0, 1) := by decide +kernel
theorem dX6_swap_5 : decode cX6_swap 5 = .ok (.iload_n 1, 1) := by decide +kernel
theorem dX6_swap_6 : decode cX6_swap 6 = .ok (.aload_n 0, 1) := by decide +kernel
theorem dX6_swap_7 : decode cX6_swap 7 = .ok (.iload_n 2, 1) := by decide +kernel
theorem dX6_swap_8 : decode cX6_swap 8 = .ok (.iaload, 1) := by decide +kernel
theorem dX6_swap_9 : decode cX6_swap 9 = .ok (.iastore, 1) := by decide +kernel
theorem dX6_swap_10 : decode cX6_swap 10 = .ok (.aload_n 0, 1) := by decide +kernel
theorem dX6_swap_11 : decode cX6_swap 11 = .ok (.iload_n 2, 1) := by decide +kernel
theorem dX6_swap_12 : decode cX6_swap 12 = .ok (.iload_n 3, 1) := by decide +kernel
theorem dX6_swap_13 : decode cX6_swap 13 = .ok (.iastore, 1) := by decide +kernel
theorem dX6_swap_14 : decode cX6_swap 14 = .ok (.return_, 1) := by decide +kernel
set_option maxRecDepth 20000 in
theorem ggX6_isStandard_X5_isStandardFor : GoodIn wsX6_isStandard wsX5_isStandardFor := goodIn_r _ [7, 8, 9, 10, 11, 6, 12, 13, 24, 25, 26, 27, 28] (by decide +kernel) (by decide +kernel)
set_option maxRecDepth 20000 in
theorem gX6_isStandard_X5_isStandardFor : GoodIn wsX6_isStandard (wsV RX6 224 RX5 yX5_isStandardFor wsX5_isStandardFor) := goodIn_app (goodIn_of _ (by decide +kernel)) ggX6_isStandard_X5_isStandardFor
theorem dX6_isStandard_0 : decode cX6_isStandard 0 = .ok (.aload_n 0, 1) := by decide +kernel
theorem dX6_isStandard_1 : decode cX6_isStandard 1 = .ok (.getfield 25, 3) := by decide +kernel
theorem dX6_isStandard_4 : decode cX6_isStandard 4 = .ok (.aload_n 0, 1) := by decide +kernel
theorem dX6_isStandard_5 : decode cX6_isStandard 5 = .ok (.getfield 18, 3) := by decide +kernel
theorem dX6_isStandard_8 : decode cX6_isStandard 8 = .ok (.invokevirtual 224, 3) := by decide +kernel
theorem dX6_isStandard_11 : decode cX6_isStandard 11 = .ok (.ireturn, 1) := by decide +kernel
set_option maxRecDepth 20000 in
theorem ggX6_shift_X6_requireState : GoodIn wsX6_shift wsX6_requireState := goodIn_ca (goodIn_r _ [9, 10, 11] (by decide +kernel) (by decide +kernel)) (goodIn_sub (fun _ h => List.mem_cons_of_mem _ (List.mem_append_right _ h)) (by decide +kernel))
set_option maxRecDepth 20000 in
theorem gX6_shift_X6_requireState : GoodIn wsX6_shift (va_wsS RX6 109 yX6_requireState wsX6_requireState) := goodIn_app (goodIn_of _ (by decide +kernel)) ggX6_shift_X6_requireState
set_option maxRecDepth 20000 in
theorem ggX6_shift_X6_gapOnCircle : GoodIn wsX6_shift wsX6_gapOnCircle := goodIn_r _ [15, 1, 2, 5, 16, 17, 18, 8, 19, 3, 49, 50, 51, 52, 53, 54, 55, 56, 57, 58, 59, 60, 61, 62, 63] (by decide +kernel) (by decide +kernel)
set_option maxRecDepth 20000 in
theorem gX6_shift_X6_gapOnCircle : GoodIn wsX6_shift (wsV RX6 230 RX6 yX6_gapOnCircle wsX6_gapOnCircle) := goodIn_app (goodIn_of _ (by decide +kernel)) ggX6_shift_X6_gapOnCircle
set_option maxRecDepth 20000 in
theorem ggX6_shift_X0_keep : GoodIn wsX6_shift wsX0_keep := goodIn_r _ [24, 25, 26, 27, 28, 29, 23, 30, 31, 32, 33, 34, 35, 36, 37, 38, 39, 40, 41, 42, 43, 44, 64, 65, 59, 60, 61, 62, 63] (by decide +kernel) (by decide +kernel)
set_option maxRecDepth 20000 in
theorem gX6_shift_X0_keep : GoodIn wsX6_shift (wsV RX6 85 RX0 yX0_keep wsX0_keep) := goodIn_app (goodIn_of _ (by decide +kernel)) ggX6_shift_X0_keep
set_option maxRecDepth 20000 in
theorem ggX6_shift_J9_floorMod_7cf53 : GoodIn wsX6_shift wsJ9_floorMod_7cf53 := goodIn_r _ [48] (by decide +kernel) (by decide +kernel)
set_option maxRecDepth 20000 in
theorem gX6_shift_J9_floorMod_7cf53 : GoodIn wsX6_shift (va_wsS RX6 233 yJ9_floorMod_7cf53 wsJ9_floorMod_7cf53) := goodIn_app (goodIn_of _ (by decide +kernel)) ggX6_shift_J9_floorMod_7cf53
theorem dX6_shift_0 : decode cX6_shift 0 = .ok (.aload_n 0, 1) := by decide +kernel
theorem dX6_shift_1 : decode cX6_shift 1 = .ok (.getfield 25, 3) := by decide +kernel
theorem dX6_shift_4 : decode cX6_shift 4 = .ok (.getfield 106, 3) := by decide +kernel
theorem dX6_shift_7 : decode cX6_shift 7 = .ok (.aload_n 0, 1) := by decide +kernel
theorem dX6_shift_8 : decode cX6_shift 8 = .ok (.getfield 18, 3) := by decide +kernel
theorem dX6_shift_11 : decode cX6_shift 11 = .ok (.if_icmp .ne 7, 3) := by decide +kernel
theorem dX6_shift_14 : decode cX6_shift 14 = .ok (.iconst 1, 1) := by decide +kernel
theorem dX6_shift_15 : decode cX6_shift 15 = .ok (.goto 4, 3) := by decide +kernel
theorem dX6_shift_18 : decode cX6_shift 18 = .ok (.iconst 0, 1) := by decide +kernel
theorem dX6_shift_19 : decode cX6_shift 19 = .ok (.invokestatic 109, 3) := by decide +kernel
theorem dX6_shift_22 : decode cX6_shift 22 = .ok (.aload_n 0, 1) := by decide +kernel
theorem dX6_shift_23 : decode cX6_shift 23 = .ok (.invokevirtual 230, 3) := by decide +kernel
theorem dX6_shift_26 : decode cX6_shift 26 = .ok (.istore_n 1, 1) := by decide +kernel
theorem dX6_shift_27 : decode cX6_shift 27 = .ok (.aload_n 0, 1) := by decide +kernel
theorem dX6_shift_28 : decode cX6_shift 28 = .ok (.getfield 32, 3) := by decide +kernel
theorem dX6_shift_31 : decode cX6_shift 31 = .ok (.aload_n 0, 1) := by decide +kernel
theorem dX6_shift_32 : decode cX6_shift 32 = .ok (.getfield 25, 3) := by decide +kernel
theorem dX6_shift_35 : decode cX6_shift 35 = .ok (.invokevirtual 85, 3) := by decide +kernel
theorem dX6_shift_38 : decode cX6_shift 38 = .ok (.iconst 0, 1) := by decide +kernel
theorem dX6_shift_39 : decode cX6_shift 39 = .ok (.istore_n 2, 1) := by decide +kernel
theorem dX6_shift_40 : decode cX6_shift 40 = .ok (.iload_n 2, 1) := by decide +kernel
theorem dX6_shift_41 : decode cX6_shift 41 = .ok (.aload_n 0, 1) := by decide +kernel
theorem dX6_shift_42 : decode cX6_shift 42 = .ok (.getfield 18, 3) := by decide +kernel
theorem dX6_shift_45 : decode cX6_shift 45 = .ok (.if_icmp .ge 40, 3) := by decide +kernel
theorem dX6_shift_48 : decode cX6_shift 48 = .ok (.aload_n 0, 1) := by decide +kernel
theorem dX6_shift_49 : decode cX6_shift 49 = .ok (.getfield 25, 3) := by decide +kernel
theorem dX6_shift_52 : decode cX6_shift 52 = .ok (.getfield 112, 3) := by decide +kernel
theorem dX6_shift_55 : decode cX6_shift 55 = .ok (.iload_n 2, 1) := by decide +kernel
theorem dX6_shift_56 : decode cX6_shift 56 = .ok (.aload_n 0, 1) := by decide +kernel
theorem dX6_shift_57 : decode cX6_shift 57 = .ok (.getfield 25, 3) := by decide +kernel
theorem dX6_shift_60 : decode cX6_shift 60 = .ok (.getfield 112, 3) := by decide +kernel
theorem dX6_shift_63 : decode cX6_shift 63 = .ok (.iload_n 2, 1) := by decide +kernel
theorem dX6_shift_64 : decode cX6_shift 64 = .ok (.iaload, 1) := by decide +kernel
theorem dX6_shift_65 : decode cX6_shift 65 = .ok (.iload_n 1, 1) := by decide +kernel
theorem dX6_shift_66 : decode cX6_shift 66 = .ok (.isub, 1) := by decide +kernel
theorem dX6_shift_67 : decode cX6_shift 67 = .ok (.iconst 1, 1) := by decide +kernel
theorem dX6_shift_68 : decode cX6_shift 68 = .ok (.isub, 1) := by decide +kernel
theorem dX6_shift_69 : decode cX6_shift 69 = .ok (.aload_n 0, 1) := by decide +kernel
theorem dX6_shift_70 : decode cX6_shift 70 = .ok (.getfield 18, 3) := by decide +kernel
theorem dX6_shift_73 : decode cX6_shift 73 = .ok (.iconst 1, 1) := by decide +kernel
theorem dX6_shift_74 : decode cX6_shift 74 = .ok (.iadd, 1) := by decide +kernel
theorem dX6_shift_75 : decode cX6_shift 75 = .ok (.invokestatic 233, 3) := by decide +kernel
theorem dX6_shift_78 : decode cX6_shift 78 = .ok (.iastore, 1) := by decide +kernel
theorem dX6_shift_79 : decode cX6_shift 79 = .ok (.iinc 2 1, 3) := by decide +kernel
theorem dX6_shift_82 : decode cX6_shift 82 = .ok (.goto (-42), 3) := by decide +kernel
theorem dX6_shift_85 : decode cX6_shift 85 = .ok (.iload_n 1, 1) := by decide +kernel
theorem dX6_shift_86 : decode cX6_shift 86 = .ok (.ireturn, 1) := by decide +kernel
set_option maxRecDepth 20000 in
theorem ggX6_gapOnCircle_X6_firstFreeOnCircle : GoodIn wsX6_gapOnCircle wsX6_firstFreeOnCircle := goodIn_r _ [8, 9, 10, 11, 12, 13, 14, 15, 16, 17, 18, 19] (by decide +kernel) (by decide +kernel)
set_option maxRecDepth 20000 in
theorem gX6_gapOnCircle_X6_firstFreeOnCircle : GoodIn wsX6_gapOnCircle (wsV RX6 236 RX6 yX6_firstFreeOnCircle wsX6_firstFreeOnCircle) := goodIn_app (goodIn_of _ (by decide +kernel)) ggX6_gapOnCircle_X6_firstFreeOnCircle
theorem dX6_gapOnCircle_0 : decode cX6_gapOnCircle 0 = .ok (.iconst 0, 1) := by decide +kernel
theorem dX6_gapOnCircle_1 : decode cX6_gapOnCircle 1 = .ok (.istore_n 1, 1) := by decide +kernel
theorem dX6_gapOnCircle_2 : decode cX6_gapOnCircle 2 = .ok (.iconst 0, 1) := by decide +kernel
theorem dX6_gapOnCircle_3 : decode cX6_gapOnCircle 3 = .ok (.istore_n 2, 1) := by decide +kernel
theorem dX6_gapOnCircle_4 : decode cX6_gapOnCircle 4 = .ok (.iload_n 2, 1) := by decide +kernel
theorem dX6_gapOnCircle_5 : decode cX6_gapOnCircle 5 = .ok (.aload_n 0, 1) := by decide +kernel
theorem dX6_gapOnCircle_6 : decode cX6_gapOnCircle 6 = .ok (.getfield 25, 3) := by decide +kernel
theorem dX6_gapOnCircle_9 : decode cX6_gapOnCircle 9 = .ok (.getfield 106, 3) := by decide +kernel
theorem dX6_gapOnCircle_12 : decode cX6_gapOnCircle 12 = .ok (.if_icmp .ge 28, 3) := by decide +kernel
theorem dX6_gapOnCircle_15 : decode cX6_gapOnCircle 15 = .ok (.iload_n 1, 1) := by decide +kernel
theorem dX6_gapOnCircle_16 : decode cX6_gapOnCircle 16 = .ok (.iconst 1, 1) := by decide +kernel
theorem dX6_gapOnCircle_17 : decode cX6_gapOnCircle 17 = .ok (.aload_n 0, 1) := by decide +kernel
theorem dX6_gapOnCircle_18 : decode cX6_gapOnCircle 18 = .ok (.iload_n 1, 1) := by decide +kernel
theorem dX6_gapOnCircle_19 : decode cX6_gapOnCircle 19 = .ok (.aload_n 0, 1) := by decide +kernel
theorem dX6_gapOnCircle_20 : decode cX6_gapOnCircle 20 = .ok (.getfield 25, 3) := by decide +kernel
theorem dX6_gapOnCircle_23 : decode cX6_gapOnCircle 23 = .ok (.getfield 112, 3) := by decide +kernel
theorem dX6_gapOnCircle_26 : decode cX6_gapOnCircle 26 = .ok (.iload_n 2, 1) := by decide +kernel
theorem dX6_gapOnCircle_27 : decode cX6_gapOnCircle 27 = .ok (.iaload, 1) := by decide +kernel
theorem dX6_gapOnCircle_28 : decode cX6_gapOnCircle 28 = .ok (.invokevirtual 236, 3) := by decide +kernel
theorem dX6_gapOnCircle_31 : decode cX6_gapOnCircle 31 = .ok (.ishl, 1) := by decide +kernel
theorem dX6_gapOnCircle_32 : decode cX6_gapOnCircle 32 = .ok (.ior, 1) := by decide +kernel
theorem dX6_gapOnCircle_33 : decode cX6_gapOnCircle 33 = .ok (.istore_n 1, 1) := by decide +kernel
theorem dX6_gapOnCircle_34 : decode cX6_gapOnCircle 34 = .ok (.iinc 2 1, 3) := by decide +kernel
theorem dX6_gapOnCircle_37 : decode cX6_gapOnCircle 37 = .ok (.goto (-33), 3) := by decide +kernel
theorem dX6_gapOnCircle_40 : decode cX6_gapOnCircle 40 = .ok (.aload_n 0, 1) := by decide +kernel
theorem dX6_gapOnCircle_41 : decode cX6_gapOnCircle 41 = .ok (.iload_n 1, 1) := by decide +kernel
theorem dX6_gapOnCircle_42 : decode cX6_gapOnCircle 42 = .ok (.iconst 0, 1) := by decide +kernel
theorem dX6_gapOnCircle_43 : decode cX6_gapOnCircle 43 = .ok (.invokevirtual 236, 3) := by decide +kernel
theorem dX6_gapOnCircle_46 : decode cX6_gapOnCircle 46 = .ok (.ireturn, 1) := by decide +kernel
theorem dX6_firstFreeOnCircle_0 : decode cX6_firstFreeOnCircle 0 = .ok (.iload_n 2, 1) := by decide +kernel
theorem dX6_firstFreeOnCircle_1 : decode cX6_firstFreeOnCircle 1 = .ok (.istore_n 3, 1) := by decide +kernel
theorem dX6_firstFreeOnCircle_2 : decode cX6_firstFreeOnCircle 2 = .ok (.iconst 0, 1) := by decide +kernel
theorem dX6_firstFreeOnCircle_3 : decode cX6_firstFreeOnCircle 3 = .ok (.istore 4, 2) := by decide +kernel
theorem dX6_firstFreeOnCircle_5 : decode cX6_firstFreeOnCircle 5 = .ok (.iload 4, 2) := by decide +kernel
theorem dX6_firstFreeOnCircle_7 : decode cX6_firstFreeOnCircle 7 = .ok (.aload_n 0, 1) := by decide +kernel
theorem dX6_firstFreeOnCircle_8 : decode cX6_firstFreeOnCircle 8 = .ok (.getfield 18, 3) := by decide +kernel
theorem dX6_firstFreeOnCircle_11 : decode cX6_firstFreeOnCircle 11 = .ok (.if_icmp .ge 33, 3) := by decide +kernel
theorem dX6_firstFreeOnCircle_14 : decode cX6_firstFreeOnCircle 14 = .ok (.iload_n 1, 1) := by decide +kernel
theorem dX6_firstFreeOnCircle_15 : decode cX6_firstFreeOnCircle 15 = .ok (.iload_n 3, 1) := by decide +kernel
theorem dX6_firstFreeOnCircle_16 : decode cX6_firstFreeOnCircle 16 = .ok (.ishr, 1) := by decide +kernel
theorem dX6_firstFreeOnCircle_17 : decode cX6_firstFreeOnCircle 17 = .ok (.iconst 1, 1) := by decide +kernel
theorem dX6_firstFreeOnCircle_18 : decode cX6_firstFreeOnCircle 18 = .ok (.iand, 1) := by decide +kernel
theorem dX6_firstFreeOnCircle_19 : decode cX6_firstFreeOnCircle 19 = .ok (.ifCond .eq 25, 3) := by decide +kernel
theorem dX6_firstFreeOnCircle_22 : decode cX6_firstFreeOnCircle 22 = .ok (.iload_n 3, 1) := by decide +kernel
theorem dX6_firstFreeOnCircle_23 : decode cX6_firstFreeOnCircle 23 = .ok (.aload_n 0, 1) := by decide +kernel
theorem dX6_firstFreeOnCircle_24 : decode cX6_firstFreeOnCircle 24 = .ok (.getfield 18, 3) := by decide +kernel
theorem dX6_firstFreeOnCircle_27 : decode cX6_firstFreeOnCircle 27 = .ok (.if_icmp .ge 9, 3) := by decide +kernel
theorem dX6_firstFreeOnCircle_30 : decode cX6_firstFreeOnCircle 30 = .ok (.iload_n 3, 1) := by decide +kernel
theorem dX6_firstFreeOnCircle_31 : decode cX6_firstFreeOnCircle 31 = .ok (.iconst 1, 1) := by decide +kernel
theorem dX6_firstFreeOnCircle_32 : decode cX6_firstFreeOnCircle 32 = .ok (.iadd, 1) := by decide +kernel
theorem dX6_firstFreeOnCircle_33 : decode cX6_firstFreeOnCircle 33 = .ok (.goto 4, 3) := by decide +kernel
theorem dX6_firstFreeOnCircle_36 : decode cX6_firstFreeOnCircle 36 = .ok (.iconst 0, 1) := by decide +kernel
theorem dX6_firstFreeOnCircle_37 : decode cX6_firstFreeOnCircle 37 = .ok (.istore_n 3, 1) := by decide +kernel
theorem dX6_firstFreeOnCircle_38 : decode cX6_firstFreeOnCircle 38 = .ok (.iinc 4 1, 3) := by decide +kernel
theorem dX6_firstFreeOnCircle_41 : decode cX6_firstFreeOnCircle 41 = .ok (.goto (-36), 3) := by decide +kernel
theorem dX6_firstFreeOnCircle_44 : decode cX6_firstFreeOnCircle 44 = .ok (.iload_n 3, 1) := by decide +kernel
theorem dX6_firstFreeOnCircle_45 : decode cX6_firstFreeOnCircle 45 = .ok (.ireturn, 1) := by decide +kernel
set_option maxRecDepth 20000 in
theorem ggX6_undo_X6_requireState : GoodIn wsX6_undo wsX6_requireState := goodIn_ca (goodIn_r _ [7, 8, 9] (by decide +kernel) (by decide +kernel)) (goodIn_sub (fun _ h => List.mem_cons_of_mem _ (List.mem_append_right _ h)) (by decide +kernel))
set_option maxRecDepth 20000 in
theorem gX6_undo_X6_requireState : GoodIn wsX6_undo (va_wsS RX6 109 yX6_requireState wsX6_requireState) := goodIn_app (goodIn_of _ (by decide +kernel)) ggX6_undo_X6_requireState
set_option maxRecDepth 20000 in
theorem ggX6_undo_X0_restore : GoodIn wsX6_undo wsX0_restore := goodIn_r _ [14, 15, 16, 17, 18, 19, 20, 21, 22, 23, 24, 25, 26, 27, 28, 29, 30, 41, 42, 43, 44, 45, 46, 47] (by decide +kernel) (by decide +kernel)
set_option maxRecDepth 20000 in
theorem gX6_undo_X0_restore : GoodIn wsX6_undo (wsV RX6 273 RX0 yX0_restore wsX0_restore) := goodIn_app (goodIn_of _ (by decide +kernel)) ggX6_undo_X0_restore
theorem dX6_undo_0 : decode cX6_undo 0 = .ok (.aload_n 0, 1) := by decide +kernel
theorem dX6_undo_1 : decode cX6_undo 1 = .ok (.getfield 32, 3) := by decide +kernel
theorem dX6_undo_4 : decode cX6_undo 4 = .ok (.getfield 270, 3) := by decide +kernel
theorem dX6_undo_7 : decode cX6_undo 7 = .ok (.ifCond .le 7, 3) := by decide +kernel
theorem dX6_undo_10 : decode cX6_undo 10 = .ok (.iconst 1, 1) := by decide +kernel
theorem dX6_undo_11 : decode cX6_undo 11 = .ok (.goto 4, 3) := by decide +kernel
theorem dX6_undo_14 : decode cX6_undo 14 = .ok (.iconst 0, 1) := by decide +kernel
theorem dX6_undo_15 : decode cX6_undo 15 = .ok (.invokestatic 109, 3) := by decide +kernel
theorem dX6_undo_18 : decode cX6_undo 18 = .ok (.aload_n 0, 1) := by decide +kernel
theorem dX6_undo_19 : decode cX6_undo 19 = .ok (.getfield 32, 3) := by decide +kernel
theorem dX6_undo_22 : decode cX6_undo 22 = .ok (.aload_n 0, 1) := by decide +kernel
theorem dX6_undo_23 : decode cX6_undo 23 = .ok (.getfield 25, 3) := by decide +kernel
theorem dX6_undo_26 : decode cX6_undo 26 = .ok (.invokevirtual 273, 3) := by decide +kernel
theorem dX6_undo_29 : decode cX6_undo 29 = .ok (.aload_n 0, 1) := by decide +kernel
theorem dX6_undo_30 : decode cX6_undo 30 = .ok (.getfield 32, 3) := by decide +kernel
theorem dX6_undo_33 : decode cX6_undo 33 = .ok (.getfield 270, 3) := by decide +kernel
theorem dX6_undo_36 : decode cX6_undo 36 = .ok (.ireturn, 1) := by decide +kernel
set_option maxRecDepth 20000 in
theorem ggX6_fingerprint_X6_parkAll : GoodIn wsX6_fingerprint wsX6_parkAll := goodIn_r _ [14, 7, 3, 5, 6, 15, 16, 17, 18, 19, 20, 21, 22, 23, 24, 25, 26, 27, 28, 29, 30, 31, 32, 33, 34, 35, 36, 37, 38, 39, 40, 41, 42, 43, 44, 45, 46, 47, 48, 49, 50, 51, 52, 53, 54, 55, 56, 84, 85, 86, 87, 88, 89, 90, 91, 92, 93, 94, 95, 96, 97, 98, 99, 100, 101, 102, 103, 104, 105, 106, 107, 108] (by decide +kernel) (by decide +kernel)
set_option maxRecDepth 20000 in
theorem gX6_fingerprint_X6_parkAll : GoodIn wsX6_fingerprint (wsV RX6 115 RX6 yX6_parkAll wsX6_parkAll) := goodIn_app (goodIn_of _ (by decide +kernel)) ggX6_fingerprint_X6_parkAll
set_option maxRecDepth 20000 in
theorem ggX6_fingerprint_X6_mix : GoodIn wsX6_fingerprint wsX6_mix := goodIn_r _ [59, 60] (by decide +kernel) (by decide +kernel)
set_option maxRecDepth 20000 in
theorem gX6_fingerprint_X6_mix : GoodIn wsX6_fingerprint (va_wsS RX6 278 yX6_mix wsX6_mix) := goodIn_app (goodIn_of _ (by decide +kernel)) ggX6_fingerprint_X6_mix
set_option maxRecDepth 20000 in
theorem ggX6_fingerprint_X5_ruleNumber : GoodIn wsX6_fingerprint wsX5_ruleNumber := goodIn_r _ [65, 66, 67, 94, 95, 96, 97, 98] (by decide +kernel) (by decide +kernel)
set_option maxRecDepth 20000 in
theorem gX6_fingerprint_X5_ruleNumber : GoodIn wsX6_fingerprint (wsV RX6 89 RX5 yX5_ruleNumber wsX5_ruleNumber) := goodIn_app (goodIn_of _ (by decide +kernel)) ggX6_fingerprint_X5_ruleNumber
set_option maxRecDepth 20000 in
theorem ggX6_fingerprint_X1_countOfLeavers : GoodIn wsX6_fingerprint wsX1_countOfLeavers := goodIn_r _ [71, 28, 35, 99, 100, 101, 102, 103, 104, 105, 106, 107, 108] (by decide +kernel) (by decide +kernel)
set_option maxRecDepth 20000 in
theorem gX6_fingerprint_X1_countOfLeavers : GoodIn wsX6_fingerprint (wsV RX6 128 RX1 yX1_countOfLeavers wsX1_countOfLeavers) := goodIn_app (goodIn_of _ (by decide +kernel)) ggX6_fingerprint_X1_countOfLeavers
set_option maxRecDepth 20000 in
theorem ggX6_fingerprint_X1_setOfLuckyCars : GoodIn wsX6_fingerprint wsX1_setOfLuckyCars := goodIn_r _ [75, 28, 35, 34, 99, 100, 101, 102, 103, 104, 105, 106, 107, 108] (by decide +kernel) (by decide +kernel)
set_option maxRecDepth 20000 in
theorem gX6_fingerprint_X1_setOfLuckyCars : GoodIn wsX6_fingerprint (wsV RX6 134 RX1 yX1_setOfLuckyCars wsX1_setOfLuckyCars) := goodIn_app (goodIn_of _ (by decide +kernel)) ggX6_fingerprint_X1_setOfLuckyCars
set_option maxRecDepth 20000 in
theorem ggX6_fingerprint_X1_sumOfDistances : GoodIn wsX6_fingerprint wsX1_sumOfDistances := goodIn_r _ [79, 28, 35, 34, 80, 81, 82, 83, 99, 100, 101, 102, 103, 104, 105, 106, 107, 108] (by decide +kernel) (by decide +kernel)
set_option maxRecDepth 20000 in
theorem gX6_fingerprint_X1_sumOfDistances : GoodIn wsX6_fingerprint (wsV RX6 137 RX1 yX1_sumOfDistances wsX1_sumOfDistances) := goodIn_app (goodIn_of _ (by decide +kernel)) ggX6_fingerprint_X1_sumOfDistances
theorem dX6_fingerprint_0 : decode cX6_fingerprint 0 = .ok (.aload_n 0, 1) := by decide +kernel
theorem dX6_fingerprint_1 : decode cX6_fingerprint 1 = .ok (.invokevirtual 115, 3) := by decide +kernel
theorem dX6_fingerprint_4 : decode cX6_fingerprint 4 = .ok (.ldc2_w 276, 3) := by decide +kernel
theorem dX6_fingerprint_7 : decode cX6_fingerprint 7 = .ok (.aload_n 0, 1) := by decide +kernel
theorem dX6_fingerprint_8 : decode cX6_fingerprint 8 = .ok (.getfield 18, 3) := by decide +kernel
theorem dX6_fingerprint_11 : decode cX6_fingerprint 11 = .ok (.i2l, 1) := by decide +kernel
theorem dX6_fingerprint_12 : decode cX6_fingerprint 12 = .ok (.invokestatic 278, 3) := by decide +kernel
theorem dX6_fingerprint_15 : decode cX6_fingerprint 15 = .ok (.lstore_n 1, 1) := by decide +kernel
theorem dX6_fingerprint_16 : decode cX6_fingerprint 16 = .ok (.iconst 0, 1) := by decide +kernel
theorem dX6_fingerprint_17 : decode cX6_fingerprint 17 = .ok (.istore_n 3, 1) := by decide +kernel
theorem dX6_fingerprint_18 : decode cX6_fingerprint 18 = .ok (.iload_n 3, 1) := by decide +kernel
theorem dX6_fingerprint_19 : decode cX6_fingerprint 19 = .ok (.aload_n 0, 1) := by decide +kernel
theorem dX6_fingerprint_20 : decode cX6_fingerprint 20 = .ok (.getfield 18, 3) := by decide +kernel
theorem dX6_fingerprint_23 : decode cX6_fingerprint 23 = .ok (.if_icmp .ge 24, 3) := by decide +kernel
theorem dX6_fingerprint_26 : decode cX6_fingerprint 26 = .ok (.lload_n 1, 1) := by decide +kernel
theorem dX6_fingerprint_27 : decode cX6_fingerprint 27 = .ok (.aload_n 0, 1) := by decide +kernel
theorem dX6_fingerprint_28 : decode cX6_fingerprint 28 = .ok (.getfield 25, 3) := by decide +kernel
theorem dX6_fingerprint_31 : decode cX6_fingerprint 31 = .ok (.getfield 103, 3) := by decide +kernel
theorem dX6_fingerprint_34 : decode cX6_fingerprint 34 = .ok (.iload_n 3, 1) := by decide +kernel
theorem dX6_fingerprint_35 : decode cX6_fingerprint 35 = .ok (.iaload, 1) := by decide +kernel
theorem dX6_fingerprint_36 : decode cX6_fingerprint 36 = .ok (.i2l, 1) := by decide +kernel
theorem dX6_fingerprint_37 : decode cX6_fingerprint 37 = .ok (.invokestatic 278, 3) := by decide +kernel
theorem dX6_fingerprint_40 : decode cX6_fingerprint 40 = .ok (.lstore_n 1, 1) := by decide +kernel
theorem dX6_fingerprint_41 : decode cX6_fingerprint 41 = .ok (.iinc 3 1, 3) := by decide +kernel
theorem dX6_fingerprint_44 : decode cX6_fingerprint 44 = .ok (.goto (-26), 3) := by decide +kernel
theorem dX6_fingerprint_47 : decode cX6_fingerprint 47 = .ok (.lload_n 1, 1) := by decide +kernel
theorem dX6_fingerprint_48 : decode cX6_fingerprint 48 = .ok (.aload_n 0, 1) := by decide +kernel
theorem dX6_fingerprint_49 : decode cX6_fingerprint 49 = .ok (.getfield 25, 3) := by decide +kernel
theorem dX6_fingerprint_52 : decode cX6_fingerprint 52 = .ok (.invokevirtual 89, 3) := by decide +kernel
theorem dX6_fingerprint_55 : decode cX6_fingerprint 55 = .ok (.i2l, 1) := by decide +kernel
theorem dX6_fingerprint_56 : decode cX6_fingerprint 56 = .ok (.invokestatic 278, 3) := by decide +kernel
theorem dX6_fingerprint_59 : decode cX6_fingerprint 59 = .ok (.lstore_n 1, 1) := by decide +kernel
theorem dX6_fingerprint_60 : decode cX6_fingerprint 60 = .ok (.lload_n 1, 1) := by decide +kernel
theorem dX6_fingerprint_61 : decode cX6_fingerprint 61 = .ok (.aload_n 0, 1) := by decide +kernel
theorem dX6_fingerprint_62 : decode cX6_fingerprint 62 = .ok (.getfield 25, 3) := by decide +kernel
theorem dX6_fingerprint_65 : decode cX6_fingerprint 65 = .ok (.getfield 106, 3) := by decide +kernel
theorem dX6_fingerprint_68 : decode cX6_fingerprint 68 = .ok (.i2l, 1) := by decide +kernel
theorem dX6_fingerprint_69 : decode cX6_fingerprint 69 = .ok (.invokestatic 278, 3) := by decide +kernel
theorem dX6_fingerprint_72 : decode cX6_fingerprint 72 = .ok (.lstore_n 1, 1) := by decide +kernel
theorem dX6_fingerprint_73 : decode cX6_fingerprint 73 = .ok (.iconst 0, 1) := by decide +kernel
theorem dX6_fingerprint_74 : decode cX6_fingerprint 74 = .ok (.istore_n 3, 1) := by decide +kernel
theorem dX6_fingerprint_75 : decode cX6_fingerprint 75 = .ok (.iload_n 3, 1) := by decide +kernel
theorem dX6_fingerprint_76 : decode cX6_fingerprint 76 = .ok (.aload_n 0, 1) := by decide +kernel
theorem dX6_fingerprint_77 : decode cX6_fingerprint 77 = .ok (.getfield 25, 3) := by decide +kernel
theorem dX6_fingerprint_80 : decode cX6_fingerprint 80 = .ok (.getfield 106, 3) := by decide +kernel
theorem dX6_fingerprint_83 : decode cX6_fingerprint 83 = .ok (.if_icmp .ge 54, 3) := by decide +kernel
theorem dX6_fingerprint_86 : decode cX6_fingerprint 86 = .ok (.lload_n 1, 1) := by decide +kernel
theorem dX6_fingerprint_87 : decode cX6_fingerprint 87 = .ok (.aload_n 0, 1) := by decide +kernel
theorem dX6_fingerprint_88 : decode cX6_fingerprint 88 = .ok (.getfield 25, 3) := by decide +kernel
theorem dX6_fingerprint_91 : decode cX6_fingerprint 91 = .ok (.getfield 112, 3) := by decide +kernel
theorem dX6_fingerprint_94 : decode cX6_fingerprint 94 = .ok (.iload_n 3, 1) := by decide +kernel
theorem dX6_fingerprint_95 : decode cX6_fingerprint 95 = .ok (.iaload, 1) := by decide +kernel
theorem dX6_fingerprint_96 : decode cX6_fingerprint 96 = .ok (.i2l, 1) := by decide +kernel
theorem dX6_fingerprint_97 : decode cX6_fingerprint 97 = .ok (.invokestatic 278, 3) := by decide +kernel
theorem dX6_fingerprint_100 : decode cX6_fingerprint 100 = .ok (.lstore_n 1, 1) := by decide +kernel
theorem dX6_fingerprint_101 : decode cX6_fingerprint 101 = .ok (.lload_n 1, 1) := by decide +kernel
theorem dX6_fingerprint_102 : decode cX6_fingerprint 102 = .ok (.aload_n 0, 1) := by decide +kernel
theorem dX6_fingerprint_103 : decode cX6_fingerprint 103 = .ok (.getfield 41, 3) := by decide +kernel
theorem dX6_fingerprint_106 : decode cX6_fingerprint 106 = .ok (.getfield 118, 3) := by decide +kernel
theorem dX6_fingerprint_109 : decode cX6_fingerprint 109 = .ok (.iload_n 3, 1) := by decide +kernel
theorem dX6_fingerprint_110 : decode cX6_fingerprint 110 = .ok (.iaload, 1) := by decide +kernel
theorem dX6_fingerprint_111 : decode cX6_fingerprint 111 = .ok (.i2l, 1) := by decide +kernel
theorem dX6_fingerprint_112 : decode cX6_fingerprint 112 = .ok (.invokestatic 278, 3) := by decide +kernel
theorem dX6_fingerprint_115 : decode cX6_fingerprint 115 = .ok (.lstore_n 1, 1) := by decide +kernel
theorem dX6_fingerprint_116 : decode cX6_fingerprint 116 = .ok (.lload_n 1, 1) := by decide +kernel
theorem dX6_fingerprint_117 : decode cX6_fingerprint 117 = .ok (.aload_n 0, 1) := by decide +kernel
theorem dX6_fingerprint_118 : decode cX6_fingerprint 118 = .ok (.getfield 41, 3) := by decide +kernel
theorem dX6_fingerprint_121 : decode cX6_fingerprint 121 = .ok (.getfield 121, 3) := by decide +kernel
theorem dX6_fingerprint_124 : decode cX6_fingerprint 124 = .ok (.iload_n 3, 1) := by decide +kernel
theorem dX6_fingerprint_125 : decode cX6_fingerprint 125 = .ok (.iaload, 1) := by decide +kernel
theorem dX6_fingerprint_126 : decode cX6_fingerprint 126 = .ok (.i2l, 1) := by decide +kernel
theorem dX6_fingerprint_127 : decode cX6_fingerprint 127 = .ok (.invokestatic 278, 3) := by decide +kernel
theorem dX6_fingerprint_130 : decode cX6_fingerprint 130 = .ok (.lstore_n 1, 1) := by decide +kernel
theorem dX6_fingerprint_131 : decode cX6_fingerprint 131 = .ok (.iinc 3 1, 3) := by decide +kernel
theorem dX6_fingerprint_134 : decode cX6_fingerprint 134 = .ok (.goto (-59), 3) := by decide +kernel
theorem dX6_fingerprint_137 : decode cX6_fingerprint 137 = .ok (.lload_n 1, 1) := by decide +kernel
theorem dX6_fingerprint_138 : decode cX6_fingerprint 138 = .ok (.aload_n 0, 1) := by decide +kernel
theorem dX6_fingerprint_139 : decode cX6_fingerprint 139 = .ok (.getfield 41, 3) := by decide +kernel
theorem dX6_fingerprint_142 : decode cX6_fingerprint 142 = .ok (.invokevirtual 128, 3) := by decide +kernel
theorem dX6_fingerprint_145 : decode cX6_fingerprint 145 = .ok (.i2l, 1) := by decide +kernel
theorem dX6_fingerprint_146 : decode cX6_fingerprint 146 = .ok (.invokestatic 278, 3) := by decide +kernel
theorem dX6_fingerprint_149 : decode cX6_fingerprint 149 = .ok (.lstore_n 1, 1) := by decide +kernel
theorem dX6_fingerprint_150 : decode cX6_fingerprint 150 = .ok (.lload_n 1, 1) := by decide +kernel
theorem dX6_fingerprint_151 : decode cX6_fingerprint 151 = .ok (.aload_n 0, 1) := by decide +kernel
theorem dX6_fingerprint_152 : decode cX6_fingerprint 152 = .ok (.getfield 41, 3) := by decide +kernel
theorem dX6_fingerprint_155 : decode cX6_fingerprint 155 = .ok (.invokevirtual 134, 3) := by decide +kernel
theorem dX6_fingerprint_158 : decode cX6_fingerprint 158 = .ok (.i2l, 1) := by decide +kernel
theorem dX6_fingerprint_159 : decode cX6_fingerprint 159 = .ok (.invokestatic 278, 3) := by decide +kernel
theorem dX6_fingerprint_162 : decode cX6_fingerprint 162 = .ok (.lstore_n 1, 1) := by decide +kernel
theorem dX6_fingerprint_163 : decode cX6_fingerprint 163 = .ok (.lload_n 1, 1) := by decide +kernel
theorem dX6_fingerprint_164 : decode cX6_fingerprint 164 = .ok (.aload_n 0, 1) := by decide +kernel
theorem dX6_fingerprint_165 : decode cX6_fingerprint 165 = .ok (.getfield 41, 3) := by decide +kernel
theorem dX6_fingerprint_168 : decode cX6_fingerprint 168 = .ok (.invokevirtual 137, 3) := by decide +kernel
theorem dX6_fingerprint_171 : decode cX6_fingerprint 171 = .ok (.i2l, 1) := by decide +kernel
theorem dX6_fingerprint_172 : decode cX6_fingerprint 172 = .ok (.invokestatic 278, 3) := by decide +kernel
theorem dX6_fingerprint_175 : decode cX6_fingerprint 175 = .ok (.lreturn, 1) := by decide +kernel
theorem dX6_mix_0 : decode cX6_mix 0 = .ok (.ldc2_w 282, 3) := by decide +kernel
theorem dX6_mix_3 : decode cX6_mix 3 = .ok (.lload_n 0, 1) := by decide +kernel
theorem dX6_mix_4 : decode cX6_mix 4 = .ok (.lmul, 1) := by decide +kernel
theorem dX6_mix_5 : decode cX6_mix 5 = .ok (.lload_n 2, 1) := by decide +kernel
theorem dX6_mix_6 : decode cX6_mix 6 = .ok (.ladd, 1) := by decide +kernel
theorem dX6_mix_7 : decode cX6_mix 7 = .ok (.lreturn, 1) := by decide +kernel
theorem dX6_isUpTo_0 : decode cX6_isUpTo 0 = .ok (.iload_n 0, 1) := by decide +kernel
theorem dX6_isUpTo_1 : decode cX6_isUpTo 1 = .ok (.ifCond .lt 12, 3) := by decide +kernel
theorem dX6_isUpTo_4 : decode cX6_isUpTo 4 = .ok (.iload_n 0, 1) := by decide +kernel
theorem dX6_isUpTo_5 : decode cX6_isUpTo 5 = .ok (.iload_n 1, 1) := by decide +kernel
theorem dX6_isUpTo_6 : decode cX6_isUpTo 6 = .ok (.if_icmp .gt 7, 3) := by decide +kernel
theorem dX6_isUpTo_9 : decode cX6_isUpTo 9 = .ok (.iconst 1, 1) := by decide +kernel
theorem dX6_isUpTo_10 : decode cX6_isUpTo 10 = .ok (.goto 4, 3) := by decide +kernel
theorem dX6_isUpTo_13 : decode cX6_isUpTo 13 = .ok (.iconst 0, 1) := by decide +kernel
theorem dX6_isUpTo_14 : decode cX6_isUpTo 14 = .ok (.ireturn, 1) := by decide +kernel
theorem dX6_requireIndex_0 : decode cX6_requireIndex 0 = .ok (.iload_n 0, 1) := by decide +kernel
theorem dX6_requireIndex_1 : decode cX6_requireIndex 1 = .ok (.ifCond .lt 8, 3) := by decide +kernel
theorem dX6_requireIndex_4 : decode cX6_requireIndex 4 = .ok (.iload_n 0, 1) := by decide +kernel
theorem dX6_requireIndex_5 : decode cX6_requireIndex 5 = .ok (.iload_n 1, 1) := by decide +kernel
theorem dX6_requireIndex_6 : decode cX6_requireIndex 6 = .ok (.if_icmp .lt 14, 3) := by decide +kernel
theorem dX6_requireIndex_9 : decode cX6_requireIndex 9 = .ok (.new 284, 3) := by decide +kernel
theorem dX6_requireIndex_12 : decode cX6_requireIndex 12 = .ok (.dup, 1) := by decide +kernel
theorem dX6_requireIndex_13 : decode cX6_requireIndex 13 = .ok (.ldc_w 286, 3) := by decide +kernel
theorem dX6_requireIndex_16 : decode cX6_requireIndex 16 = .ok (.invokespecial 288, 3) := by decide +kernel
theorem dX6_requireIndex_19 : decode cX6_requireIndex 19 = .ok (.athrow, 1) := by decide +kernel
theorem dX6_requireIndex_20 : decode cX6_requireIndex 20 = .ok (.return_, 1) := by decide +kernel
theorem dX6_requireArgument_0 : decode cX6_requireArgument 0 = .ok (.iload_n 0, 1) := by decide +kernel
theorem dX6_requireArgument_1 : decode cX6_requireArgument 1 = .ok (.ifCond .ne 14, 3) := by decide +kernel
theorem dX6_requireArgument_4 : decode cX6_requireArgument 4 = .ok (.new 291, 3) := by decide +kernel
theorem dX6_requireArgument_7 : decode cX6_requireArgument 7 = .ok (.dup, 1) := by decide +kernel
theorem dX6_requireArgument_8 : decode cX6_requireArgument 8 = .ok (.ldc_w 293, 3) := by decide +kernel
theorem dX6_requireArgument_11 : decode cX6_requireArgument 11 = .ok (.invokespecial 295, 3) := by decide +kernel
theorem dX6_requireArgument_14 : decode cX6_requireArgument 14 = .ok (.athrow, 1) := by decide +kernel
theorem dX6_requireArgument_15 : decode cX6_requireArgument 15 = .ok (.return_, 1) := by decide +kernel
theorem dX6_requireState_0 : decode cX6_requireState 0 = .ok (.iload_n 0, 1) := by decide +kernel
theorem dX6_requireState_1 : decode cX6_requireState 1 = .ok (.ifCond .ne 14, 3) := by decide +kernel
theorem dX6_requireState_4 : decode cX6_requireState 4 = .ok (.new 296, 3) := by decide +kernel
theorem dX6_requireState_7 : decode cX6_requireState 7 = .ok (.dup, 1) := by decide +kernel
theorem dX6_requireState_8 : decode cX6_requireState 8 = .ok (.ldc_w 298, 3) := by decide +kernel
theorem dX6_requireState_11 : decode cX6_requireState 11 = .ok (.invokespecial 300, 3) := by decide +kernel
theorem dX6_requireState_14 : decode cX6_requireState 14 = .ok (.athrow, 1) := by decide +kernel
theorem dX6_requireState_15 : decode cX6_requireState 15 = .ok (.return_, 1) := by decide +kernel
