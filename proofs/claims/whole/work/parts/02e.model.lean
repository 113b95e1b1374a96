theorem dX7_init_0 : decode cX7_init 0 = .ok (.aload_n 0, 1) := by decide +kernel
theorem dX7_init_1 : decode cX7_init 1 = .ok (.invokespecial 1, 3) := by decide +kernel
theorem dX7_init_4 : decode cX7_init 4 = .ok (.aload_n 0, 1) := by decide +kernel
theorem dX7_init_5 : decode cX7_init 5 = .ok (.bipush 21, 2) := by decide +kernel
theorem dX7_init_7 : decode cX7_init 7 = .ok (.newarray .int, 2) := by decide +kernel
theorem dX7_init_9 : decode cX7_init 9 = .ok (.putfield 7, 3) := by decide +kernel
theorem dX7_init_12 : decode cX7_init 12 = .ok (.aload_n 0, 1) := by decide +kernel
theorem dX7_init_13 : decode cX7_init 13 = .ok (.bipush 126, 2) := by decide +kernel
theorem dX7_init_15 : decode cX7_init 15 = .ok (.newarray .int, 2) := by decide +kernel
theorem dX7_init_17 : decode cX7_init 17 = .ok (.putfield 13, 3) := by decide +kernel
theorem dX7_init_20 : decode cX7_init 20 = .ok (.aload_n 0, 1) := by decide +kernel
theorem dX7_init_21 : decode cX7_init 21 = .ok (.bipush 9, 2) := by decide +kernel
theorem dX7_init_23 : decode cX7_init 23 = .ok (.newarray .int, 2) := by decide +kernel
theorem dX7_init_25 : decode cX7_init 25 = .ok (.putfield 16, 3) := by decide +kernel
theorem dX7_init_28 : decode cX7_init 28 = .ok (.aload_n 0, 1) := by decide +kernel
theorem dX7_init_29 : decode cX7_init 29 = .ok (.bipush 9, 2) := by decide +kernel
theorem dX7_init_31 : decode cX7_init 31 = .ok (.newarray .int, 2) := by decide +kernel
theorem dX7_init_33 : decode cX7_init 33 = .ok (.putfield 19, 3) := by decide +kernel
theorem dX7_init_36 : decode cX7_init 36 = .ok (.aload_n 0, 1) := by decide +kernel
theorem dX7_init_37 : decode cX7_init 37 = .ok (.bipush 9, 2) := by decide +kernel
theorem dX7_init_39 : decode cX7_init 39 = .ok (.newarray .int, 2) := by decide +kernel
theorem dX7_init_41 : decode cX7_init 41 = .ok (.putfield 22, 3) := by decide +kernel
theorem dX7_init_44 : decode cX7_init 44 = .ok (.aload_n 0, 1) := by decide +kernel
theorem dX7_init_45 : decode cX7_init 45 = .ok (.bipush 8, 2) := by decide +kernel
theorem dX7_init_47 : decode cX7_init 47 = .ok (.newarray .int, 2) := by decide +kernel
theorem dX7_init_49 : decode cX7_init 49 = .ok (.putfield 25, 3) := by decide +kernel
theorem dX7_init_52 : decode cX7_init 52 = .ok (.aload_n 0, 1) := by decide +kernel
theorem dX7_init_53 : decode cX7_init 53 = .ok (.bipush 40, 2) := by decide +kernel
theorem dX7_init_55 : decode cX7_init 55 = .ok (.newarray .int, 2) := by decide +kernel
theorem dX7_init_57 : decode cX7_init 57 = .ok (.putfield 28, 3) := by decide +kernel
theorem dX7_init_60 : decode cX7_init 60 = .ok (.aload_n 0, 1) := by decide +kernel
theorem dX7_init_61 : decode cX7_init 61 = .ok (.iload_n 1, 1) := by decide +kernel
theorem dX7_init_62 : decode cX7_init 62 = .ok (.iconst 1, 1) := by decide +kernel
theorem dX7_init_63 : decode cX7_init 63 = .ok (.if_icmp .ge 7, 3) := by decide +kernel
theorem dX7_init_66 : decode cX7_init 66 = .ok (.iconst 1, 1) := by decide +kernel
theorem dX7_init_67 : decode cX7_init 67 = .ok (.goto 15, 3) := by decide +kernel
theorem dX7_init_70 : decode cX7_init 70 = .ok (.iload_n 1, 1) := by decide +kernel
theorem dX7_init_71 : decode cX7_init 71 = .ok (.bipush 8, 2) := by decide +kernel
theorem dX7_init_73 : decode cX7_init 73 = .ok (.if_icmp .le 8, 3) := by decide +kernel
theorem dX7_init_76 : decode cX7_init 76 = .ok (.bipush 8, 2) := by decide +kernel
theorem dX7_init_78 : decode cX7_init 78 = .ok (.goto 4, 3) := by decide +kernel
theorem dX7_init_81 : decode cX7_init 81 = .ok (.iload_n 1, 1) := by decide +kernel
theorem dX7_init_82 : decode cX7_init 82 = .ok (.putfield 31, 3) := by decide +kernel
theorem dX7_init_85 : decode cX7_init 85 = .ok (.iconst 0, 1) := by decide +kernel
theorem dX7_init_86 : decode cX7_init 86 = .ok (.istore_n 2, 1) := by decide +kernel
theorem dX7_init_87 : decode cX7_init 87 = .ok (.iload_n 2, 1) := by decide +kernel
theorem dX7_init_88 : decode cX7_init 88 = .ok (.aload_n 0, 1) := by decide +kernel
theorem dX7_init_89 : decode cX7_init 89 = .ok (.getfield 31, 3) := by decide +kernel
theorem dX7_init_92 : decode cX7_init 92 = .ok (.if_icmp .ge 18, 3) := by decide +kernel
theorem dX7_init_95 : decode cX7_init 95 = .ok (.aload_n 0, 1) := by decide +kernel
theorem dX7_init_96 : decode cX7_init 96 = .ok (.getfield 7, 3) := by decide +kernel
theorem dX7_init_99 : decode cX7_init 99 = .ok (.iconst 3, 1) := by decide +kernel
theorem dX7_init_100 : decode cX7_init 100 = .ok (.iload_n 2, 1) := by decide +kernel
theorem dX7_init_101 : decode cX7_init 101 = .ok (.iadd, 1) := by decide +kernel
theorem dX7_init_102 : decode cX7_init 102 = .ok (.iconst 1, 1) := by decide +kernel
theorem dX7_init_103 : decode cX7_init 103 = .ok (.iastore, 1) := by decide +kernel
theorem dX7_init_104 : decode cX7_init 104 = .ok (.iinc 2 1, 3) := by decide +kernel
theorem dX7_init_107 : decode cX7_init 107 = .ok (.goto (-20), 3) := by decide +kernel
theorem dX7_init_110 : decode cX7_init 110 = .ok (.return_, 1) := by decide +kernel
theorem dX7_thrown_0 : decode cX7_thrown 0 = .ok (.aload_n 0, 1) := by decide +kernel
theorem dX7_thrown_1 : decode cX7_thrown 1 = .ok (.getfield 35, 3) := by decide +kernel
theorem dX7_thrown_4 : decode cX7_thrown 4 = .ok (.ireturn, 1) := by decide +kernel
theorem dX7_in_0 : decode cX7_in 0 = .ok (.iload_n 0, 1) := by decide +kernel
theorem dX7_in_1 : decode cX7_in 1 = .ok (.iload_n 1, 1) := by decide +kernel
theorem dX7_in_2 : decode cX7_in 2 = .ok (.if_icmp .lt 12, 3) := by decide +kernel
theorem dX7_in_5 : decode cX7_in 5 = .ok (.iload_n 0, 1) := by decide +kernel
theorem dX7_in_6 : decode cX7_in 6 = .ok (.iload_n 2, 1) := by decide +kernel
theorem dX7_in_7 : decode cX7_in 7 = .ok (.if_icmp .gt 7, 3) := by decide +kernel
theorem dX7_in_10 : decode cX7_in 10 = .ok (.iconst 1, 1) := by decide +kernel
theorem dX7_in_11 : decode cX7_in 11 = .ok (.goto 4, 3) := by decide +kernel
theorem dX7_in_14 : decode cX7_in 14 = .ok (.iconst 0, 1) := by decide +kernel
theorem dX7_in_15 : decode cX7_in 15 = .ok (.ireturn, 1) := by decide +kernel
theorem dX7_fails_0 : decode cX7_fails 0 = .ok (.aload_n 0, 1) := by decide +kernel
theorem dX7_fails_1 : decode cX7_fails 1 = .ok (.iload_n 1, 1) := by decide +kernel
theorem dX7_fails_2 : decode cX7_fails 2 = .ok (.putfield 35, 3) := by decide +kernel
theorem dX7_fails_5 : decode cX7_fails 5 = .ok (.iconst 0, 1) := by decide +kernel
theorem dX7_fails_6 : decode cX7_fails 6 = .ok (.ireturn, 1) := by decide +kernel
theorem dX7_act_0 : decode cX7_act 0 = .ok (.aload_n 0, 1) := by decide +kernel
theorem dX7_act_1 : decode cX7_act 1 = .ok (.getfield 38, 3) := by decide +kernel
theorem dX7_act_4 : decode cX7_act 4 = .ok (.bipush 6, 2) := by decide +kernel
theorem dX7_act_6 : decode cX7_act 6 = .ok (.if_icmp .ne 42, 3) := by decide +kernel
theorem dX7_act_9 : decode cX7_act 9 = .ok (.iconst 0, 1) := by decide +kernel
theorem dX7_act_10 : decode cX7_act 10 = .ok (.istore_n 1, 1) := by decide +kernel
theorem dX7_act_11 : decode cX7_act 11 = .ok (.iload_n 1, 1) := by decide +kernel
theorem dX7_act_12 : decode cX7_act 12 = .ok (.bipush 105, 2) := by decide +kernel
theorem dX7_act_14 : decode cX7_act 14 = .ok (.if_icmp .ge 24, 3) := by decide +kernel
theorem dX7_act_17 : decode cX7_act 17 = .ok (.aload_n 0, 1) := by decide +kernel
theorem dX7_act_18 : decode cX7_act 18 = .ok (.getfield 13, 3) := by decide +kernel
theorem dX7_act_21 : decode cX7_act 21 = .ok (.iload_n 1, 1) := by decide +kernel
theorem dX7_act_22 : decode cX7_act 22 = .ok (.aload_n 0, 1) := by decide +kernel
theorem dX7_act_23 : decode cX7_act 23 = .ok (.getfield 13, 3) := by decide +kernel
theorem dX7_act_26 : decode cX7_act 26 = .ok (.iload_n 1, 1) := by decide +kernel
theorem dX7_act_27 : decode cX7_act 27 = .ok (.bipush 21, 2) := by decide +kernel
theorem dX7_act_29 : decode cX7_act 29 = .ok (.iadd, 1) := by decide +kernel
theorem dX7_act_30 : decode cX7_act 30 = .ok (.iaload, 1) := by decide +kernel
theorem dX7_act_31 : decode cX7_act 31 = .ok (.iastore, 1) := by decide +kernel
theorem dX7_act_32 : decode cX7_act 32 = .ok (.iinc 1 1, 3) := by decide +kernel
theorem dX7_act_35 : decode cX7_act 35 = .ok (.goto (-24), 3) := by decide +kernel
theorem dX7_act_38 : decode cX7_act 38 = .ok (.aload_n 0, 1) := by decide +kernel
theorem dX7_act_39 : decode cX7_act 39 = .ok (.dup, 1) := by decide +kernel
theorem dX7_act_40 : decode cX7_act 40 = .ok (.getfield 38, 3) := by decide +kernel
theorem dX7_act_43 : decode cX7_act 43 = .ok (.iconst 1, 1) := by decide +kernel
theorem dX7_act_44 : decode cX7_act 44 = .ok (.isub, 1) := by decide +kernel
theorem dX7_act_45 : decode cX7_act 45 = .ok (.putfield 38, 3) := by decide +kernel
theorem dX7_act_48 : decode cX7_act 48 = .ok (.iconst 0, 1) := by decide +kernel
theorem dX7_act_49 : decode cX7_act 49 = .ok (.istore_n 1, 1) := by decide +kernel
theorem dX7_act_50 : decode cX7_act 50 = .ok (.iload_n 1, 1) := by decide +kernel
theorem dX7_act_51 : decode cX7_act 51 = .ok (.bipush 21, 2) := by decide +kernel
theorem dX7_act_53 : decode cX7_act 53 = .ok (.if_icmp .ge 29, 3) := by decide +kernel
theorem dX7_act_56 : decode cX7_act 56 = .ok (.aload_n 0, 1) := by decide +kernel
theorem dX7_act_57 : decode cX7_act 57 = .ok (.getfield 13, 3) := by decide +kernel
theorem dX7_act_60 : decode cX7_act 60 = .ok (.bipush 21, 2) := by decide +kernel
theorem dX7_act_62 : decode cX7_act 62 = .ok (.aload_n 0, 1) := by decide +kernel
theorem dX7_act_63 : decode cX7_act 63 = .ok (.getfield 38, 3) := by decide +kernel
theorem dX7_act_66 : decode cX7_act 66 = .ok (.imul, 1) := by decide +kernel
theorem dX7_act_67 : decode cX7_act 67 = .ok (.iload_n 1, 1) := by decide +kernel
theorem dX7_act_68 : decode cX7_act 68 = .ok (.iadd, 1) := by decide +kernel
theorem dX7_act_69 : decode cX7_act 69 = .ok (.aload_n 0, 1) := by decide +kernel
theorem dX7_act_70 : decode cX7_act 70 = .ok (.getfield 7, 3) := by decide +kernel
theorem dX7_act_73 : decode cX7_act 73 = .ok (.iload_n 1, 1) := by decide +kernel
theorem dX7_act_74 : decode cX7_act 74 = .ok (.iaload, 1) := by decide +kernel
theorem dX7_act_75 : decode cX7_act 75 = .ok (.iastore, 1) := by decide +kernel
theorem dX7_act_76 : decode cX7_act 76 = .ok (.iinc 1 1, 3) := by decide +kernel
theorem dX7_act_79 : decode cX7_act 79 = .ok (.goto (-29), 3) := by decide +kernel
theorem dX7_act_82 : decode cX7_act 82 = .ok (.aload_n 0, 1) := by decide +kernel
theorem dX7_act_83 : decode cX7_act 83 = .ok (.dup, 1) := by decide +kernel
theorem dX7_act_84 : decode cX7_act 84 = .ok (.getfield 38, 3) := by decide +kernel
theorem dX7_act_87 : decode cX7_act 87 = .ok (.iconst 1, 1) := by decide +kernel
theorem dX7_act_88 : decode cX7_act 88 = .ok (.iadd, 1) := by decide +kernel
theorem dX7_act_89 : decode cX7_act 89 = .ok (.putfield 38, 3) := by decide +kernel
theorem dX7_act_92 : decode cX7_act 92 = .ok (.return_, 1) := by decide +kernel
set_option maxRecDepth 20000 in
theorem ggX7_sets_X7_act : GoodIn wsX7_sets wsX7_act := goodIn_r _ [6, 7, 8, 1, 9, 10, 11, 12, 13, 14, 15, 16, 17, 18, 19] (by decide +kernel) (by decide +kernel)
set_option maxRecDepth 20000 in
theorem gX7_sets_X7_act : GoodIn wsX7_sets (wsV RX7 41 RX7 yX7_act wsX7_act) := goodIn_app (goodIn_of _ (by decide +kernel)) ggX7_sets_X7_act
theorem dX7_sets_0 : decode cX7_sets 0 = .ok (.aload_n 0, 1) := by decide +kernel
theorem dX7_sets_1 : decode cX7_sets 1 = .ok (.invokevirtual 41, 3) := by decide +kernel
theorem dX7_sets_4 : decode cX7_sets 4 = .ok (.aload_n 0, 1) := by decide +kernel
theorem dX7_sets_5 : decode cX7_sets 5 = .ok (.getfield 7, 3) := by decide +kernel
theorem dX7_sets_8 : decode cX7_sets 8 = .ok (.iload_n 1, 1) := by decide +kernel
theorem dX7_sets_9 : decode cX7_sets 9 = .ok (.iaload, 1) := by decide +kernel
theorem dX7_sets_10 : decode cX7_sets 10 = .ok (.istore_n 3, 1) := by decide +kernel
theorem dX7_sets_11 : decode cX7_sets 11 = .ok (.aload_n 0, 1) := by decide +kernel
theorem dX7_sets_12 : decode cX7_sets 12 = .ok (.getfield 7, 3) := by decide +kernel
theorem dX7_sets_15 : decode cX7_sets 15 = .ok (.iload_n 1, 1) := by decide +kernel
theorem dX7_sets_16 : decode cX7_sets 16 = .ok (.iload_n 2, 1) := by decide +kernel
theorem dX7_sets_17 : decode cX7_sets 17 = .ok (.iastore, 1) := by decide +kernel
theorem dX7_sets_18 : decode cX7_sets 18 = .ok (.iload_n 3, 1) := by decide +kernel
theorem dX7_sets_19 : decode cX7_sets 19 = .ok (.ireturn, 1) := by decide +kernel
set_option maxRecDepth 20000 in
theorem ggX7_isCar_X7_in : GoodIn wsX7_isCar wsX7_in := goodIn_r _ [5] (by decide +kernel) (by decide +kernel)
set_option maxRecDepth 20000 in
theorem gX7_isCar_X7_in : GoodIn wsX7_isCar (va_wsS RX7 44 yX7_in wsX7_in) := goodIn_app (goodIn_of _ (by decide +kernel)) ggX7_isCar_X7_in
theorem dX7_isCar_0 : decode cX7_isCar 0 = .ok (.iload_n 1, 1) := by decide +kernel
theorem dX7_isCar_1 : decode cX7_isCar 1 = .ok (.iconst 0, 1) := by decide +kernel
theorem dX7_isCar_2 : decode cX7_isCar 2 = .ok (.aload_n 0, 1) := by decide +kernel
theorem dX7_isCar_3 : decode cX7_isCar 3 = .ok (.getfield 7, 3) := by decide +kernel
theorem dX7_isCar_6 : decode cX7_isCar 6 = .ok (.iconst 0, 1) := by decide +kernel
theorem dX7_isCar_7 : decode cX7_isCar 7 = .ok (.iaload, 1) := by decide +kernel
theorem dX7_isCar_8 : decode cX7_isCar 8 = .ok (.iconst 1, 1) := by decide +kernel
theorem dX7_isCar_9 : decode cX7_isCar 9 = .ok (.isub, 1) := by decide +kernel
theorem dX7_isCar_10 : decode cX7_isCar 10 = .ok (.invokestatic 44, 3) := by decide +kernel
theorem dX7_isCar_13 : decode cX7_isCar 13 = .ok (.ireturn, 1) := by decide +kernel
theorem dX7_spaces_0 : decode cX7_spaces 0 = .ok (.aload_n 0, 1) := by decide +kernel
theorem dX7_spaces_1 : decode cX7_spaces 1 = .ok (.iconst 0, 1) := by decide +kernel
theorem dX7_spaces_2 : decode cX7_spaces 2 = .ok (.putfield 35, 3) := by decide +kernel
theorem dX7_spaces_5 : decode cX7_spaces 5 = .ok (.aload_n 0, 1) := by decide +kernel
theorem dX7_spaces_6 : decode cX7_spaces 6 = .ok (.getfield 31, 3) := by decide +kernel
theorem dX7_spaces_9 : decode cX7_spaces 9 = .ok (.ireturn, 1) := by decide +kernel
set_option maxRecDepth 20000 in
theorem ggX7_setRule_X7_in : GoodIn wsX7_setRule wsX7_in := goodIn_r _ [6] (by decide +kernel) (by decide +kernel)
set_option maxRecDepth 20000 in
theorem gX7_setRule_X7_in : GoodIn wsX7_setRule (va_wsS RX7 44 yX7_in wsX7_in) := goodIn_app (goodIn_of _ (by decide +kernel)) ggX7_setRule_X7_in
set_option maxRecDepth 20000 in
theorem ggX7_setRule_X7_fails : GoodIn wsX7_setRule wsX7_fails := goodIn_r _ [10, 1, 17, 18, 19, 20, 21, 22, 23, 24, 25, 26, 27] (by decide +kernel) (by decide +kernel)
set_option maxRecDepth 20000 in
theorem gX7_setRule_X7_fails : GoodIn wsX7_setRule (wsV RX7 48 RX7 yX7_fails wsX7_fails) := goodIn_app (goodIn_of _ (by decide +kernel)) ggX7_setRule_X7_fails
set_option maxRecDepth 20000 in
theorem ggX7_setRule_X7_act : GoodIn wsX7_setRule wsX7_act := goodIn_r _ [14, 15, 16, 2, 17, 18, 19, 20, 21, 22, 23, 24, 25, 26, 27] (by decide +kernel) (by decide +kernel)
set_option maxRecDepth 20000 in
theorem gX7_setRule_X7_act : GoodIn wsX7_setRule (wsV RX7 41 RX7 yX7_act wsX7_act) := goodIn_app (goodIn_of _ (by decide +kernel)) ggX7_setRule_X7_act
theorem dX7_setRule_0 : decode cX7_setRule 0 = .ok (.aload_n 0, 1) := by decide +kernel
theorem dX7_setRule_1 : decode cX7_setRule 1 = .ok (.iconst 0, 1) := by decide +kernel
theorem dX7_setRule_2 : decode cX7_setRule 2 = .ok (.putfield 35, 3) := by decide +kernel
theorem dX7_setRule_5 : decode cX7_setRule 5 = .ok (.iload_n 1, 1) := by decide +kernel
theorem dX7_setRule_6 : decode cX7_setRule 6 = .ok (.iconst 0, 1) := by decide +kernel
theorem dX7_setRule_7 : decode cX7_setRule 7 = .ok (.iconst 3, 1) := by decide +kernel
theorem dX7_setRule_8 : decode cX7_setRule 8 = .ok (.invokestatic 44, 3) := by decide +kernel
theorem dX7_setRule_11 : decode cX7_setRule 11 = .ok (.ifCond .eq 13, 3) := by decide +kernel
theorem dX7_setRule_14 : decode cX7_setRule 14 = .ok (.iload_n 2, 1) := by decide +kernel
theorem dX7_setRule_15 : decode cX7_setRule 15 = .ok (.iconst 0, 1) := by decide +kernel
theorem dX7_setRule_16 : decode cX7_setRule 16 = .ok (.bipush 8, 2) := by decide +kernel
theorem dX7_setRule_18 : decode cX7_setRule 18 = .ok (.invokestatic 44, 3) := by decide +kernel
theorem dX7_setRule_21 : decode cX7_setRule 21 = .ok (.ifCond .ne 9, 3) := by decide +kernel
theorem dX7_setRule_24 : decode cX7_setRule 24 = .ok (.aload_n 0, 1) := by decide +kernel
theorem dX7_setRule_25 : decode cX7_setRule 25 = .ok (.iconst 1, 1) := by decide +kernel
theorem dX7_setRule_26 : decode cX7_setRule 26 = .ok (.invokevirtual 48, 3) := by decide +kernel
theorem dX7_setRule_29 : decode cX7_setRule 29 = .ok (.ireturn, 1) := by decide +kernel
theorem dX7_setRule_30 : decode cX7_setRule 30 = .ok (.aload_n 0, 1) := by decide +kernel
theorem dX7_setRule_31 : decode cX7_setRule 31 = .ok (.invokevirtual 41, 3) := by decide +kernel
theorem dX7_setRule_34 : decode cX7_setRule 34 = .ok (.bipush 10, 2) := by decide +kernel
theorem dX7_setRule_36 : decode cX7_setRule 36 = .ok (.aload_n 0, 1) := by decide +kernel
theorem dX7_setRule_37 : decode cX7_setRule 37 = .ok (.getfield 7, 3) := by decide +kernel
theorem dX7_setRule_40 : decode cX7_setRule 40 = .ok (.iconst 1, 1) := by decide +kernel
theorem dX7_setRule_41 : decode cX7_setRule 41 = .ok (.iaload, 1) := by decide +kernel
theorem dX7_setRule_42 : decode cX7_setRule 42 = .ok (.imul, 1) := by decide +kernel
theorem dX7_setRule_43 : decode cX7_setRule 43 = .ok (.aload_n 0, 1) := by decide +kernel
theorem dX7_setRule_44 : decode cX7_setRule 44 = .ok (.getfield 7, 3) := by decide +kernel
theorem dX7_setRule_47 : decode cX7_setRule 47 = .ok (.iconst 2, 1) := by decide +kernel
theorem dX7_setRule_48 : decode cX7_setRule 48 = .ok (.iaload, 1) := by decide +kernel
theorem dX7_setRule_49 : decode cX7_setRule 49 = .ok (.iadd, 1) := by decide +kernel
theorem dX7_setRule_50 : decode cX7_setRule 50 = .ok (.istore_n 3, 1) := by decide +kernel
theorem dX7_setRule_51 : decode cX7_setRule 51 = .ok (.aload_n 0, 1) := by decide +kernel
theorem dX7_setRule_52 : decode cX7_setRule 52 = .ok (.getfield 7, 3) := by decide +kernel
theorem dX7_setRule_55 : decode cX7_setRule 55 = .ok (.iconst 1, 1) := by decide +kernel
theorem dX7_setRule_56 : decode cX7_setRule 56 = .ok (.iload_n 1, 1) := by decide +kernel
theorem dX7_setRule_57 : decode cX7_setRule 57 = .ok (.iastore, 1) := by decide +kernel
theorem dX7_setRule_58 : decode cX7_setRule 58 = .ok (.aload_n 0, 1) := by decide +kernel
theorem dX7_setRule_59 : decode cX7_setRule 59 = .ok (.getfield 7, 3) := by decide +kernel
theorem dX7_setRule_62 : decode cX7_setRule 62 = .ok (.iconst 2, 1) := by decide +kernel
theorem dX7_setRule_63 : decode cX7_setRule 63 = .ok (.iload_n 2, 1) := by decide +kernel
theorem dX7_setRule_64 : decode cX7_setRule 64 = .ok (.iastore, 1) := by decide +kernel
theorem dX7_setRule_65 : decode cX7_setRule 65 = .ok (.iload_n 3, 1) := by decide +kernel
theorem dX7_setRule_66 : decode cX7_setRule 66 = .ok (.ireturn, 1) := by decide +kernel
set_option maxRecDepth 20000 in
theorem ggX7_setCapacity_X7_in : GoodIn wsX7_setCapacity wsX7_in := goodIn_r _ [6] (by decide +kernel) (by decide +kernel)
set_option maxRecDepth 20000 in
theorem gX7_setCapacity_X7_in : GoodIn wsX7_setCapacity (va_wsS RX7 44 yX7_in wsX7_in) := goodIn_app (goodIn_of _ (by decide +kernel)) ggX7_setCapacity_X7_in
set_option maxRecDepth 20000 in
theorem ggX7_setCapacity_X7_fails : GoodIn wsX7_setCapacity wsX7_fails := goodIn_r _ [10, 1, 22, 23, 24, 25, 26, 27, 28, 29, 30, 31, 32] (by decide +kernel) (by decide +kernel)
set_option maxRecDepth 20000 in
theorem gX7_setCapacity_X7_fails : GoodIn wsX7_setCapacity (wsV RX7 48 RX7 yX7_fails wsX7_fails) := goodIn_app (goodIn_of _ (by decide +kernel)) ggX7_setCapacity_X7_fails
set_option maxRecDepth 20000 in
theorem ggX7_setCapacity_X7_sets : GoodIn wsX7_setCapacity wsX7_sets := goodIn_r _ [14, 15, 16, 17, 18, 5, 19, 20, 21, 22, 23, 24, 25, 26, 27, 28, 29, 30, 31, 32] (by decide +kernel) (by decide +kernel)
set_option maxRecDepth 20000 in
theorem gX7_setCapacity_X7_sets : GoodIn wsX7_setCapacity (wsV RX7 52 RX7 yX7_sets wsX7_sets) := goodIn_app (goodIn_of _ (by decide +kernel)) ggX7_setCapacity_X7_sets
theorem dX7_setCapacity_0 : decode cX7_setCapacity 0 = .ok (.aload_n 0, 1) := by decide +kernel
theorem dX7_setCapacity_1 : decode cX7_setCapacity 1 = .ok (.iconst 0, 1) := by decide +kernel
theorem dX7_setCapacity_2 : decode cX7_setCapacity 2 = .ok (.putfield 35, 3) := by decide +kernel
theorem dX7_setCapacity_5 : decode cX7_setCapacity 5 = .ok (.iload_n 1, 1) := by decide +kernel
theorem dX7_setCapacity_6 : decode cX7_setCapacity 6 = .ok (.iconst 0, 1) := by decide +kernel
theorem dX7_setCapacity_7 : decode cX7_setCapacity 7 = .ok (.aload_n 0, 1) := by decide +kernel
theorem dX7_setCapacity_8 : decode cX7_setCapacity 8 = .ok (.getfield 31, 3) := by decide +kernel
theorem dX7_setCapacity_11 : decode cX7_setCapacity 11 = .ok (.iconst 1, 1) := by decide +kernel
theorem dX7_setCapacity_12 : decode cX7_setCapacity 12 = .ok (.isub, 1) := by decide +kernel
theorem dX7_setCapacity_13 : decode cX7_setCapacity 13 = .ok (.invokestatic 44, 3) := by decide +kernel
theorem dX7_setCapacity_16 : decode cX7_setCapacity 16 = .ok (.ifCond .ne 9, 3) := by decide +kernel
theorem dX7_setCapacity_19 : decode cX7_setCapacity 19 = .ok (.aload_n 0, 1) := by decide +kernel
theorem dX7_setCapacity_20 : decode cX7_setCapacity 20 = .ok (.iconst 1, 1) := by decide +kernel
theorem dX7_setCapacity_21 : decode cX7_setCapacity 21 = .ok (.invokevirtual 48, 3) := by decide +kernel
theorem dX7_setCapacity_24 : decode cX7_setCapacity 24 = .ok (.ireturn, 1) := by decide +kernel
theorem dX7_setCapacity_25 : decode cX7_setCapacity 25 = .ok (.iload_n 2, 1) := by decide +kernel
theorem dX7_setCapacity_26 : decode cX7_setCapacity 26 = .ok (.iconst 0, 1) := by decide +kernel
theorem dX7_setCapacity_27 : decode cX7_setCapacity 27 = .ok (.iconst 3, 1) := by decide +kernel
theorem dX7_setCapacity_28 : decode cX7_setCapacity 28 = .ok (.invokestatic 44, 3) := by decide +kernel
theorem dX7_setCapacity_31 : decode cX7_setCapacity 31 = .ok (.ifCond .eq 14, 3) := by decide +kernel
theorem dX7_setCapacity_34 : decode cX7_setCapacity 34 = .ok (.aload_n 0, 1) := by decide +kernel
theorem dX7_setCapacity_35 : decode cX7_setCapacity 35 = .ok (.iconst 3, 1) := by decide +kernel
theorem dX7_setCapacity_36 : decode cX7_setCapacity 36 = .ok (.iload_n 1, 1) := by decide +kernel
theorem dX7_setCapacity_37 : decode cX7_setCapacity 37 = .ok (.iadd, 1) := by decide +kernel
theorem dX7_setCapacity_38 : decode cX7_setCapacity 38 = .ok (.iload_n 2, 1) := by decide +kernel
theorem dX7_setCapacity_39 : decode cX7_setCapacity 39 = .ok (.invokevirtual 52, 3) := by decide +kernel
theorem dX7_setCapacity_42 : decode cX7_setCapacity 42 = .ok (.goto 8, 3) := by decide +kernel
theorem dX7_setCapacity_45 : decode cX7_setCapacity 45 = .ok (.aload_n 0, 1) := by decide +kernel
theorem dX7_setCapacity_46 : decode cX7_setCapacity 46 = .ok (.iconst 2, 1) := by decide +kernel
theorem dX7_setCapacity_47 : decode cX7_setCapacity 47 = .ok (.invokevirtual 48, 3) := by decide +kernel
theorem dX7_setCapacity_50 : decode cX7_setCapacity 50 = .ok (.ireturn, 1) := by decide +kernel
set_option maxRecDepth 20000 in
theorem ggX7_addCar_X7_in : GoodIn wsX7_addCar wsX7_in := goodIn_r _ [7] (by decide +kernel) (by decide +kernel)
set_option maxRecDepth 20000 in
theorem gX7_addCar_X7_in : GoodIn wsX7_addCar (va_wsS RX7 44 yX7_in wsX7_in) := goodIn_app (goodIn_of _ (by decide +kernel)) ggX7_addCar_X7_in
set_option maxRecDepth 20000 in
theorem ggX7_addCar_X7_fails : GoodIn wsX7_addCar wsX7_fails := goodIn_r _ [11, 1, 18, 19, 20, 21, 22, 23, 24, 25, 26, 27, 28] (by decide +kernel) (by decide +kernel)
set_option maxRecDepth 20000 in
theorem gX7_addCar_X7_fails : GoodIn wsX7_addCar (wsV RX7 48 RX7 yX7_fails wsX7_fails) := goodIn_app (goodIn_of _ (by decide +kernel)) ggX7_addCar_X7_fails
set_option maxRecDepth 20000 in
theorem ggX7_addCar_X7_act : GoodIn wsX7_addCar wsX7_act := goodIn_r _ [15, 16, 17, 3, 18, 19, 20, 21, 22, 23, 24, 25, 26, 27, 28] (by decide +kernel) (by decide +kernel)
set_option maxRecDepth 20000 in
theorem gX7_addCar_X7_act : GoodIn wsX7_addCar (wsV RX7 41 RX7 yX7_act wsX7_act) := goodIn_app (goodIn_of _ (by decide +kernel)) ggX7_addCar_X7_act
theorem dX7_addCar_0 : decode cX7_addCar 0 = .ok (.aload_n 0, 1) := by decide +kernel
theorem dX7_addCar_1 : decode cX7_addCar 1 = .ok (.iconst 0, 1) := by decide +kernel
theorem dX7_addCar_2 : decode cX7_addCar 2 = .ok (.putfield 35, 3) := by decide +kernel
theorem dX7_addCar_5 : decode cX7_addCar 5 = .ok (.iload_n 1, 1) := by decide +kernel
theorem dX7_addCar_6 : decode cX7_addCar 6 = .ok (.iconst 0, 1) := by decide +kernel
theorem dX7_addCar_7 : decode cX7_addCar 7 = .ok (.aload_n 0, 1) := by decide +kernel
theorem dX7_addCar_8 : decode cX7_addCar 8 = .ok (.getfield 31, 3) := by decide +kernel
theorem dX7_addCar_11 : decode cX7_addCar 11 = .ok (.iconst 1, 1) := by decide +kernel
theorem dX7_addCar_12 : decode cX7_addCar 12 = .ok (.isub, 1) := by decide +kernel
theorem dX7_addCar_13 : decode cX7_addCar 13 = .ok (.invokestatic 44, 3) := by decide +kernel
theorem dX7_addCar_16 : decode cX7_addCar 16 = .ok (.ifCond .ne 9, 3) := by decide +kernel
theorem dX7_addCar_19 : decode cX7_addCar 19 = .ok (.aload_n 0, 1) := by decide +kernel
theorem dX7_addCar_20 : decode cX7_addCar 20 = .ok (.iconst 1, 1) := by decide +kernel
theorem dX7_addCar_21 : decode cX7_addCar 21 = .ok (.invokevirtual 48, 3) := by decide +kernel
theorem dX7_addCar_24 : decode cX7_addCar 24 = .ok (.ireturn, 1) := by decide +kernel
theorem dX7_addCar_25 : decode cX7_addCar 25 = .ok (.aload_n 0, 1) := by decide +kernel
theorem dX7_addCar_26 : decode cX7_addCar 26 = .ok (.getfield 7, 3) := by decide +kernel
theorem dX7_addCar_29 : decode cX7_addCar 29 = .ok (.iconst 0, 1) := by decide +kernel
theorem dX7_addCar_30 : decode cX7_addCar 30 = .ok (.iaload, 1) := by decide +kernel
theorem dX7_addCar_31 : decode cX7_addCar 31 = .ok (.bipush 9, 2) := by decide +kernel
theorem dX7_addCar_33 : decode cX7_addCar 33 = .ok (.if_icmp .ne 9, 3) := by decide +kernel
theorem dX7_addCar_36 : decode cX7_addCar 36 = .ok (.aload_n 0, 1) := by decide +kernel
theorem dX7_addCar_37 : decode cX7_addCar 37 = .ok (.iconst 2, 1) := by decide +kernel
theorem dX7_addCar_38 : decode cX7_addCar 38 = .ok (.invokevirtual 48, 3) := by decide +kernel
theorem dX7_addCar_41 : decode cX7_addCar 41 = .ok (.ireturn, 1) := by decide +kernel
theorem dX7_addCar_42 : decode cX7_addCar 42 = .ok (.aload_n 0, 1) := by decide +kernel
theorem dX7_addCar_43 : decode cX7_addCar 43 = .ok (.invokevirtual 41, 3) := by decide +kernel
theorem dX7_addCar_46 : decode cX7_addCar 46 = .ok (.aload_n 0, 1) := by decide +kernel
theorem dX7_addCar_47 : decode cX7_addCar 47 = .ok (.getfield 7, 3) := by decide +kernel
theorem dX7_addCar_50 : decode cX7_addCar 50 = .ok (.bipush 12, 2) := by decide +kernel
theorem dX7_addCar_52 : decode cX7_addCar 52 = .ok (.aload_n 0, 1) := by decide +kernel
theorem dX7_addCar_53 : decode cX7_addCar 53 = .ok (.getfield 7, 3) := by decide +kernel
theorem dX7_addCar_56 : decode cX7_addCar 56 = .ok (.iconst 0, 1) := by decide +kernel
theorem dX7_addCar_57 : decode cX7_addCar 57 = .ok (.iaload, 1) := by decide +kernel
theorem dX7_addCar_58 : decode cX7_addCar 58 = .ok (.iadd, 1) := by decide +kernel
theorem dX7_addCar_59 : decode cX7_addCar 59 = .ok (.iload_n 1, 1) := by decide +kernel
theorem dX7_addCar_60 : decode cX7_addCar 60 = .ok (.iastore, 1) := by decide +kernel
theorem dX7_addCar_61 : decode cX7_addCar 61 = .ok (.aload_n 0, 1) := by decide +kernel
theorem dX7_addCar_62 : decode cX7_addCar 62 = .ok (.getfield 7, 3) := by decide +kernel
theorem dX7_addCar_65 : decode cX7_addCar 65 = .ok (.iconst 0, 1) := by decide +kernel
theorem dX7_addCar_66 : decode cX7_addCar 66 = .ok (.dup2, 1) := by decide +kernel
theorem dX7_addCar_67 : decode cX7_addCar 67 = .ok (.iaload, 1) := by decide +kernel
theorem dX7_addCar_68 : decode cX7_addCar 68 = .ok (.iconst 1, 1) := by decide +kernel
theorem dX7_addCar_69 : decode cX7_addCar 69 = .ok (.iadd, 1) := by decide +kernel
theorem dX7_addCar_70 : decode cX7_addCar 70 = .ok (.iastore, 1) := by decide +kernel
theorem dX7_addCar_71 : decode cX7_addCar 71 = .ok (.aload_n 0, 1) := by decide +kernel
theorem dX7_addCar_72 : decode cX7_addCar 72 = .ok (.getfield 7, 3) := by decide +kernel
theorem dX7_addCar_75 : decode cX7_addCar 75 = .ok (.iconst 0, 1) := by decide +kernel
theorem dX7_addCar_76 : decode cX7_addCar 76 = .ok (.iaload, 1) := by decide +kernel
theorem dX7_addCar_77 : decode cX7_addCar 77 = .ok (.iconst 1, 1) := by decide +kernel
theorem dX7_addCar_78 : decode cX7_addCar 78 = .ok (.isub, 1) := by decide +kernel
theorem dX7_addCar_79 : decode cX7_addCar 79 = .ok (.ireturn, 1) := by decide +kernel
set_option maxRecDepth 20000 in
theorem ggX7_setPreference_X7_isCar : GoodIn wsX7_setPreference wsX7_isCar := goodIn_r _ [7, 8, 9, 10, 6, 11, 26, 27, 28, 29, 30, 31, 32, 33, 34, 35, 36] (by decide +kernel) (by decide +kernel)
set_option maxRecDepth 20000 in
theorem gX7_setPreference_X7_isCar : GoodIn wsX7_setPreference (wsV RX7 56 RX7 yX7_isCar wsX7_isCar) := goodIn_app (goodIn_of _ (by decide +kernel)) ggX7_setPreference_X7_isCar
set_option maxRecDepth 20000 in
theorem ggX7_setPreference_X7_fails : GoodIn wsX7_setPreference wsX7_fails := goodIn_r _ [15, 1, 26, 27, 28, 29, 30, 31, 32, 33, 34, 35, 36] (by decide +kernel) (by decide +kernel)
set_option maxRecDepth 20000 in
theorem gX7_setPreference_X7_fails : GoodIn wsX7_setPreference (wsV RX7 48 RX7 yX7_fails wsX7_fails) := goodIn_app (goodIn_of _ (by decide +kernel)) ggX7_setPreference_X7_fails
set_option maxRecDepth 20000 in
theorem ggX7_setPreference_X7_in : GoodIn wsX7_setPreference wsX7_in := goodIn_r _ [11] (by decide +kernel) (by decide +kernel)
set_option maxRecDepth 20000 in
theorem gX7_setPreference_X7_in : GoodIn wsX7_setPreference (va_wsS RX7 44 yX7_in wsX7_in) := goodIn_app (goodIn_of _ (by decide +kernel)) ggX7_setPreference_X7_in
set_option maxRecDepth 20000 in
theorem ggX7_setPreference_X7_sets : GoodIn wsX7_setPreference wsX7_sets := goodIn_r _ [19, 8, 20, 21, 22, 6, 23, 24, 25, 26, 27, 28, 29, 30, 31, 32, 33, 34, 35, 36] (by decide +kernel) (by decide +kernel)
set_option maxRecDepth 20000 in
theorem gX7_setPreference_X7_sets : GoodIn wsX7_setPreference (wsV RX7 52 RX7 yX7_sets wsX7_sets) := goodIn_app (goodIn_of _ (by decide +kernel)) ggX7_setPreference_X7_sets
theorem dX7_setPreference_0 : decode cX7_setPreference 0 = .ok (.aload_n 0, 1) := by decide +kernel
theorem dX7_setPreference_1 : decode cX7_setPreference 1 = .ok (.iconst 0, 1) := by decide +kernel
theorem dX7_setPreference_2 : decode cX7_setPreference 2 = .ok (.putfield 35, 3) := by decide +kernel
theorem dX7_setPreference_5 : decode cX7_setPreference 5 = .ok (.aload_n 0, 1) := by decide +kernel
theorem dX7_setPreference_6 : decode cX7_setPreference 6 = .ok (.iload_n 1, 1) := by decide +kernel
theorem dX7_setPreference_7 : decode cX7_setPreference 7 = .ok (.invokevirtual 56, 3) := by decide +kernel
theorem dX7_setPreference_10 : decode cX7_setPreference 10 = .ok (.ifCond .ne 9, 3) := by decide +kernel
theorem dX7_setPreference_13 : decode cX7_setPreference 13 = .ok (.aload_n 0, 1) := by decide +kernel
theorem dX7_setPreference_14 : decode cX7_setPreference 14 = .ok (.iconst 1, 1) := by decide +kernel
theorem dX7_setPreference_15 : decode cX7_setPreference 15 = .ok (.invokevirtual 48, 3) := by decide +kernel
theorem dX7_setPreference_18 : decode cX7_setPreference 18 = .ok (.ireturn, 1) := by decide +kernel
theorem dX7_setPreference_19 : decode cX7_setPreference 19 = .ok (.iload_n 2, 1) := by decide +kernel
theorem dX7_setPreference_20 : decode cX7_setPreference 20 = .ok (.iconst 0, 1) := by decide +kernel
theorem dX7_setPreference_21 : decode cX7_setPreference 21 = .ok (.aload_n 0, 1) := by decide +kernel
theorem dX7_setPreference_22 : decode cX7_setPreference 22 = .ok (.getfield 31, 3) := by decide +kernel
theorem dX7_setPreference_25 : decode cX7_setPreference 25 = .ok (.iconst 1, 1) := by decide +kernel
theorem dX7_setPreference_26 : decode cX7_setPreference 26 = .ok (.isub, 1) := by decide +kernel
theorem dX7_setPreference_27 : decode cX7_setPreference 27 = .ok (.invokestatic 44, 3) := by decide +kernel
theorem dX7_setPreference_30 : decode cX7_setPreference 30 = .ok (.ifCond .eq 15, 3) := by decide +kernel
theorem dX7_setPreference_33 : decode cX7_setPreference 33 = .ok (.aload_n 0, 1) := by decide +kernel
theorem dX7_setPreference_34 : decode cX7_setPreference 34 = .ok (.bipush 12, 2) := by decide +kernel
theorem dX7_setPreference_36 : decode cX7_setPreference 36 = .ok (.iload_n 1, 1) := by decide +kernel
theorem dX7_setPreference_37 : decode cX7_setPreference 37 = .ok (.iadd, 1) := by decide +kernel
theorem dX7_setPreference_38 : decode cX7_setPreference 38 = .ok (.iload_n 2, 1) := by decide +kernel
theorem dX7_setPreference_39 : decode cX7_setPreference 39 = .ok (.invokevirtual 52, 3) := by decide +kernel
theorem dX7_setPreference_42 : decode cX7_setPreference 42 = .ok (.goto 8, 3) := by decide +kernel
theorem dX7_setPreference_45 : decode cX7_setPreference 45 = .ok (.aload_n 0, 1) := by decide +kernel
theorem dX7_setPreference_46 : decode cX7_setPreference 46 = .ok (.iconst 2, 1) := by decide +kernel
theorem dX7_setPreference_47 : decode cX7_setPreference 47 = .ok (.invokevirtual 48, 3) := by decide +kernel
theorem dX7_setPreference_50 : decode cX7_setPreference 50 = .ok (.ireturn, 1) := by decide +kernel
set_option maxRecDepth 20000 in
theorem ggX7_removeCar_X7_fails : GoodIn wsX7_removeCar wsX7_fails := goodIn_r _ [7, 1, 14, 15, 16, 17, 18, 19, 20, 21, 22, 23, 24] (by decide +kernel) (by decide +kernel)
set_option maxRecDepth 20000 in
theorem gX7_removeCar_X7_fails : GoodIn wsX7_removeCar (wsV RX7 48 RX7 yX7_fails wsX7_fails) := goodIn_app (goodIn_of _ (by decide +kernel)) ggX7_removeCar_X7_fails
set_option maxRecDepth 20000 in
theorem ggX7_removeCar_X7_act : GoodIn wsX7_removeCar wsX7_act := goodIn_r _ [11, 12, 13, 2, 14, 15, 16, 17, 18, 19, 20, 21, 22, 23, 24] (by decide +kernel) (by decide +kernel)
set_option maxRecDepth 20000 in
theorem gX7_removeCar_X7_act : GoodIn wsX7_removeCar (wsV RX7 41 RX7 yX7_act wsX7_act) := goodIn_app (goodIn_of _ (by decide +kernel)) ggX7_removeCar_X7_act
theorem dX7_removeCar_0 : decode cX7_removeCar 0 = .ok (.aload_n 0, 1) := by decide +kernel
theorem dX7_removeCar_1 : decode cX7_removeCar 1 = .ok (.iconst 0, 1) := by decide +kernel
theorem dX7_removeCar_2 : decode cX7_removeCar 2 = .ok (.putfield 35, 3) := by decide +kernel
theorem dX7_removeCar_5 : decode cX7_removeCar 5 = .ok (.aload_n 0, 1) := by decide +kernel
theorem dX7_removeCar_6 : decode cX7_removeCar 6 = .ok (.getfield 7, 3) := by decide +kernel
theorem dX7_removeCar_9 : decode cX7_removeCar 9 = .ok (.iconst 0, 1) := by decide +kernel
theorem dX7_removeCar_10 : decode cX7_removeCar 10 = .ok (.iaload, 1) := by decide +kernel
theorem dX7_removeCar_11 : decode cX7_removeCar 11 = .ok (.ifCond .ne 9, 3) := by decide +kernel
theorem dX7_removeCar_14 : decode cX7_removeCar 14 = .ok (.aload_n 0, 1) := by decide +kernel
theorem dX7_removeCar_15 : decode cX7_removeCar 15 = .ok (.iconst 1, 1) := by decide +kernel
theorem dX7_removeCar_16 : decode cX7_removeCar 16 = .ok (.invokevirtual 48, 3) := by decide +kernel
theorem dX7_removeCar_19 : decode cX7_removeCar 19 = .ok (.ireturn, 1) := by decide +kernel
theorem dX7_removeCar_20 : decode cX7_removeCar 20 = .ok (.aload_n 0, 1) := by decide +kernel
theorem dX7_removeCar_21 : decode cX7_removeCar 21 = .ok (.invokevirtual 41, 3) := by decide +kernel
theorem dX7_removeCar_24 : decode cX7_removeCar 24 = .ok (.aload_n 0, 1) := by decide +kernel
theorem dX7_removeCar_25 : decode cX7_removeCar 25 = .ok (.getfield 7, 3) := by decide +kernel
theorem dX7_removeCar_28 : decode cX7_removeCar 28 = .ok (.iconst 0, 1) := by decide +kernel
theorem dX7_removeCar_29 : decode cX7_removeCar 29 = .ok (.dup2, 1) := by decide +kernel
theorem dX7_removeCar_30 : decode cX7_removeCar 30 = .ok (.iaload, 1) := by decide +kernel
theorem dX7_removeCar_31 : decode cX7_removeCar 31 = .ok (.iconst 1, 1) := by decide +kernel
theorem dX7_removeCar_32 : decode cX7_removeCar 32 = .ok (.isub, 1) := by decide +kernel
theorem dX7_removeCar_33 : decode cX7_removeCar 33 = .ok (.iastore, 1) := by decide +kernel
theorem dX7_removeCar_34 : decode cX7_removeCar 34 = .ok (.aload_n 0, 1) := by decide +kernel
theorem dX7_removeCar_35 : decode cX7_removeCar 35 = .ok (.getfield 7, 3) := by decide +kernel
theorem dX7_removeCar_38 : decode cX7_removeCar 38 = .ok (.iconst 0, 1) := by decide +kernel
theorem dX7_removeCar_39 : decode cX7_removeCar 39 = .ok (.iaload, 1) := by decide +kernel
theorem dX7_removeCar_40 : decode cX7_removeCar 40 = .ok (.ireturn, 1) := by decide +kernel
set_option maxRecDepth 20000 in
theorem ggX7_clearCars_X7_sets : GoodIn wsX7_clearCars wsX7_sets := goodIn_r _ [6, 7, 8, 9, 10, 5, 11, 12, 13, 14, 15, 16, 17, 18, 19, 20, 21, 22, 23, 24] (by decide +kernel) (by decide +kernel)
set_option maxRecDepth 20000 in
theorem gX7_clearCars_X7_sets : GoodIn wsX7_clearCars (wsV RX7 52 RX7 yX7_sets wsX7_sets) := goodIn_app (goodIn_of _ (by decide +kernel)) ggX7_clearCars_X7_sets
theorem dX7_clearCars_0 : decode cX7_clearCars 0 = .ok (.aload_n 0, 1) := by decide +kernel
theorem dX7_clearCars_1 : decode cX7_clearCars 1 = .ok (.iconst 0, 1) := by decide +kernel
theorem dX7_clearCars_2 : decode cX7_clearCars 2 = .ok (.putfield 35, 3) := by decide +kernel
theorem dX7_clearCars_5 : decode cX7_clearCars 5 = .ok (.aload_n 0, 1) := by decide +kernel
theorem dX7_clearCars_6 : decode cX7_clearCars 6 = .ok (.iconst 0, 1) := by decide +kernel
theorem dX7_clearCars_7 : decode cX7_clearCars 7 = .ok (.iconst 0, 1) := by decide +kernel
theorem dX7_clearCars_8 : decode cX7_clearCars 8 = .ok (.invokevirtual 52, 3) := by decide +kernel
theorem dX7_clearCars_11 : decode cX7_clearCars 11 = .ok (.ireturn, 1) := by decide +kernel
theorem dX7_cars_0 : decode cX7_cars 0 = .ok (.aload_n 0, 1) := by decide +kernel
theorem dX7_cars_1 : decode cX7_cars 1 = .ok (.iconst 0, 1) := by decide +kernel
theorem dX7_cars_2 : decode cX7_cars 2 = .ok (.putfield 35, 3) := by decide +kernel
theorem dX7_cars_5 : decode cX7_cars 5 = .ok (.aload_n 0, 1) := by decide +kernel
theorem dX7_cars_6 : decode cX7_cars 6 = .ok (.getfield 7, 3) := by decide +kernel
theorem dX7_cars_9 : decode cX7_cars 9 = .ok (.iconst 0, 1) := by decide +kernel
theorem dX7_cars_10 : decode cX7_cars 10 = .ok (.iaload, 1) := by decide +kernel
theorem dX7_cars_11 : decode cX7_cars 11 = .ok (.ireturn, 1) := by decide +kernel
set_option maxRecDepth 20000 in
theorem ggX7_preference_X7_isCar : GoodIn wsX7_preference wsX7_isCar := goodIn_r _ [7, 2, 8, 9, 6, 10, 15, 16, 17, 18, 19, 20, 21, 22, 23, 24, 25] (by decide +kernel) (by decide +kernel)
set_option maxRecDepth 20000 in
theorem gX7_preference_X7_isCar : GoodIn wsX7_preference (wsV RX7 56 RX7 yX7_isCar wsX7_isCar) := goodIn_app (goodIn_of _ (by decide +kernel)) ggX7_preference_X7_isCar
set_option maxRecDepth 20000 in
theorem ggX7_preference_X7_fails : GoodIn wsX7_preference wsX7_fails := goodIn_r _ [14, 1, 15, 16, 17, 18, 19, 20, 21, 22, 23, 24, 25] (by decide +kernel) (by decide +kernel)
set_option maxRecDepth 20000 in
theorem gX7_preference_X7_fails : GoodIn wsX7_preference (wsV RX7 48 RX7 yX7_fails wsX7_fails) := goodIn_app (goodIn_of _ (by decide +kernel)) ggX7_preference_X7_fails
theorem dX7_preference_0 : decode cX7_preference 0 = .ok (.aload_n 0, 1) := by decide +kernel
theorem dX7_preference_1 : decode cX7_preference 1 = .ok (.iconst 0, 1) := by decide +kernel
theorem dX7_preference_2 : decode cX7_preference 2 = .ok (.putfield 35, 3) := by decide +kernel
theorem dX7_preference_5 : decode cX7_preference 5 = .ok (.aload_n 0, 1) := by decide +kernel
theorem dX7_preference_6 : decode cX7_preference 6 = .ok (.iload_n 1, 1) := by decide +kernel
theorem dX7_preference_7 : decode cX7_preference 7 = .ok (.invokevirtual 56, 3) := by decide +kernel
theorem dX7_preference_10 : decode cX7_preference 10 = .ok (.ifCond .eq 15, 3) := by decide +kernel
theorem dX7_preference_13 : decode cX7_preference 13 = .ok (.aload_n 0, 1) := by decide +kernel
theorem dX7_preference_14 : decode cX7_preference 14 = .ok (.getfield 7, 3) := by decide +kernel
theorem dX7_preference_17 : decode cX7_preference 17 = .ok (.bipush 12, 2) := by decide +kernel
theorem dX7_preference_19 : decode cX7_preference 19 = .ok (.iload_n 1, 1) := by decide +kernel
theorem dX7_preference_20 : decode cX7_preference 20 = .ok (.iadd, 1) := by decide +kernel
theorem dX7_preference_21 : decode cX7_preference 21 = .ok (.iaload, 1) := by decide +kernel
theorem dX7_preference_22 : decode cX7_preference 22 = .ok (.goto 8, 3) := by decide +kernel
theorem dX7_preference_25 : decode cX7_preference 25 = .ok (.aload_n 0, 1) := by decide +kernel
theorem dX7_preference_26 : decode cX7_preference 26 = .ok (.iconst 1, 1) := by decide +kernel
theorem dX7_preference_27 : decode cX7_preference 27 = .ok (.invokevirtual 48, 3) := by decide +kernel
theorem dX7_preference_30 : decode cX7_preference 30 = .ok (.ireturn, 1) := by decide +kernel
theorem dX7_placeOf_0 : decode cX7_placeOf 0 = .ok (.aload_n 0, 1) := by decide +kernel
theorem dX7_placeOf_1 : decode cX7_placeOf 1 = .ok (.getfield 7, 3) := by decide +kernel
theorem dX7_placeOf_4 : decode cX7_placeOf 4 = .ok (.iconst 2, 1) := by decide +kernel
theorem dX7_placeOf_5 : decode cX7_placeOf 5 = .ok (.iaload, 1) := by decide +kernel
theorem dX7_placeOf_6 : decode cX7_placeOf 6 = .ok (.istore_n 3, 1) := by decide +kernel
theorem dX7_placeOf_7 : decode cX7_placeOf 7 = .ok (.aload_n 0, 1) := by decide +kernel
theorem dX7_placeOf_8 : decode cX7_placeOf 8 = .ok (.getfield 7, 3) := by decide +kernel
theorem dX7_placeOf_11 : decode cX7_placeOf 11 = .ok (.iconst 1, 1) := by decide +kernel
theorem dX7_placeOf_12 : decode cX7_placeOf 12 = .ok (.iaload, 1) := by decide +kernel
theorem dX7_placeOf_13 : decode cX7_placeOf 13 = .ok (.tableswitch 94 0 2 #[27, 46, 80], 27) := by decide +kernel
theorem dX7_placeOf_40 : decode cX7_placeOf 40 = .ok (.iload_n 1, 1) := by decide +kernel
theorem dX7_placeOf_41 : decode cX7_placeOf 41 = .ok (.iload_n 2, 1) := by decide +kernel
theorem dX7_placeOf_42 : decode cX7_placeOf 42 = .ok (.iadd, 1) := by decide +kernel
theorem dX7_placeOf_43 : decode cX7_placeOf 43 = .ok (.aload_n 0, 1) := by decide +kernel
theorem dX7_placeOf_44 : decode cX7_placeOf 44 = .ok (.getfield 31, 3) := by decide +kernel
theorem dX7_placeOf_47 : decode cX7_placeOf 47 = .ok (.if_icmp .ge 9, 3) := by decide +kernel
theorem dX7_placeOf_50 : decode cX7_placeOf 50 = .ok (.iload_n 1, 1) := by decide +kernel
theorem dX7_placeOf_51 : decode cX7_placeOf 51 = .ok (.iload_n 2, 1) := by decide +kernel
theorem dX7_placeOf_52 : decode cX7_placeOf 52 = .ok (.iadd, 1) := by decide +kernel
theorem dX7_placeOf_53 : decode cX7_placeOf 53 = .ok (.goto 5, 3) := by decide +kernel
theorem dX7_placeOf_56 : decode cX7_placeOf 56 = .ok (.bipush (-99), 2) := by decide +kernel
theorem dX7_placeOf_58 : decode cX7_placeOf 58 = .ok (.ireturn, 1) := by decide +kernel
theorem dX7_placeOf_59 : decode cX7_placeOf 59 = .ok (.iload_n 2, 1) := by decide +kernel
theorem dX7_placeOf_60 : decode cX7_placeOf 60 = .ok (.iload_n 3, 1) := by decide +kernel
theorem dX7_placeOf_61 : decode cX7_placeOf 61 = .ok (.if_icmp .gt 9, 3) := by decide +kernel
theorem dX7_placeOf_64 : decode cX7_placeOf 64 = .ok (.iload_n 1, 1) := by decide +kernel
theorem dX7_placeOf_65 : decode cX7_placeOf 65 = .ok (.iload_n 2, 1) := by decide +kernel
theorem dX7_placeOf_66 : decode cX7_placeOf 66 = .ok (.isub, 1) := by decide +kernel
theorem dX7_placeOf_67 : decode cX7_placeOf 67 = .ok (.goto 25, 3) := by decide +kernel
theorem dX7_placeOf_70 : decode cX7_placeOf 70 = .ok (.iload_n 1, 1) := by decide +kernel
theorem dX7_placeOf_71 : decode cX7_placeOf 71 = .ok (.iload_n 2, 1) := by decide +kernel
theorem dX7_placeOf_72 : decode cX7_placeOf 72 = .ok (.iadd, 1) := by decide +kernel
theorem dX7_placeOf_73 : decode cX7_placeOf 73 = .ok (.iload_n 3, 1) := by decide +kernel
theorem dX7_placeOf_74 : decode cX7_placeOf 74 = .ok (.isub, 1) := by decide +kernel
theorem dX7_placeOf_75 : decode cX7_placeOf 75 = .ok (.aload_n 0, 1) := by decide +kernel
theorem dX7_placeOf_76 : decode cX7_placeOf 76 = .ok (.getfield 31, 3) := by decide +kernel
theorem dX7_placeOf_79 : decode cX7_placeOf 79 = .ok (.if_icmp .ge 11, 3) := by decide +kernel
theorem dX7_placeOf_82 : decode cX7_placeOf 82 = .ok (.iload_n 1, 1) := by decide +kernel
theorem dX7_placeOf_83 : decode cX7_placeOf 83 = .ok (.iload_n 2, 1) := by decide +kernel
theorem dX7_placeOf_84 : decode cX7_placeOf 84 = .ok (.iadd, 1) := by decide +kernel
theorem dX7_placeOf_85 : decode cX7_placeOf 85 = .ok (.iload_n 3, 1) := by decide +kernel
theorem dX7_placeOf_86 : decode cX7_placeOf 86 = .ok (.isub, 1) := by decide +kernel
theorem dX7_placeOf_87 : decode cX7_placeOf 87 = .ok (.goto 5, 3) := by decide +kernel
theorem dX7_placeOf_90 : decode cX7_placeOf 90 = .ok (.bipush (-99), 2) := by decide +kernel
theorem dX7_placeOf_92 : decode cX7_placeOf 92 = .ok (.ireturn, 1) := by decide +kernel
theorem dX7_placeOf_93 : decode cX7_placeOf 93 = .ok (.iload_n 2, 1) := by decide +kernel
theorem dX7_placeOf_94 : decode cX7_placeOf 94 = .ok (.iload_n 3, 1) := by decide +kernel
theorem dX7_placeOf_95 : decode cX7_placeOf 95 = .ok (.if_icmp .gt 9, 3) := by decide +kernel
theorem dX7_placeOf_98 : decode cX7_placeOf 98 = .ok (.iload_n 1, 1) := by decide +kernel
theorem dX7_placeOf_99 : decode cX7_placeOf 99 = .ok (.iload_n 2, 1) := by decide +kernel
theorem dX7_placeOf_100 : decode cX7_placeOf 100 = .ok (.iadd, 1) := by decide +kernel
theorem dX7_placeOf_101 : decode cX7_placeOf 101 = .ok (.goto 5, 3) := by decide +kernel
theorem dX7_placeOf_104 : decode cX7_placeOf 104 = .ok (.bipush (-99), 2) := by decide +kernel
theorem dX7_placeOf_106 : decode cX7_placeOf 106 = .ok (.ireturn, 1) := by decide +kernel
theorem dX7_placeOf_107 : decode cX7_placeOf 107 = .ok (.iload_n 2, 1) := by decide +kernel
theorem dX7_placeOf_108 : decode cX7_placeOf 108 = .ok (.iconst 2, 1) := by decide +kernel
theorem dX7_placeOf_109 : decode cX7_placeOf 109 = .ok (.iload_n 3, 1) := by decide +kernel
theorem dX7_placeOf_110 : decode cX7_placeOf 110 = .ok (.imul, 1) := by decide +kernel
theorem dX7_placeOf_111 : decode cX7_placeOf 111 = .ok (.if_icmp .le 8, 3) := by decide +kernel
theorem dX7_placeOf_114 : decode cX7_placeOf 114 = .ok (.bipush (-99), 2) := by decide +kernel
theorem dX7_placeOf_116 : decode cX7_placeOf 116 = .ok (.goto 25, 3) := by decide +kernel
theorem dX7_placeOf_119 : decode cX7_placeOf 119 = .ok (.iload_n 2, 1) := by decide +kernel
theorem dX7_placeOf_120 : decode cX7_placeOf 120 = .ok (.iconst 2, 1) := by decide +kernel
theorem dX7_placeOf_121 : decode cX7_placeOf 121 = .ok (.irem, 1) := by decide +kernel
theorem dX7_placeOf_122 : decode cX7_placeOf 122 = .ok (.iconst 1, 1) := by decide +kernel
theorem dX7_placeOf_123 : decode cX7_placeOf 123 = .ok (.if_icmp .ne 13, 3) := by decide +kernel
theorem dX7_placeOf_126 : decode cX7_placeOf 126 = .ok (.iload_n 1, 1) := by decide +kernel
theorem dX7_placeOf_127 : decode cX7_placeOf 127 = .ok (.iload_n 2, 1) := by decide +kernel
theorem dX7_placeOf_128 : decode cX7_placeOf 128 = .ok (.iconst 1, 1) := by decide +kernel
theorem dX7_placeOf_129 : decode cX7_placeOf 129 = .ok (.iadd, 1) := by decide +kernel
theorem dX7_placeOf_130 : decode cX7_placeOf 130 = .ok (.iconst 2, 1) := by decide +kernel
theorem dX7_placeOf_131 : decode cX7_placeOf 131 = .ok (.idiv, 1) := by decide +kernel
theorem dX7_placeOf_132 : decode cX7_placeOf 132 = .ok (.isub, 1) := by decide +kernel
theorem dX7_placeOf_133 : decode cX7_placeOf 133 = .ok (.goto 8, 3) := by decide +kernel
theorem dX7_placeOf_136 : decode cX7_placeOf 136 = .ok (.iload_n 1, 1) := by decide +kernel
theorem dX7_placeOf_137 : decode cX7_placeOf 137 = .ok (.iload_n 2, 1) := by decide +kernel
theorem dX7_placeOf_138 : decode cX7_placeOf 138 = .ok (.iconst 2, 1) := by decide +kernel
theorem dX7_placeOf_139 : decode cX7_placeOf 139 = .ok (.idiv, 1) := by decide +kernel
theorem dX7_placeOf_140 : decode cX7_placeOf 140 = .ok (.iadd, 1) := by decide +kernel
theorem dX7_placeOf_141 : decode cX7_placeOf 141 = .ok (.ireturn, 1) := by decide +kernel
set_option maxRecDepth 20000 in
theorem ggX7_parks_X7_placeOf : GoodIn wsX7_parks wsX7_placeOf := goodIn_r _ [11, 6, 4, 15, 16, 17, 18, 19, 20, 21, 22, 23, 24, 25] (by decide +kernel) (by decide +kernel)
set_option maxRecDepth 20000 in
theorem gX7_parks_X7_placeOf : GoodIn wsX7_parks (wsV RX7 60 RX7 yX7_placeOf wsX7_placeOf) := goodIn_app (goodIn_of _ (by decide +kernel)) ggX7_parks_X7_placeOf
set_option maxRecDepth 20000 in
theorem ggX7_parks_X7_in : GoodIn wsX7_parks wsX7_in := goodIn_r _ [14] (by decide +kernel) (by decide +kernel)
set_option maxRecDepth 20000 in
theorem gX7_parks_X7_in : GoodIn wsX7_parks (va_wsS RX7 44 yX7_in wsX7_in) := goodIn_app (goodIn_of _ (by decide +kernel)) ggX7_parks_X7_in
theorem dX7_parks_0 : decode cX7_parks 0 = .ok (.aload_n 0, 1) := by decide +kernel
theorem dX7_parks_1 : decode cX7_parks 1 = .ok (.getfield 19, 3) := by decide +kernel
theorem dX7_parks_4 : decode cX7_parks 4 = .ok (.iload_n 1, 1) := by decide +kernel
theorem dX7_parks_5 : decode cX7_parks 5 = .ok (.iconst (-1), 1) := by decide +kernel
theorem dX7_parks_6 : decode cX7_parks 6 = .ok (.iastore, 1) := by decide +kernel
theorem dX7_parks_7 : decode cX7_parks 7 = .ok (.aload_n 0, 1) := by decide +kernel
theorem dX7_parks_8 : decode cX7_parks 8 = .ok (.getfield 22, 3) := by decide +kernel
theorem dX7_parks_11 : decode cX7_parks 11 = .ok (.iload_n 1, 1) := by decide +kernel
theorem dX7_parks_12 : decode cX7_parks 12 = .ok (.iconst 0, 1) := by decide +kernel
theorem dX7_parks_13 : decode cX7_parks 13 = .ok (.iastore, 1) := by decide +kernel
theorem dX7_parks_14 : decode cX7_parks 14 = .ok (.aload_n 0, 1) := by decide +kernel
theorem dX7_parks_15 : decode cX7_parks 15 = .ok (.getfield 16, 3) := by decide +kernel
theorem dX7_parks_18 : decode cX7_parks 18 = .ok (.iload_n 1, 1) := by decide +kernel
theorem dX7_parks_19 : decode cX7_parks 19 = .ok (.iaload, 1) := by decide +kernel
theorem dX7_parks_20 : decode cX7_parks 20 = .ok (.istore_n 2, 1) := by decide +kernel
theorem dX7_parks_21 : decode cX7_parks 21 = .ok (.iconst 0, 1) := by decide +kernel
theorem dX7_parks_22 : decode cX7_parks 22 = .ok (.istore_n 3, 1) := by decide +kernel
theorem dX7_parks_23 : decode cX7_parks 23 = .ok (.aload_n 0, 1) := by decide +kernel
theorem dX7_parks_24 : decode cX7_parks 24 = .ok (.getfield 19, 3) := by decide +kernel
theorem dX7_parks_27 : decode cX7_parks 27 = .ok (.iload_n 1, 1) := by decide +kernel
theorem dX7_parks_28 : decode cX7_parks 28 = .ok (.iaload, 1) := by decide +kernel
theorem dX7_parks_29 : decode cX7_parks 29 = .ok (.ifCond .ge 88, 3) := by decide +kernel
theorem dX7_parks_32 : decode cX7_parks 32 = .ok (.aload_n 0, 1) := by decide +kernel
theorem dX7_parks_33 : decode cX7_parks 33 = .ok (.iload_n 2, 1) := by decide +kernel
theorem dX7_parks_34 : decode cX7_parks 34 = .ok (.iload_n 3, 1) := by decide +kernel
theorem dX7_parks_35 : decode cX7_parks 35 = .ok (.invokevirtual 60, 3) := by decide +kernel
theorem dX7_parks_38 : decode cX7_parks 38 = .ok (.istore 4, 2) := by decide +kernel
theorem dX7_parks_40 : decode cX7_parks 40 = .ok (.iload 4, 2) := by decide +kernel
theorem dX7_parks_42 : decode cX7_parks 42 = .ok (.bipush (-90), 2) := by decide +kernel
theorem dX7_parks_44 : decode cX7_parks 44 = .ok (.if_icmp .ge 4, 3) := by decide +kernel
theorem dX7_parks_47 : decode cX7_parks 47 = .ok (.return_, 1) := by decide +kernel
theorem dX7_parks_48 : decode cX7_parks 48 = .ok (.iload 4, 2) := by decide +kernel
theorem dX7_parks_50 : decode cX7_parks 50 = .ok (.iconst 0, 1) := by decide +kernel
theorem dX7_parks_51 : decode cX7_parks 51 = .ok (.aload_n 0, 1) := by decide +kernel
theorem dX7_parks_52 : decode cX7_parks 52 = .ok (.getfield 31, 3) := by decide +kernel
theorem dX7_parks_55 : decode cX7_parks 55 = .ok (.iconst 1, 1) := by decide +kernel
theorem dX7_parks_56 : decode cX7_parks 56 = .ok (.isub, 1) := by decide +kernel
theorem dX7_parks_57 : decode cX7_parks 57 = .ok (.invokestatic 44, 3) := by decide +kernel
theorem dX7_parks_60 : decode cX7_parks 60 = .ok (.ifCond .eq 51, 3) := by decide +kernel
theorem dX7_parks_63 : decode cX7_parks 63 = .ok (.aload_n 0, 1) := by decide +kernel
theorem dX7_parks_64 : decode cX7_parks 64 = .ok (.getfield 22, 3) := by decide +kernel
theorem dX7_parks_67 : decode cX7_parks 67 = .ok (.iload_n 1, 1) := by decide +kernel
theorem dX7_parks_68 : decode cX7_parks 68 = .ok (.dup2, 1) := by decide +kernel
theorem dX7_parks_69 : decode cX7_parks 69 = .ok (.iaload, 1) := by decide +kernel
theorem dX7_parks_70 : decode cX7_parks 70 = .ok (.iconst 1, 1) := by decide +kernel
theorem dX7_parks_71 : decode cX7_parks 71 = .ok (.iadd, 1) := by decide +kernel
theorem dX7_parks_72 : decode cX7_parks 72 = .ok (.iastore, 1) := by decide +kernel
theorem dX7_parks_73 : decode cX7_parks 73 = .ok (.aload_n 0, 1) := by decide +kernel
theorem dX7_parks_74 : decode cX7_parks 74 = .ok (.getfield 25, 3) := by decide +kernel
theorem dX7_parks_77 : decode cX7_parks 77 = .ok (.iload 4, 2) := by decide +kernel
theorem dX7_parks_79 : decode cX7_parks 79 = .ok (.iaload, 1) := by decide +kernel
theorem dX7_parks_80 : decode cX7_parks 80 = .ok (.aload_n 0, 1) := by decide +kernel
theorem dX7_parks_81 : decode cX7_parks 81 = .ok (.getfield 7, 3) := by decide +kernel
theorem dX7_parks_84 : decode cX7_parks 84 = .ok (.iconst 3, 1) := by decide +kernel
theorem dX7_parks_85 : decode cX7_parks 85 = .ok (.iload 4, 2) := by decide +kernel
theorem dX7_parks_87 : decode cX7_parks 87 = .ok (.iadd, 1) := by decide +kernel
theorem dX7_parks_88 : decode cX7_parks 88 = .ok (.iaload, 1) := by decide +kernel
theorem dX7_parks_89 : decode cX7_parks 89 = .ok (.if_icmp .ge 22, 3) := by decide +kernel
theorem dX7_parks_92 : decode cX7_parks 92 = .ok (.aload_n 0, 1) := by decide +kernel
theorem dX7_parks_93 : decode cX7_parks 93 = .ok (.getfield 25, 3) := by decide +kernel
theorem dX7_parks_96 : decode cX7_parks 96 = .ok (.iload 4, 2) := by decide +kernel
theorem dX7_parks_98 : decode cX7_parks 98 = .ok (.dup2, 1) := by decide +kernel
theorem dX7_parks_99 : decode cX7_parks 99 = .ok (.iaload, 1) := by decide +kernel
theorem dX7_parks_100 : decode cX7_parks 100 = .ok (.iconst 1, 1) := by decide +kernel
theorem dX7_parks_101 : decode cX7_parks 101 = .ok (.iadd, 1) := by decide +kernel
theorem dX7_parks_102 : decode cX7_parks 102 = .ok (.iastore, 1) := by decide +kernel
theorem dX7_parks_103 : decode cX7_parks 103 = .ok (.aload_n 0, 1) := by decide +kernel
theorem dX7_parks_104 : decode cX7_parks 104 = .ok (.getfield 19, 3) := by decide +kernel
theorem dX7_parks_107 : decode cX7_parks 107 = .ok (.iload_n 1, 1) := by decide +kernel
theorem dX7_parks_108 : decode cX7_parks 108 = .ok (.iload 4, 2) := by decide +kernel
theorem dX7_parks_110 : decode cX7_parks 110 = .ok (.iastore, 1) := by decide +kernel
theorem dX7_parks_111 : decode cX7_parks 111 = .ok (.iinc 3 1, 3) := by decide +kernel
theorem dX7_parks_114 : decode cX7_parks 114 = .ok (.goto (-91), 3) := by decide +kernel
theorem dX7_parks_117 : decode cX7_parks 117 = .ok (.return_, 1) := by decide +kernel
set_option maxRecDepth 20000 in
theorem ggX7_parksAll_X7_parks : GoodIn wsX7_parksAll wsX7_parks := goodIn_r _ [8, 3, 9, 10, 1, 2, 11, 12, 13, 14, 7, 15, 16, 17, 18, 19, 20, 21, 22, 23, 24, 25, 26, 27, 28, 29] (by decide +kernel) (by decide +kernel)
set_option maxRecDepth 20000 in
theorem gX7_parksAll_X7_parks : GoodIn wsX7_parksAll (wsV RX7 63 RX7 yX7_parks wsX7_parks) := goodIn_app (goodIn_of _ (by decide +kernel)) ggX7_parksAll_X7_parks
theorem dX7_parksAll_0 : decode cX7_parksAll 0 = .ok (.iconst 0, 1) := by decide +kernel
theorem dX7_parksAll_1 : decode cX7_parksAll 1 = .ok (.istore_n 2, 1) := by decide +kernel
theorem dX7_parksAll_2 : decode cX7_parksAll 2 = .ok (.iload_n 2, 1) := by decide +kernel
theorem dX7_parksAll_3 : decode cX7_parksAll 3 = .ok (.aload_n 0, 1) := by decide +kernel
theorem dX7_parksAll_4 : decode cX7_parksAll 4 = .ok (.getfield 31, 3) := by decide +kernel
theorem dX7_parksAll_7 : decode cX7_parksAll 7 = .ok (.if_icmp .ge 16, 3) := by decide +kernel
theorem dX7_parksAll_10 : decode cX7_parksAll 10 = .ok (.aload_n 0, 1) := by decide +kernel
theorem dX7_parksAll_11 : decode cX7_parksAll 11 = .ok (.getfield 25, 3) := by decide +kernel
theorem dX7_parksAll_14 : decode cX7_parksAll 14 = .ok (.iload_n 2, 1) := by decide +kernel
theorem dX7_parksAll_15 : decode cX7_parksAll 15 = .ok (.iconst 0, 1) := by decide +kernel
theorem dX7_parksAll_16 : decode cX7_parksAll 16 = .ok (.iastore, 1) := by decide +kernel
theorem dX7_parksAll_17 : decode cX7_parksAll 17 = .ok (.iinc 2 1, 3) := by decide +kernel
theorem dX7_parksAll_20 : decode cX7_parksAll 20 = .ok (.goto (-18), 3) := by decide +kernel
theorem dX7_parksAll_23 : decode cX7_parksAll 23 = .ok (.iconst 0, 1) := by decide +kernel
theorem dX7_parksAll_24 : decode cX7_parksAll 24 = .ok (.istore_n 2, 1) := by decide +kernel
theorem dX7_parksAll_25 : decode cX7_parksAll 25 = .ok (.iconst 0, 1) := by decide +kernel
theorem dX7_parksAll_26 : decode cX7_parksAll 26 = .ok (.istore_n 3, 1) := by decide +kernel
theorem dX7_parksAll_27 : decode cX7_parksAll 27 = .ok (.iload_n 3, 1) := by decide +kernel
theorem dX7_parksAll_28 : decode cX7_parksAll 28 = .ok (.iload_n 1, 1) := by decide +kernel
theorem dX7_parksAll_29 : decode cX7_parksAll 29 = .ok (.if_icmp .ge 31, 3) := by decide +kernel
theorem dX7_parksAll_32 : decode cX7_parksAll 32 = .ok (.aload_n 0, 1) := by decide +kernel
theorem dX7_parksAll_33 : decode cX7_parksAll 33 = .ok (.iload_n 3, 1) := by decide +kernel
theorem dX7_parksAll_34 : decode cX7_parksAll 34 = .ok (.invokevirtual 63, 3) := by decide +kernel
theorem dX7_parksAll_37 : decode cX7_parksAll 37 = .ok (.iload_n 2, 1) := by decide +kernel
theorem dX7_parksAll_38 : decode cX7_parksAll 38 = .ok (.aload_n 0, 1) := by decide +kernel
theorem dX7_parksAll_39 : decode cX7_parksAll 39 = .ok (.getfield 19, 3) := by decide +kernel
theorem dX7_parksAll_42 : decode cX7_parksAll 42 = .ok (.iload_n 3, 1) := by decide +kernel
theorem dX7_parksAll_43 : decode cX7_parksAll 43 = .ok (.iaload, 1) := by decide +kernel
theorem dX7_parksAll_44 : decode cX7_parksAll 44 = .ok (.ifCond .ge 7, 3) := by decide +kernel
theorem dX7_parksAll_47 : decode cX7_parksAll 47 = .ok (.iconst 1, 1) := by decide +kernel
theorem dX7_parksAll_48 : decode cX7_parksAll 48 = .ok (.goto 4, 3) := by decide +kernel
theorem dX7_parksAll_51 : decode cX7_parksAll 51 = .ok (.iconst 0, 1) := by decide +kernel
theorem dX7_parksAll_52 : decode cX7_parksAll 52 = .ok (.iadd, 1) := by decide +kernel
theorem dX7_parksAll_53 : decode cX7_parksAll 53 = .ok (.istore_n 2, 1) := by decide +kernel
theorem dX7_parksAll_54 : decode cX7_parksAll 54 = .ok (.iinc 3 1, 3) := by decide +kernel
theorem dX7_parksAll_57 : decode cX7_parksAll 57 = .ok (.goto (-30), 3) := by decide +kernel
theorem dX7_parksAll_60 : decode cX7_parksAll 60 = .ok (.iload_n 2, 1) := by decide +kernel
theorem dX7_parksAll_61 : decode cX7_parksAll 61 = .ok (.ireturn, 1) := by decide +kernel
theorem dX7_takes_0 : decode cX7_takes 0 = .ok (.iconst 0, 1) := by decide +kernel
theorem dX7_takes_1 : decode cX7_takes 1 = .ok (.istore_n 1, 1) := by decide +kernel
theorem dX7_takes_2 : decode cX7_takes 2 = .ok (.iload_n 1, 1) := by decide +kernel
theorem dX7_takes_3 : decode cX7_takes 3 = .ok (.aload_n 0, 1) := by decide +kernel
theorem dX7_takes_4 : decode cX7_takes 4 = .ok (.getfield 7, 3) := by decide +kernel
theorem dX7_takes_7 : decode cX7_takes 7 = .ok (.iconst 0, 1) := by decide +kernel
theorem dX7_takes_8 : decode cX7_takes 8 = .ok (.iaload, 1) := by decide +kernel
theorem dX7_takes_9 : decode cX7_takes 9 = .ok (.if_icmp .ge 24, 3) := by decide +kernel
theorem dX7_takes_12 : decode cX7_takes 12 = .ok (.aload_n 0, 1) := by decide +kernel
theorem dX7_takes_13 : decode cX7_takes 13 = .ok (.getfield 16, 3) := by decide +kernel
theorem dX7_takes_16 : decode cX7_takes 16 = .ok (.iload_n 1, 1) := by decide +kernel
theorem dX7_takes_17 : decode cX7_takes 17 = .ok (.aload_n 0, 1) := by decide +kernel
theorem dX7_takes_18 : decode cX7_takes 18 = .ok (.getfield 7, 3) := by decide +kernel
theorem dX7_takes_21 : decode cX7_takes 21 = .ok (.bipush 12, 2) := by decide +kernel
theorem dX7_takes_23 : decode cX7_takes 23 = .ok (.iload_n 1, 1) := by decide +kernel
theorem dX7_takes_24 : decode cX7_takes 24 = .ok (.iadd, 1) := by decide +kernel
theorem dX7_takes_25 : decode cX7_takes 25 = .ok (.iaload, 1) := by decide +kernel
theorem dX7_takes_26 : decode cX7_takes 26 = .ok (.iastore, 1) := by decide +kernel
theorem dX7_takes_27 : decode cX7_takes 27 = .ok (.iinc 1 1, 3) := by decide +kernel
theorem dX7_takes_30 : decode cX7_takes 30 = .ok (.goto (-28), 3) := by decide +kernel
theorem dX7_takes_33 : decode cX7_takes 33 = .ok (.return_, 1) := by decide +kernel
set_option maxRecDepth 20000 in
theorem ggX7_parksNow_X7_takes : GoodIn wsX7_parksNow wsX7_takes := goodIn_r _ [6, 1, 7, 27, 28, 29, 30, 31, 32, 33, 34, 35, 36, 37] (by decide +kernel) (by decide +kernel)
set_option maxRecDepth 20000 in
theorem gX7_parksNow_X7_takes : GoodIn wsX7_parksNow (wsV RX7 67 RX7 yX7_takes wsX7_takes) := goodIn_app (goodIn_of _ (by decide +kernel)) ggX7_parksNow_X7_takes
set_option maxRecDepth 20000 in
theorem ggX7_parksNow_X7_parksAll : GoodIn wsX7_parksNow wsX7_parksAll := goodIn_r _ [11, 12, 13, 14, 15, 16, 17, 5, 18, 19, 7, 1, 20, 21, 22, 23, 24, 25, 26, 27, 28, 29, 30, 31, 32, 33, 34, 35, 36, 37] (by decide +kernel) (by decide +kernel)
set_option maxRecDepth 20000 in
theorem gX7_parksNow_X7_parksAll : GoodIn wsX7_parksNow (wsV RX7 70 RX7 yX7_parksAll wsX7_parksAll) := goodIn_app (goodIn_of _ (by decide +kernel)) ggX7_parksNow_X7_parksAll
theorem dX7_parksNow_0 : decode cX7_parksNow 0 = .ok (.aload_n 0, 1) := by decide +kernel
theorem dX7_parksNow_1 : decode cX7_parksNow 1 = .ok (.invokevirtual 67, 3) := by decide +kernel
theorem dX7_parksNow_4 : decode cX7_parksNow 4 = .ok (.aload_n 0, 1) := by decide +kernel
theorem dX7_parksNow_5 : decode cX7_parksNow 5 = .ok (.aload_n 0, 1) := by decide +kernel
theorem dX7_parksNow_6 : decode cX7_parksNow 6 = .ok (.getfield 7, 3) := by decide +kernel
theorem dX7_parksNow_9 : decode cX7_parksNow 9 = .ok (.iconst 0, 1) := by decide +kernel
theorem dX7_parksNow_10 : decode cX7_parksNow 10 = .ok (.iaload, 1) := by decide +kernel
theorem dX7_parksNow_11 : decode cX7_parksNow 11 = .ok (.invokevirtual 70, 3) := by decide +kernel
theorem dX7_parksNow_14 : decode cX7_parksNow 14 = .ok (.ireturn, 1) := by decide +kernel
set_option maxRecDepth 20000 in
theorem ggX7_spaceOf_X7_isCar : GoodIn wsX7_spaceOf wsX7_isCar := goodIn_r _ [7, 8, 9, 10, 6, 11, 40, 41, 42, 43, 44, 45, 46, 47, 48, 49, 50] (by decide +kernel) (by decide +kernel)
set_option maxRecDepth 20000 in
theorem gX7_spaceOf_X7_isCar : GoodIn wsX7_spaceOf (wsV RX7 56 RX7 yX7_isCar wsX7_isCar) := goodIn_app (goodIn_of _ (by decide +kernel)) ggX7_spaceOf_X7_isCar
set_option maxRecDepth 20000 in
theorem ggX7_spaceOf_X7_fails : GoodIn wsX7_spaceOf wsX7_fails := goodIn_r _ [15, 1, 40, 41, 42, 43, 44, 45, 46, 47, 48, 49, 50] (by decide +kernel) (by decide +kernel)
set_option maxRecDepth 20000 in
theorem gX7_spaceOf_X7_fails : GoodIn wsX7_spaceOf (wsV RX7 48 RX7 yX7_fails wsX7_fails) := goodIn_app (goodIn_of _ (by decide +kernel)) ggX7_spaceOf_X7_fails
set_option maxRecDepth 20000 in
theorem ggX7_spaceOf_X7_parksNow : GoodIn wsX7_spaceOf wsX7_parksNow := goodIn_r _ [19, 8, 20, 21, 22, 6, 23, 24, 25, 26, 27, 28, 29, 30, 2, 31, 32, 33, 34, 35, 36, 37, 38, 39, 9, 10, 11, 40, 41, 42, 43, 44, 45, 46, 47, 48, 49, 50] (by decide +kernel) (by decide +kernel)
set_option maxRecDepth 20000 in
theorem gX7_spaceOf_X7_parksNow : GoodIn wsX7_spaceOf (wsV RX7 73 RX7 yX7_parksNow wsX7_parksNow) := goodIn_app (goodIn_of _ (by decide +kernel)) ggX7_spaceOf_X7_parksNow
theorem dX7_spaceOf_0 : decode cX7_spaceOf 0 = .ok (.aload_n 0, 1) := by decide +kernel
theorem dX7_spaceOf_1 : decode cX7_spaceOf 1 = .ok (.iconst 0, 1) := by decide +kernel
theorem dX7_spaceOf_2 : decode cX7_spaceOf 2 = .ok (.putfield 35, 3) := by decide +kernel
theorem dX7_spaceOf_5 : decode cX7_spaceOf 5 = .ok (.aload_n 0, 1) := by decide +kernel
theorem dX7_spaceOf_6 : decode cX7_spaceOf 6 = .ok (.iload_n 1, 1) := by decide +kernel
theorem dX7_spaceOf_7 : decode cX7_spaceOf 7 = .ok (.invokevirtual 56, 3) := by decide +kernel
theorem dX7_spaceOf_10 : decode cX7_spaceOf 10 = .ok (.ifCond .ne 9, 3) := by decide +kernel
theorem dX7_spaceOf_13 : decode cX7_spaceOf 13 = .ok (.aload_n 0, 1) := by decide +kernel
theorem dX7_spaceOf_14 : decode cX7_spaceOf 14 = .ok (.iconst 1, 1) := by decide +kernel
theorem dX7_spaceOf_15 : decode cX7_spaceOf 15 = .ok (.invokevirtual 48, 3) := by decide +kernel
theorem dX7_spaceOf_18 : decode cX7_spaceOf 18 = .ok (.ireturn, 1) := by decide +kernel
theorem dX7_spaceOf_19 : decode cX7_spaceOf 19 = .ok (.aload_n 0, 1) := by decide +kernel
theorem dX7_spaceOf_20 : decode cX7_spaceOf 20 = .ok (.invokevirtual 73, 3) := by decide +kernel
theorem dX7_spaceOf_23 : decode cX7_spaceOf 23 = .ok (.istore_n 2, 1) := by decide +kernel
theorem dX7_spaceOf_24 : decode cX7_spaceOf 24 = .ok (.aload_n 0, 1) := by decide +kernel
theorem dX7_spaceOf_25 : decode cX7_spaceOf 25 = .ok (.getfield 19, 3) := by decide +kernel
theorem dX7_spaceOf_28 : decode cX7_spaceOf 28 = .ok (.iload_n 1, 1) := by decide +kernel
theorem dX7_spaceOf_29 : decode cX7_spaceOf 29 = .ok (.iaload, 1) := by decide +kernel
theorem dX7_spaceOf_30 : decode cX7_spaceOf 30 = .ok (.ireturn, 1) := by decide +kernel
set_option maxRecDepth 20000 in
theorem ggX7_steps_X7_isCar : GoodIn wsX7_steps wsX7_isCar := goodIn_r _ [7, 8, 9, 10, 6, 11, 40, 41, 42, 43, 44, 45, 46, 47, 48, 49, 50] (by decide +kernel) (by decide +kernel)
set_option maxRecDepth 20000 in
theorem gX7_steps_X7_isCar : GoodIn wsX7_steps (wsV RX7 56 RX7 yX7_isCar wsX7_isCar) := goodIn_app (goodIn_of _ (by decide +kernel)) ggX7_steps_X7_isCar
set_option maxRecDepth 20000 in
theorem ggX7_steps_X7_fails : GoodIn wsX7_steps wsX7_fails := goodIn_r _ [15, 1, 40, 41, 42, 43, 44, 45, 46, 47, 48, 49, 50] (by decide +kernel) (by decide +kernel)
set_option maxRecDepth 20000 in
theorem gX7_steps_X7_fails : GoodIn wsX7_steps (wsV RX7 48 RX7 yX7_fails wsX7_fails) := goodIn_app (goodIn_of _ (by decide +kernel)) ggX7_steps_X7_fails
set_option maxRecDepth 20000 in
theorem ggX7_steps_X7_parksNow : GoodIn wsX7_steps wsX7_parksNow := goodIn_r _ [19, 8, 20, 21, 22, 6, 23, 24, 25, 26, 27, 28, 29, 30, 31, 32, 33, 34, 35, 2, 36, 37, 38, 39, 9, 10, 11, 40, 41, 42, 43, 44, 45, 46, 47, 48, 49, 50] (by decide +kernel) (by decide +kernel)
set_option maxRecDepth 20000 in
theorem gX7_steps_X7_parksNow : GoodIn wsX7_steps (wsV RX7 73 RX7 yX7_parksNow wsX7_parksNow) := goodIn_app (goodIn_of _ (by decide +kernel)) ggX7_steps_X7_parksNow
theorem dX7_steps_0 : decode cX7_steps 0 = .ok (.aload_n 0, 1) := by decide +kernel
theorem dX7_steps_1 : decode cX7_steps 1 = .ok (.iconst 0, 1) := by decide +kernel
theorem dX7_steps_2 : decode cX7_steps 2 = .ok (.putfield 35, 3) := by decide +kernel
theorem dX7_steps_5 : decode cX7_steps 5 = .ok (.aload_n 0, 1) := by decide +kernel
theorem dX7_steps_6 : decode cX7_steps 6 = .ok (.iload_n 1, 1) := by decide +kernel
theorem dX7_steps_7 : decode cX7_steps 7 = .ok (.invokevirtual 56, 3) := by decide +kernel
theorem dX7_steps_10 : decode cX7_steps 10 = .ok (.ifCond .ne 9, 3) := by decide +kernel
theorem dX7_steps_13 : decode cX7_steps 13 = .ok (.aload_n 0, 1) := by decide +kernel
theorem dX7_steps_14 : decode cX7_steps 14 = .ok (.iconst 1, 1) := by decide +kernel
theorem dX7_steps_15 : decode cX7_steps 15 = .ok (.invokevirtual 48, 3) := by decide +kernel
theorem dX7_steps_18 : decode cX7_steps 18 = .ok (.ireturn, 1) := by decide +kernel
theorem dX7_steps_19 : decode cX7_steps 19 = .ok (.aload_n 0, 1) := by decide +kernel
theorem dX7_steps_20 : decode cX7_steps 20 = .ok (.invokevirtual 73, 3) := by decide +kernel
theorem dX7_steps_23 : decode cX7_steps 23 = .ok (.istore_n 2, 1) := by decide +kernel
theorem dX7_steps_24 : decode cX7_steps 24 = .ok (.aload_n 0, 1) := by decide +kernel
theorem dX7_steps_25 : decode cX7_steps 25 = .ok (.getfield 22, 3) := by decide +kernel
theorem dX7_steps_28 : decode cX7_steps 28 = .ok (.iload_n 1, 1) := by decide +kernel
theorem dX7_steps_29 : decode cX7_steps 29 = .ok (.iaload, 1) := by decide +kernel
theorem dX7_steps_30 : decode cX7_steps 30 = .ok (.ireturn, 1) := by decide +kernel
set_option maxRecDepth 20000 in
theorem ggX7_carsIn_X7_in : GoodIn wsX7_carsIn wsX7_in := goodIn_r _ [8] (by decide +kernel) (by decide +kernel)
set_option maxRecDepth 20000 in
theorem gX7_carsIn_X7_in : GoodIn wsX7_carsIn (va_wsS RX7 44 yX7_in wsX7_in) := goodIn_app (goodIn_of _ (by decide +kernel)) ggX7_carsIn_X7_in
set_option maxRecDepth 20000 in
theorem ggX7_carsIn_X7_fails : GoodIn wsX7_carsIn wsX7_fails := goodIn_r _ [12, 1, 36, 37, 38, 39, 40, 41, 42, 43, 44, 45, 46] (by decide +kernel) (by decide +kernel)
set_option maxRecDepth 20000 in
theorem gX7_carsIn_X7_fails : GoodIn wsX7_carsIn (wsV RX7 48 RX7 yX7_fails wsX7_fails) := goodIn_app (goodIn_of _ (by decide +kernel)) ggX7_carsIn_X7_fails
set_option maxRecDepth 20000 in
theorem ggX7_carsIn_X7_parksNow : GoodIn wsX7_carsIn wsX7_parksNow := goodIn_r _ [16, 3, 17, 18, 19, 7, 20, 21, 22, 23, 24, 25, 2, 26, 4, 27, 28, 29, 30, 31, 32, 33, 34, 35, 5, 6, 8, 36, 37, 38, 39, 40, 41, 42, 43, 44, 45, 46] (by decide +kernel) (by decide +kernel)
set_option maxRecDepth 20000 in
theorem gX7_carsIn_X7_parksNow : GoodIn wsX7_carsIn (wsV RX7 73 RX7 yX7_parksNow wsX7_parksNow) := goodIn_app (goodIn_of _ (by decide +kernel)) ggX7_carsIn_X7_parksNow
theorem dX7_carsIn_0 : decode cX7_carsIn 0 = .ok (.aload_n 0, 1) := by decide +kernel
theorem dX7_carsIn_1 : decode cX7_carsIn 1 = .ok (.iconst 0, 1) := by decide +kernel
theorem dX7_carsIn_2 : decode cX7_carsIn 2 = .ok (.putfield 35, 3) := by decide +kernel
theorem dX7_carsIn_5 : decode cX7_carsIn 5 = .ok (.iload_n 1, 1) := by decide +kernel
theorem dX7_carsIn_6 : decode cX7_carsIn 6 = .ok (.iconst 0, 1) := by decide +kernel
theorem dX7_carsIn_7 : decode cX7_carsIn 7 = .ok (.aload_n 0, 1) := by decide +kernel
theorem dX7_carsIn_8 : decode cX7_carsIn 8 = .ok (.getfield 31, 3) := by decide +kernel
theorem dX7_carsIn_11 : decode cX7_carsIn 11 = .ok (.iconst 1, 1) := by decide +kernel
theorem dX7_carsIn_12 : decode cX7_carsIn 12 = .ok (.isub, 1) := by decide +kernel
theorem dX7_carsIn_13 : decode cX7_carsIn 13 = .ok (.invokestatic 44, 3) := by decide +kernel
theorem dX7_carsIn_16 : decode cX7_carsIn 16 = .ok (.ifCond .ne 9, 3) := by decide +kernel
theorem dX7_carsIn_19 : decode cX7_carsIn 19 = .ok (.aload_n 0, 1) := by decide +kernel
theorem dX7_carsIn_20 : decode cX7_carsIn 20 = .ok (.iconst 1, 1) := by decide +kernel
theorem dX7_carsIn_21 : decode cX7_carsIn 21 = .ok (.invokevirtual 48, 3) := by decide +kernel
theorem dX7_carsIn_24 : decode cX7_carsIn 24 = .ok (.ireturn, 1) := by decide +kernel
theorem dX7_carsIn_25 : decode cX7_carsIn 25 = .ok (.aload_n 0, 1) := by decide +kernel
theorem dX7_carsIn_26 : decode cX7_carsIn 26 = .ok (.invokevirtual 73, 3) := by decide +kernel
theorem dX7_carsIn_29 : decode cX7_carsIn 29 = .ok (.istore_n 2, 1) := by decide +kernel
theorem dX7_carsIn_30 : decode cX7_carsIn 30 = .ok (.iconst 0, 1) := by decide +kernel
theorem dX7_carsIn_31 : decode cX7_carsIn 31 = .ok (.istore_n 3, 1) := by decide +kernel
theorem dX7_carsIn_32 : decode cX7_carsIn 32 = .ok (.iconst 0, 1) := by decide +kernel
theorem dX7_carsIn_33 : decode cX7_carsIn 33 = .ok (.istore 4, 2) := by decide +kernel
theorem dX7_carsIn_35 : decode cX7_carsIn 35 = .ok (.iload 4, 2) := by decide +kernel
theorem dX7_carsIn_37 : decode cX7_carsIn 37 = .ok (.aload_n 0, 1) := by decide +kernel
theorem dX7_carsIn_38 : decode cX7_carsIn 38 = .ok (.getfield 7, 3) := by decide +kernel
theorem dX7_carsIn_41 : decode cX7_carsIn 41 = .ok (.iconst 0, 1) := by decide +kernel
theorem dX7_carsIn_42 : decode cX7_carsIn 42 = .ok (.iaload, 1) := by decide +kernel
theorem dX7_carsIn_43 : decode cX7_carsIn 43 = .ok (.if_icmp .ge 31, 3) := by decide +kernel
theorem dX7_carsIn_46 : decode cX7_carsIn 46 = .ok (.iload_n 3, 1) := by decide +kernel
theorem dX7_carsIn_47 : decode cX7_carsIn 47 = .ok (.aload_n 0, 1) := by decide +kernel
theorem dX7_carsIn_48 : decode cX7_carsIn 48 = .ok (.getfield 19, 3) := by decide +kernel
theorem dX7_carsIn_51 : decode cX7_carsIn 51 = .ok (.iload 4, 2) := by decide +kernel
theorem dX7_carsIn_53 : decode cX7_carsIn 53 = .ok (.iaload, 1) := by decide +kernel
theorem dX7_carsIn_54 : decode cX7_carsIn 54 = .ok (.iload_n 1, 1) := by decide +kernel
theorem dX7_carsIn_55 : decode cX7_carsIn 55 = .ok (.if_icmp .ne 10, 3) := by decide +kernel
theorem dX7_carsIn_58 : decode cX7_carsIn 58 = .ok (.iconst 1, 1) := by decide +kernel
theorem dX7_carsIn_59 : decode cX7_carsIn 59 = .ok (.iload 4, 2) := by decide +kernel
theorem dX7_carsIn_61 : decode cX7_carsIn 61 = .ok (.ishl, 1) := by decide +kernel
theorem dX7_carsIn_62 : decode cX7_carsIn 62 = .ok (.goto 4, 3) := by decide +kernel
theorem dX7_carsIn_65 : decode cX7_carsIn 65 = .ok (.iconst 0, 1) := by decide +kernel
theorem dX7_carsIn_66 : decode cX7_carsIn 66 = .ok (.ior, 1) := by decide +kernel
theorem dX7_carsIn_67 : decode cX7_carsIn 67 = .ok (.istore_n 3, 1) := by decide +kernel
theorem dX7_carsIn_68 : decode cX7_carsIn 68 = .ok (.iinc 4 1, 3) := by decide +kernel
theorem dX7_carsIn_71 : decode cX7_carsIn 71 = .ok (.goto (-36), 3) := by decide +kernel
theorem dX7_carsIn_74 : decode cX7_carsIn 74 = .ok (.iload_n 3, 1) := by decide +kernel
theorem dX7_carsIn_75 : decode cX7_carsIn 75 = .ok (.ireturn, 1) := by decide +kernel
set_option maxRecDepth 20000 in
theorem ggX7_defect_X7_parksNow : GoodIn wsX7_defect wsX7_parksNow := goodIn_r _ [6, 7, 8, 9, 10, 5, 11, 12, 13, 14, 15, 16, 17, 18, 19, 20, 21, 22, 23, 24, 25, 26, 27, 28, 29, 30, 31, 32, 33, 34, 35, 36, 37, 38, 39, 40, 41, 42] (by decide +kernel) (by decide +kernel)
set_option maxRecDepth 20000 in
theorem gX7_defect_X7_parksNow : GoodIn wsX7_defect (wsV RX7 73 RX7 yX7_parksNow wsX7_parksNow) := goodIn_app (goodIn_of _ (by decide +kernel)) ggX7_defect_X7_parksNow
theorem dX7_defect_0 : decode cX7_defect 0 = .ok (.aload_n 0, 1) := by decide +kernel
theorem dX7_defect_1 : decode cX7_defect 1 = .ok (.iconst 0, 1) := by decide +kernel
theorem dX7_defect_2 : decode cX7_defect 2 = .ok (.putfield 35, 3) := by decide +kernel
theorem dX7_defect_5 : decode cX7_defect 5 = .ok (.aload_n 0, 1) := by decide +kernel
theorem dX7_defect_6 : decode cX7_defect 6 = .ok (.invokevirtual 73, 3) := by decide +kernel
theorem dX7_defect_9 : decode cX7_defect 9 = .ok (.ireturn, 1) := by decide +kernel
set_option maxRecDepth 20000 in
theorem ggX7_firstLeaving_X7_parksNow : GoodIn wsX7_firstLeaving wsX7_parksNow := goodIn_r _ [7, 8, 9, 10, 11, 6, 12, 13, 14, 15, 16, 17, 18, 19, 2, 20, 21, 22, 23, 24, 25, 26, 27, 28, 29, 30, 31, 32, 33, 34, 35, 36, 37, 38, 39, 40, 41, 42] (by decide +kernel) (by decide +kernel)
set_option maxRecDepth 20000 in
theorem gX7_firstLeaving_X7_parksNow : GoodIn wsX7_firstLeaving (wsV RX7 73 RX7 yX7_parksNow wsX7_parksNow) := goodIn_app (goodIn_of _ (by decide +kernel)) ggX7_firstLeaving_X7_parksNow
theorem dX7_firstLeaving_0 : decode cX7_firstLeaving 0 = .ok (.aload_n 0, 1) := by decide +kernel
theorem dX7_firstLeaving_1 : decode cX7_firstLeaving 1 = .ok (.iconst 0, 1) := by decide +kernel
theorem dX7_firstLeaving_2 : decode cX7_firstLeaving 2 = .ok (.putfield 35, 3) := by decide +kernel
theorem dX7_firstLeaving_5 : decode cX7_firstLeaving 5 = .ok (.aload_n 0, 1) := by decide +kernel
theorem dX7_firstLeaving_6 : decode cX7_firstLeaving 6 = .ok (.invokevirtual 73, 3) := by decide +kernel
theorem dX7_firstLeaving_9 : decode cX7_firstLeaving 9 = .ok (.istore_n 1, 1) := by decide +kernel
theorem dX7_firstLeaving_10 : decode cX7_firstLeaving 10 = .ok (.iconst 0, 1) := by decide +kernel
theorem dX7_firstLeaving_11 : decode cX7_firstLeaving 11 = .ok (.istore_n 2, 1) := by decide +kernel
theorem dX7_firstLeaving_12 : decode cX7_firstLeaving 12 = .ok (.iload_n 1, 1) := by decide +kernel
theorem dX7_firstLeaving_13 : decode cX7_firstLeaving 13 = .ok (.ifCond .le 18, 3) := by decide +kernel
theorem dX7_firstLeaving_16 : decode cX7_firstLeaving 16 = .ok (.aload_n 0, 1) := by decide +kernel
theorem dX7_firstLeaving_17 : decode cX7_firstLeaving 17 = .ok (.getfield 19, 3) := by decide +kernel
theorem dX7_firstLeaving_20 : decode cX7_firstLeaving 20 = .ok (.iload_n 2, 1) := by decide +kernel
theorem dX7_firstLeaving_21 : decode cX7_firstLeaving 21 = .ok (.iaload, 1) := by decide +kernel
theorem dX7_firstLeaving_22 : decode cX7_firstLeaving 22 = .ok (.ifCond .lt 9, 3) := by decide +kernel
theorem dX7_firstLeaving_25 : decode cX7_firstLeaving 25 = .ok (.iinc 2 1, 3) := by decide +kernel
theorem dX7_firstLeaving_28 : decode cX7_firstLeaving 28 = .ok (.goto (-16), 3) := by decide +kernel
theorem dX7_firstLeaving_31 : decode cX7_firstLeaving 31 = .ok (.iload_n 1, 1) := by decide +kernel
theorem dX7_firstLeaving_32 : decode cX7_firstLeaving 32 = .ok (.ifCond .le 7, 3) := by decide +kernel
theorem dX7_firstLeaving_35 : decode cX7_firstLeaving 35 = .ok (.iload_n 2, 1) := by decide +kernel
theorem dX7_firstLeaving_36 : decode cX7_firstLeaving 36 = .ok (.goto 4, 3) := by decide +kernel
theorem dX7_firstLeaving_39 : decode cX7_firstLeaving 39 = .ok (.iconst (-1), 1) := by decide +kernel
theorem dX7_firstLeaving_40 : decode cX7_firstLeaving 40 = .ok (.ireturn, 1) := by decide +kernel
set_option maxRecDepth 20000 in
theorem ggX7_luckyNow_X7_parksNow : GoodIn wsX7_luckyNow wsX7_parksNow := goodIn_r _ [8, 1, 9, 10, 11, 7, 12, 3, 13, 14, 15, 16, 17, 18, 2, 19, 20, 21, 22, 23, 24, 25, 26, 27, 28, 29, 30, 31, 32, 33, 34, 35, 36, 37, 38, 39, 40, 41] (by decide +kernel) (by decide +kernel)
set_option maxRecDepth 20000 in
theorem gX7_luckyNow_X7_parksNow : GoodIn wsX7_luckyNow (wsV RX7 73 RX7 yX7_parksNow wsX7_parksNow) := goodIn_app (goodIn_of _ (by decide +kernel)) ggX7_luckyNow_X7_parksNow
theorem dX7_luckyNow_0 : decode cX7_luckyNow 0 = .ok (.aload_n 0, 1) := by decide +kernel
theorem dX7_luckyNow_1 : decode cX7_luckyNow 1 = .ok (.invokevirtual 73, 3) := by decide +kernel
theorem dX7_luckyNow_4 : decode cX7_luckyNow 4 = .ok (.istore_n 1, 1) := by decide +kernel
theorem dX7_luckyNow_5 : decode cX7_luckyNow 5 = .ok (.iconst 0, 1) := by decide +kernel
theorem dX7_luckyNow_6 : decode cX7_luckyNow 6 = .ok (.istore_n 2, 1) := by decide +kernel
theorem dX7_luckyNow_7 : decode cX7_luckyNow 7 = .ok (.iconst 0, 1) := by decide +kernel
theorem dX7_luckyNow_8 : decode cX7_luckyNow 8 = .ok (.istore_n 3, 1) := by decide +kernel
theorem dX7_luckyNow_9 : decode cX7_luckyNow 9 = .ok (.iload_n 3, 1) := by decide +kernel
theorem dX7_luckyNow_10 : decode cX7_luckyNow 10 = .ok (.aload_n 0, 1) := by decide +kernel
theorem dX7_luckyNow_11 : decode cX7_luckyNow 11 = .ok (.getfield 7, 3) := by decide +kernel
theorem dX7_luckyNow_14 : decode cX7_luckyNow 14 = .ok (.iconst 0, 1) := by decide +kernel
theorem dX7_luckyNow_15 : decode cX7_luckyNow 15 = .ok (.iaload, 1) := by decide +kernel
theorem dX7_luckyNow_16 : decode cX7_luckyNow 16 = .ok (.if_icmp .ge 34, 3) := by decide +kernel
theorem dX7_luckyNow_19 : decode cX7_luckyNow 19 = .ok (.iload_n 2, 1) := by decide +kernel
theorem dX7_luckyNow_20 : decode cX7_luckyNow 20 = .ok (.aload_n 0, 1) := by decide +kernel
theorem dX7_luckyNow_21 : decode cX7_luckyNow 21 = .ok (.getfield 19, 3) := by decide +kernel
theorem dX7_luckyNow_24 : decode cX7_luckyNow 24 = .ok (.iload_n 3, 1) := by decide +kernel
theorem dX7_luckyNow_25 : decode cX7_luckyNow 25 = .ok (.iaload, 1) := by decide +kernel
theorem dX7_luckyNow_26 : decode cX7_luckyNow 26 = .ok (.aload_n 0, 1) := by decide +kernel
theorem dX7_luckyNow_27 : decode cX7_luckyNow 27 = .ok (.getfield 16, 3) := by decide +kernel
theorem dX7_luckyNow_30 : decode cX7_luckyNow 30 = .ok (.iload_n 3, 1) := by decide +kernel
theorem dX7_luckyNow_31 : decode cX7_luckyNow 31 = .ok (.iaload, 1) := by decide +kernel
theorem dX7_luckyNow_32 : decode cX7_luckyNow 32 = .ok (.if_icmp .ne 9, 3) := by decide +kernel
theorem dX7_luckyNow_35 : decode cX7_luckyNow 35 = .ok (.iconst 1, 1) := by decide +kernel
theorem dX7_luckyNow_36 : decode cX7_luckyNow 36 = .ok (.iload_n 3, 1) := by decide +kernel
theorem dX7_luckyNow_37 : decode cX7_luckyNow 37 = .ok (.ishl, 1) := by decide +kernel
theorem dX7_luckyNow_38 : decode cX7_luckyNow 38 = .ok (.goto 4, 3) := by decide +kernel
theorem dX7_luckyNow_41 : decode cX7_luckyNow 41 = .ok (.iconst 0, 1) := by decide +kernel
theorem dX7_luckyNow_42 : decode cX7_luckyNow 42 = .ok (.ior, 1) := by decide +kernel
theorem dX7_luckyNow_43 : decode cX7_luckyNow 43 = .ok (.istore_n 2, 1) := by decide +kernel
theorem dX7_luckyNow_44 : decode cX7_luckyNow 44 = .ok (.iinc 3 1, 3) := by decide +kernel
theorem dX7_luckyNow_47 : decode cX7_luckyNow 47 = .ok (.goto (-38), 3) := by decide +kernel
theorem dX7_luckyNow_50 : decode cX7_luckyNow 50 = .ok (.iload_n 2, 1) := by decide +kernel
theorem dX7_luckyNow_51 : decode cX7_luckyNow 51 = .ok (.ireturn, 1) := by decide +kernel
set_option maxRecDepth 20000 in
theorem ggX7_lucky_X7_luckyNow : GoodIn wsX7_lucky wsX7_luckyNow := goodIn_r _ [6, 7, 8, 9, 10, 11, 12, 5, 13, 14, 15, 16, 17, 18, 19, 20, 21, 22, 23, 24, 25, 26, 27, 28, 29, 30, 31, 32, 33, 34, 35, 36, 37, 38, 39, 40, 41, 42, 43, 44, 45, 46] (by decide +kernel) (by decide +kernel)
set_option maxRecDepth 20000 in
theorem gX7_lucky_X7_luckyNow : GoodIn wsX7_lucky (wsV RX7 77 RX7 yX7_luckyNow wsX7_luckyNow) := goodIn_app (goodIn_of _ (by decide +kernel)) ggX7_lucky_X7_luckyNow
theorem dX7_lucky_0 : decode cX7_lucky 0 = .ok (.aload_n 0, 1) := by decide +kernel
theorem dX7_lucky_1 : decode cX7_lucky 1 = .ok (.iconst 0, 1) := by decide +kernel
theorem dX7_lucky_2 : decode cX7_lucky 2 = .ok (.putfield 35, 3) := by decide +kernel
theorem dX7_lucky_5 : decode cX7_lucky 5 = .ok (.aload_n 0, 1) := by decide +kernel
theorem dX7_lucky_6 : decode cX7_lucky 6 = .ok (.invokevirtual 77, 3) := by decide +kernel
theorem dX7_lucky_9 : decode cX7_lucky 9 = .ok (.ireturn, 1) := by decide +kernel
set_option maxRecDepth 20000 in
theorem ggX7_moved_X7_parksNow : GoodIn wsX7_moved wsX7_parksNow := goodIn_r _ [8, 1, 9, 10, 11, 7, 12, 3, 13, 14, 15, 16, 17, 18, 2, 19, 20, 21, 22, 23, 24, 25, 26, 27, 28, 29, 30, 31, 32, 33, 34, 35, 36, 37, 38, 39, 40, 41] (by decide +kernel) (by decide +kernel)
set_option maxRecDepth 20000 in
theorem gX7_moved_X7_parksNow : GoodIn wsX7_moved (wsV RX7 73 RX7 yX7_parksNow wsX7_parksNow) := goodIn_app (goodIn_of _ (by decide +kernel)) ggX7_moved_X7_parksNow
theorem dX7_moved_0 : decode cX7_moved 0 = .ok (.aload_n 0, 1) := by decide +kernel
theorem dX7_moved_1 : decode cX7_moved 1 = .ok (.invokevirtual 73, 3) := by decide +kernel
theorem dX7_moved_4 : decode cX7_moved 4 = .ok (.istore_n 1, 1) := by decide +kernel
theorem dX7_moved_5 : decode cX7_moved 5 = .ok (.iconst 0, 1) := by decide +kernel
theorem dX7_moved_6 : decode cX7_moved 6 = .ok (.istore_n 2, 1) := by decide +kernel
theorem dX7_moved_7 : decode cX7_moved 7 = .ok (.iconst 0, 1) := by decide +kernel
theorem dX7_moved_8 : decode cX7_moved 8 = .ok (.istore_n 3, 1) := by decide +kernel
theorem dX7_moved_9 : decode cX7_moved 9 = .ok (.iload_n 3, 1) := by decide +kernel
theorem dX7_moved_10 : decode cX7_moved 10 = .ok (.aload_n 0, 1) := by decide +kernel
theorem dX7_moved_11 : decode cX7_moved 11 = .ok (.getfield 7, 3) := by decide +kernel
theorem dX7_moved_14 : decode cX7_moved 14 = .ok (.iconst 0, 1) := by decide +kernel
theorem dX7_moved_15 : decode cX7_moved 15 = .ok (.iaload, 1) := by decide +kernel
theorem dX7_moved_16 : decode cX7_moved 16 = .ok (.if_icmp .ge 53, 3) := by decide +kernel
theorem dX7_moved_19 : decode cX7_moved 19 = .ok (.aload_n 0, 1) := by decide +kernel
theorem dX7_moved_20 : decode cX7_moved 20 = .ok (.getfield 19, 3) := by decide +kernel
theorem dX7_moved_23 : decode cX7_moved 23 = .ok (.iload_n 3, 1) := by decide +kernel
theorem dX7_moved_24 : decode cX7_moved 24 = .ok (.iaload, 1) := by decide +kernel
theorem dX7_moved_25 : decode cX7_moved 25 = .ok (.aload_n 0, 1) := by decide +kernel
theorem dX7_moved_26 : decode cX7_moved 26 = .ok (.getfield 16, 3) := by decide +kernel
theorem dX7_moved_29 : decode cX7_moved 29 = .ok (.iload_n 3, 1) := by decide +kernel
theorem dX7_moved_30 : decode cX7_moved 30 = .ok (.iaload, 1) := by decide +kernel
theorem dX7_moved_31 : decode cX7_moved 31 = .ok (.isub, 1) := by decide +kernel
theorem dX7_moved_32 : decode cX7_moved 32 = .ok (.istore 4, 2) := by decide +kernel
theorem dX7_moved_34 : decode cX7_moved 34 = .ok (.iload_n 2, 1) := by decide +kernel
theorem dX7_moved_35 : decode cX7_moved 35 = .ok (.aload_n 0, 1) := by decide +kernel
theorem dX7_moved_36 : decode cX7_moved 36 = .ok (.getfield 19, 3) := by decide +kernel
theorem dX7_moved_39 : decode cX7_moved 39 = .ok (.iload_n 3, 1) := by decide +kernel
theorem dX7_moved_40 : decode cX7_moved 40 = .ok (.iaload, 1) := by decide +kernel
theorem dX7_moved_41 : decode cX7_moved 41 = .ok (.ifCond .ge 7, 3) := by decide +kernel
theorem dX7_moved_44 : decode cX7_moved 44 = .ok (.iconst 0, 1) := by decide +kernel
theorem dX7_moved_45 : decode cX7_moved 45 = .ok (.goto 16, 3) := by decide +kernel
theorem dX7_moved_48 : decode cX7_moved 48 = .ok (.iload 4, 2) := by decide +kernel
theorem dX7_moved_50 : decode cX7_moved 50 = .ok (.ifCond .ge 9, 3) := by decide +kernel
theorem dX7_moved_53 : decode cX7_moved 53 = .ok (.iload 4, 2) := by decide +kernel
theorem dX7_moved_55 : decode cX7_moved 55 = .ok (.ineg, 1) := by decide +kernel
theorem dX7_moved_56 : decode cX7_moved 56 = .ok (.goto 5, 3) := by decide +kernel
theorem dX7_moved_59 : decode cX7_moved 59 = .ok (.iload 4, 2) := by decide +kernel
theorem dX7_moved_61 : decode cX7_moved 61 = .ok (.iadd, 1) := by decide +kernel
theorem dX7_moved_62 : decode cX7_moved 62 = .ok (.istore_n 2, 1) := by decide +kernel
theorem dX7_moved_63 : decode cX7_moved 63 = .ok (.iinc 3 1, 3) := by decide +kernel
theorem dX7_moved_66 : decode cX7_moved 66 = .ok (.goto (-57), 3) := by decide +kernel
theorem dX7_moved_69 : decode cX7_moved 69 = .ok (.iload_n 2, 1) := by decide +kernel
theorem dX7_moved_70 : decode cX7_moved 70 = .ok (.ireturn, 1) := by decide +kernel
set_option maxRecDepth 20000 in
theorem ggX7_displacement_X7_moved : GoodIn wsX7_displacement wsX7_moved := goodIn_r _ [6, 7, 8, 9, 10, 11, 12, 5, 13, 14, 15, 16, 17, 18, 19, 20, 21, 22, 23, 24, 25, 26, 27, 28, 29, 30, 31, 32, 33, 34, 35, 36, 37, 38, 39, 40, 41, 42, 43, 44, 45, 46] (by decide +kernel) (by decide +kernel)
set_option maxRecDepth 20000 in
theorem gX7_displacement_X7_moved : GoodIn wsX7_displacement (wsV RX7 80 RX7 yX7_moved wsX7_moved) := goodIn_app (goodIn_of _ (by decide +kernel)) ggX7_displacement_X7_moved
theorem dX7_displacement_0 : decode cX7_displacement 0 = .ok (.aload_n 0, 1) := by decide +kernel
theorem dX7_displacement_1 : decode cX7_displacement 1 = .ok (.iconst 0, 1) := by decide +kernel
theorem dX7_displacement_2 : decode cX7_displacement 2 = .ok (.putfield 35, 3) := by decide +kernel
theorem dX7_displacement_5 : decode cX7_displacement 5 = .ok (.aload_n 0, 1) := by decide +kernel
theorem dX7_displacement_6 : decode cX7_displacement 6 = .ok (.invokevirtual 80, 3) := by decide +kernel
theorem dX7_displacement_9 : decode cX7_displacement 9 = .ok (.ireturn, 1) := by decide +kernel
theorem dX7_listsOf_0 : decode cX7_listsOf 0 = .ok (.iconst 1, 1) := by decide +kernel
theorem dX7_listsOf_1 : decode cX7_listsOf 1 = .ok (.istore_n 2, 1) := by decide +kernel
theorem dX7_listsOf_2 : decode cX7_listsOf 2 = .ok (.iconst 0, 1) := by decide +kernel
theorem dX7_listsOf_3 : decode cX7_listsOf 3 = .ok (.istore_n 3, 1) := by decide +kernel
theorem dX7_listsOf_4 : decode cX7_listsOf 4 = .ok (.iload_n 3, 1) := by decide +kernel
theorem dX7_listsOf_5 : decode cX7_listsOf 5 = .ok (.iload_n 1, 1) := by decide +kernel
theorem dX7_listsOf_6 : decode cX7_listsOf 6 = .ok (.if_icmp .ge 24, 3) := by decide +kernel
theorem dX7_listsOf_9 : decode cX7_listsOf 9 = .ok (.iload_n 2, 1) := by decide +kernel
theorem dX7_listsOf_10 : decode cX7_listsOf 10 = .ok (.aload_n 0, 1) := by decide +kernel
theorem dX7_listsOf_11 : decode cX7_listsOf 11 = .ok (.getfield 31, 3) := by decide +kernel
theorem dX7_listsOf_14 : decode cX7_listsOf 14 = .ok (.imul, 1) := by decide +kernel
theorem dX7_listsOf_15 : decode cX7_listsOf 15 = .ok (.istore_n 2, 1) := by decide +kernel
theorem dX7_listsOf_16 : decode cX7_listsOf 16 = .ok (.iload_n 2, 1) := by decide +kernel
theorem dX7_listsOf_17 : decode cX7_listsOf 17 = .ok (.ldc 83, 2) := by decide +kernel
theorem dX7_listsOf_19 : decode cX7_listsOf 19 = .ok (.if_icmp .le 5, 3) := by decide +kernel
theorem dX7_listsOf_22 : decode cX7_listsOf 22 = .ok (.iconst 0, 1) := by decide +kernel
theorem dX7_listsOf_23 : decode cX7_listsOf 23 = .ok (.ireturn, 1) := by decide +kernel
theorem dX7_listsOf_24 : decode cX7_listsOf 24 = .ok (.iinc 3 1, 3) := by decide +kernel
theorem dX7_listsOf_27 : decode cX7_listsOf 27 = .ok (.goto (-23), 3) := by decide +kernel
theorem dX7_listsOf_30 : decode cX7_listsOf 30 = .ok (.iload_n 2, 1) := by decide +kernel
theorem dX7_listsOf_31 : decode cX7_listsOf 31 = .ok (.ireturn, 1) := by decide +kernel
theorem dX7_spreads_0 : decode cX7_spreads 0 = .ok (.iload_n 1, 1) := by decide +kernel
theorem dX7_spreads_1 : decode cX7_spreads 1 = .ok (.istore_n 3, 1) := by decide +kernel
theorem dX7_spreads_2 : decode cX7_spreads 2 = .ok (.iload_n 2, 1) := by decide +kernel
theorem dX7_spreads_3 : decode cX7_spreads 3 = .ok (.iconst 1, 1) := by decide +kernel
theorem dX7_spreads_4 : decode cX7_spreads 4 = .ok (.isub, 1) := by decide +kernel
theorem dX7_spreads_5 : decode cX7_spreads 5 = .ok (.istore 4, 2) := by decide +kernel
theorem dX7_spreads_7 : decode cX7_spreads 7 = .ok (.iload 4, 2) := by decide +kernel
theorem dX7_spreads_9 : decode cX7_spreads 9 = .ok (.ifCond .lt 29, 3) := by decide +kernel
theorem dX7_spreads_12 : decode cX7_spreads 12 = .ok (.aload_n 0, 1) := by decide +kernel
theorem dX7_spreads_13 : decode cX7_spreads 13 = .ok (.getfield 16, 3) := by decide +kernel
theorem dX7_spreads_16 : decode cX7_spreads 16 = .ok (.iload 4, 2) := by decide +kernel
theorem dX7_spreads_18 : decode cX7_spreads 18 = .ok (.iload_n 3, 1) := by decide +kernel
theorem dX7_spreads_19 : decode cX7_spreads 19 = .ok (.aload_n 0, 1) := by decide +kernel
theorem dX7_spreads_20 : decode cX7_spreads 20 = .ok (.getfield 31, 3) := by decide +kernel
theorem dX7_spreads_23 : decode cX7_spreads 23 = .ok (.irem, 1) := by decide +kernel
theorem dX7_spreads_24 : decode cX7_spreads 24 = .ok (.iastore, 1) := by decide +kernel
theorem dX7_spreads_25 : decode cX7_spreads 25 = .ok (.iload_n 3, 1) := by decide +kernel
theorem dX7_spreads_26 : decode cX7_spreads 26 = .ok (.aload_n 0, 1) := by decide +kernel
theorem dX7_spreads_27 : decode cX7_spreads 27 = .ok (.getfield 31, 3) := by decide +kernel
theorem dX7_spreads_30 : decode cX7_spreads 30 = .ok (.idiv, 1) := by decide +kernel
theorem dX7_spreads_31 : decode cX7_spreads 31 = .ok (.istore_n 3, 1) := by decide +kernel
theorem dX7_spreads_32 : decode cX7_spreads 32 = .ok (.iinc 4 (-1), 3) := by decide +kernel
theorem dX7_spreads_35 : decode cX7_spreads 35 = .ok (.goto (-28), 3) := by decide +kernel
theorem dX7_spreads_38 : decode cX7_spreads 38 = .ok (.return_, 1) := by decide +kernel
theorem dX7_sumOf_0 : decode cX7_sumOf 0 = .ok (.iconst 0, 1) := by decide +kernel
theorem dX7_sumOf_1 : decode cX7_sumOf 1 = .ok (.istore_n 2, 1) := by decide +kernel
theorem dX7_sumOf_2 : decode cX7_sumOf 2 = .ok (.iconst 0, 1) := by decide +kernel
theorem dX7_sumOf_3 : decode cX7_sumOf 3 = .ok (.istore_n 3, 1) := by decide +kernel
theorem dX7_sumOf_4 : decode cX7_sumOf 4 = .ok (.iload_n 3, 1) := by decide +kernel
theorem dX7_sumOf_5 : decode cX7_sumOf 5 = .ok (.iload_n 1, 1) := by decide +kernel
theorem dX7_sumOf_6 : decode cX7_sumOf 6 = .ok (.if_icmp .ge 18, 3) := by decide +kernel
theorem dX7_sumOf_9 : decode cX7_sumOf 9 = .ok (.iload_n 2, 1) := by decide +kernel
theorem dX7_sumOf_10 : decode cX7_sumOf 10 = .ok (.aload_n 0, 1) := by decide +kernel
theorem dX7_sumOf_11 : decode cX7_sumOf 11 = .ok (.getfield 16, 3) := by decide +kernel
theorem dX7_sumOf_14 : decode cX7_sumOf 14 = .ok (.iload_n 3, 1) := by decide +kernel
theorem dX7_sumOf_15 : decode cX7_sumOf 15 = .ok (.iaload, 1) := by decide +kernel
theorem dX7_sumOf_16 : decode cX7_sumOf 16 = .ok (.iadd, 1) := by decide +kernel
theorem dX7_sumOf_17 : decode cX7_sumOf 17 = .ok (.istore_n 2, 1) := by decide +kernel
theorem dX7_sumOf_18 : decode cX7_sumOf 18 = .ok (.iinc 3 1, 3) := by decide +kernel
theorem dX7_sumOf_21 : decode cX7_sumOf 21 = .ok (.goto (-17), 3) := by decide +kernel
theorem dX7_sumOf_24 : decode cX7_sumOf 24 = .ok (.iload_n 2, 1) := by decide +kernel
theorem dX7_sumOf_25 : decode cX7_sumOf 25 = .ok (.ireturn, 1) := by decide +kernel
theorem dX7_luckyOf_0 : decode cX7_luckyOf 0 = .ok (.iconst 0, 1) := by decide +kernel
theorem dX7_luckyOf_1 : decode cX7_luckyOf 1 = .ok (.istore_n 2, 1) := by decide +kernel
theorem dX7_luckyOf_2 : decode cX7_luckyOf 2 = .ok (.iconst 0, 1) := by decide +kernel
theorem dX7_luckyOf_3 : decode cX7_luckyOf 3 = .ok (.istore_n 3, 1) := by decide +kernel
theorem dX7_luckyOf_4 : decode cX7_luckyOf 4 = .ok (.iload_n 3, 1) := by decide +kernel
theorem dX7_luckyOf_5 : decode cX7_luckyOf 5 = .ok (.iload_n 1, 1) := by decide +kernel
theorem dX7_luckyOf_6 : decode cX7_luckyOf 6 = .ok (.if_icmp .ge 32, 3) := by decide +kernel
theorem dX7_luckyOf_9 : decode cX7_luckyOf 9 = .ok (.iload_n 2, 1) := by decide +kernel
theorem dX7_luckyOf_10 : decode cX7_luckyOf 10 = .ok (.aload_n 0, 1) := by decide +kernel
theorem dX7_luckyOf_11 : decode cX7_luckyOf 11 = .ok (.getfield 19, 3) := by decide +kernel
theorem dX7_luckyOf_14 : decode cX7_luckyOf 14 = .ok (.iload_n 3, 1) := by decide +kernel
theorem dX7_luckyOf_15 : decode cX7_luckyOf 15 = .ok (.iaload, 1) := by decide +kernel
theorem dX7_luckyOf_16 : decode cX7_luckyOf 16 = .ok (.aload_n 0, 1) := by decide +kernel
theorem dX7_luckyOf_17 : decode cX7_luckyOf 17 = .ok (.getfield 16, 3) := by decide +kernel
theorem dX7_luckyOf_20 : decode cX7_luckyOf 20 = .ok (.iload_n 3, 1) := by decide +kernel
theorem dX7_luckyOf_21 : decode cX7_luckyOf 21 = .ok (.iaload, 1) := by decide +kernel
theorem dX7_luckyOf_22 : decode cX7_luckyOf 22 = .ok (.if_icmp .ne 7, 3) := by decide +kernel
theorem dX7_luckyOf_25 : decode cX7_luckyOf 25 = .ok (.iconst 1, 1) := by decide +kernel
theorem dX7_luckyOf_26 : decode cX7_luckyOf 26 = .ok (.goto 4, 3) := by decide +kernel
theorem dX7_luckyOf_29 : decode cX7_luckyOf 29 = .ok (.iconst 0, 1) := by decide +kernel
theorem dX7_luckyOf_30 : decode cX7_luckyOf 30 = .ok (.iadd, 1) := by decide +kernel
theorem dX7_luckyOf_31 : decode cX7_luckyOf 31 = .ok (.istore_n 2, 1) := by decide +kernel
theorem dX7_luckyOf_32 : decode cX7_luckyOf 32 = .ok (.iinc 3 1, 3) := by decide +kernel
theorem dX7_luckyOf_35 : decode cX7_luckyOf 35 = .ok (.goto (-31), 3) := by decide +kernel
theorem dX7_luckyOf_38 : decode cX7_luckyOf 38 = .ok (.iload_n 2, 1) := by decide +kernel
theorem dX7_luckyOf_39 : decode cX7_luckyOf 39 = .ok (.ireturn, 1) := by decide +kernel
set_option maxRecDepth 20000 in
theorem ggX7_counts_X7_in : GoodIn wsX7_counts wsX7_in := goodIn_r _ [5] (by decide +kernel) (by decide +kernel)
set_option maxRecDepth 20000 in
theorem gX7_counts_X7_in : GoodIn wsX7_counts (va_wsS RX7 44 yX7_in wsX7_in) := goodIn_app (goodIn_of _ (by decide +kernel)) ggX7_counts_X7_in
set_option maxRecDepth 20000 in
theorem ggX7_counts_X7_listsOf : GoodIn wsX7_counts wsX7_listsOf := goodIn_r _ [9, 10, 11, 41, 42, 43, 44, 45, 46, 47, 48, 49, 50, 51] (by decide +kernel) (by decide +kernel)
set_option maxRecDepth 20000 in
theorem gX7_counts_X7_listsOf : GoodIn wsX7_counts (wsV RX7 84 RX7 yX7_listsOf wsX7_listsOf) := goodIn_app (goodIn_of _ (by decide +kernel)) ggX7_counts_X7_listsOf
set_option maxRecDepth 20000 in
theorem ggX7_counts_X7_spreads : GoodIn wsX7_counts wsX7_spreads := goodIn_r _ [15, 16, 10, 41, 42, 43, 44, 45, 46, 47, 48, 49, 50, 51] (by decide +kernel) (by decide +kernel)
set_option maxRecDepth 20000 in
theorem gX7_counts_X7_spreads : GoodIn wsX7_counts (wsV RX7 87 RX7 yX7_spreads wsX7_spreads) := goodIn_app (goodIn_of _ (by decide +kernel)) ggX7_counts_X7_spreads
set_option maxRecDepth 20000 in
theorem ggX7_counts_X7_parksAll : GoodIn wsX7_counts wsX7_parksAll := goodIn_r _ [20, 10, 21, 22, 23, 24, 25, 4, 26, 27, 16, 28, 29, 30, 31, 32, 2, 3, 5, 41, 42, 43, 44, 45, 46, 47, 48, 49, 50, 51] (by decide +kernel) (by decide +kernel)
set_option maxRecDepth 20000 in
theorem gX7_counts_X7_parksAll : GoodIn wsX7_counts (wsV RX7 70 RX7 yX7_parksAll wsX7_parksAll) := goodIn_app (goodIn_of _ (by decide +kernel)) ggX7_counts_X7_parksAll
set_option maxRecDepth 20000 in
theorem ggX7_counts_X7_luckyOf : GoodIn wsX7_counts wsX7_luckyOf := goodIn_r _ [36, 22, 16, 41, 42, 43, 44, 45, 46, 47, 48, 49, 50, 51] (by decide +kernel) (by decide +kernel)
set_option maxRecDepth 20000 in
theorem gX7_counts_X7_luckyOf : GoodIn wsX7_counts (wsV RX7 91 RX7 yX7_luckyOf wsX7_luckyOf) := goodIn_app (goodIn_of _ (by decide +kernel)) ggX7_counts_X7_luckyOf
set_option maxRecDepth 20000 in
theorem ggX7_counts_X7_sumOf : GoodIn wsX7_counts wsX7_sumOf := goodIn_r _ [40, 16, 41, 42, 43, 44, 45, 46, 47, 48, 49, 50, 51] (by decide +kernel) (by decide +kernel)
set_option maxRecDepth 20000 in
theorem gX7_counts_X7_sumOf : GoodIn wsX7_counts (wsV RX7 94 RX7 yX7_sumOf wsX7_sumOf) := goodIn_app (goodIn_of _ (by decide +kernel)) ggX7_counts_X7_sumOf
theorem dX7_counts_0 : decode cX7_counts 0 = .ok (.aload_n 0, 1) := by decide +kernel
theorem dX7_counts_1 : decode cX7_counts 1 = .ok (.iload_n 1, 1) := by decide +kernel
theorem dX7_counts_2 : decode cX7_counts 2 = .ok (.iconst 0, 1) := by decide +kernel
theorem dX7_counts_3 : decode cX7_counts 3 = .ok (.bipush 9, 2) := by decide +kernel
theorem dX7_counts_5 : decode cX7_counts 5 = .ok (.invokestatic 44, 3) := by decide +kernel
theorem dX7_counts_8 : decode cX7_counts 8 = .ok (.ifCond .eq 13, 3) := by decide +kernel
theorem dX7_counts_11 : decode cX7_counts 11 = .ok (.iload_n 3, 1) := by decide +kernel
theorem dX7_counts_12 : decode cX7_counts 12 = .ok (.iconst 0, 1) := by decide +kernel
theorem dX7_counts_13 : decode cX7_counts 13 = .ok (.iload 4, 2) := by decide +kernel
theorem dX7_counts_15 : decode cX7_counts 15 = .ok (.invokestatic 44, 3) := by decide +kernel
theorem dX7_counts_18 : decode cX7_counts 18 = .ok (.ifCond .ne 7, 3) := by decide +kernel
theorem dX7_counts_21 : decode cX7_counts 21 = .ok (.iconst 1, 1) := by decide +kernel
theorem dX7_counts_22 : decode cX7_counts 22 = .ok (.goto 16, 3) := by decide +kernel
theorem dX7_counts_25 : decode cX7_counts 25 = .ok (.aload_n 0, 1) := by decide +kernel
theorem dX7_counts_26 : decode cX7_counts 26 = .ok (.iload_n 1, 1) := by decide +kernel
theorem dX7_counts_27 : decode cX7_counts 27 = .ok (.invokevirtual 84, 3) := by decide +kernel
theorem dX7_counts_30 : decode cX7_counts 30 = .ok (.ifCond .ne 7, 3) := by decide +kernel
theorem dX7_counts_33 : decode cX7_counts 33 = .ok (.iconst 2, 1) := by decide +kernel
theorem dX7_counts_34 : decode cX7_counts 34 = .ok (.goto 4, 3) := by decide +kernel
theorem dX7_counts_37 : decode cX7_counts 37 = .ok (.iconst 0, 1) := by decide +kernel
theorem dX7_counts_38 : decode cX7_counts 38 = .ok (.putfield 35, 3) := by decide +kernel
theorem dX7_counts_41 : decode cX7_counts 41 = .ok (.aload_n 0, 1) := by decide +kernel
theorem dX7_counts_42 : decode cX7_counts 42 = .ok (.getfield 35, 3) := by decide +kernel
theorem dX7_counts_45 : decode cX7_counts 45 = .ok (.ifCond .eq 5, 3) := by decide +kernel
theorem dX7_counts_48 : decode cX7_counts 48 = .ok (.iconst 0, 1) := by decide +kernel
theorem dX7_counts_49 : decode cX7_counts 49 = .ok (.ireturn, 1) := by decide +kernel
theorem dX7_counts_50 : decode cX7_counts 50 = .ok (.iconst 0, 1) := by decide +kernel
theorem dX7_counts_51 : decode cX7_counts 51 = .ok (.istore 5, 2) := by decide +kernel
theorem dX7_counts_53 : decode cX7_counts 53 = .ok (.iconst 0, 1) := by decide +kernel
theorem dX7_counts_54 : decode cX7_counts 54 = .ok (.istore 6, 2) := by decide +kernel
theorem dX7_counts_56 : decode cX7_counts 56 = .ok (.iload 6, 2) := by decide +kernel
theorem dX7_counts_58 : decode cX7_counts 58 = .ok (.aload_n 0, 1) := by decide +kernel
theorem dX7_counts_59 : decode cX7_counts 59 = .ok (.iload_n 1, 1) := by decide +kernel
theorem dX7_counts_60 : decode cX7_counts 60 = .ok (.invokevirtual 84, 3) := by decide +kernel
theorem dX7_counts_63 : decode cX7_counts 63 = .ok (.if_icmp .ge 94, 3) := by decide +kernel
theorem dX7_counts_66 : decode cX7_counts 66 = .ok (.aload_n 0, 1) := by decide +kernel
theorem dX7_counts_67 : decode cX7_counts 67 = .ok (.iload 6, 2) := by decide +kernel
theorem dX7_counts_69 : decode cX7_counts 69 = .ok (.iload_n 1, 1) := by decide +kernel
theorem dX7_counts_70 : decode cX7_counts 70 = .ok (.invokevirtual 87, 3) := by decide +kernel
theorem dX7_counts_73 : decode cX7_counts 73 = .ok (.aload_n 0, 1) := by decide +kernel
theorem dX7_counts_74 : decode cX7_counts 74 = .ok (.iload_n 1, 1) := by decide +kernel
theorem dX7_counts_75 : decode cX7_counts 75 = .ok (.invokevirtual 70, 3) := by decide +kernel
theorem dX7_counts_78 : decode cX7_counts 78 = .ok (.istore 7, 2) := by decide +kernel
theorem dX7_counts_80 : decode cX7_counts 80 = .ok (.iload_n 2, 1) := by decide +kernel
theorem dX7_counts_81 : decode cX7_counts 81 = .ok (.ifCond .ne 17, 3) := by decide +kernel
theorem dX7_counts_84 : decode cX7_counts 84 = .ok (.iload 7, 2) := by decide +kernel
theorem dX7_counts_86 : decode cX7_counts 86 = .ok (.iload_n 3, 1) := by decide +kernel
theorem dX7_counts_87 : decode cX7_counts 87 = .ok (.if_icmp .ne 7, 3) := by decide +kernel
theorem dX7_counts_90 : decode cX7_counts 90 = .ok (.iconst 1, 1) := by decide +kernel
theorem dX7_counts_91 : decode cX7_counts 91 = .ok (.goto 43, 3) := by decide +kernel
theorem dX7_counts_94 : decode cX7_counts 94 = .ok (.iconst 0, 1) := by decide +kernel
theorem dX7_counts_95 : decode cX7_counts 95 = .ok (.goto 39, 3) := by decide +kernel
theorem dX7_counts_98 : decode cX7_counts 98 = .ok (.iload 7, 2) := by decide +kernel
theorem dX7_counts_100 : decode cX7_counts 100 = .ok (.ifCond .ne 33, 3) := by decide +kernel
theorem dX7_counts_103 : decode cX7_counts 103 = .ok (.iload_n 2, 1) := by decide +kernel
theorem dX7_counts_104 : decode cX7_counts 104 = .ok (.iconst 1, 1) := by decide +kernel
theorem dX7_counts_105 : decode cX7_counts 105 = .ok (.if_icmp .ne 15, 3) := by decide +kernel
theorem dX7_counts_108 : decode cX7_counts 108 = .ok (.aload_n 0, 1) := by decide +kernel
theorem dX7_counts_109 : decode cX7_counts 109 = .ok (.iload_n 1, 1) := by decide +kernel
theorem dX7_counts_110 : decode cX7_counts 110 = .ok (.invokevirtual 91, 3) := by decide +kernel
theorem dX7_counts_113 : decode cX7_counts 113 = .ok (.iload_n 3, 1) := by decide +kernel
theorem dX7_counts_114 : decode cX7_counts 114 = .ok (.if_icmp .ne 19, 3) := by decide +kernel
theorem dX7_counts_117 : decode cX7_counts 117 = .ok (.goto 12, 3) := by decide +kernel
theorem dX7_counts_120 : decode cX7_counts 120 = .ok (.aload_n 0, 1) := by decide +kernel
theorem dX7_counts_121 : decode cX7_counts 121 = .ok (.iload_n 1, 1) := by decide +kernel
theorem dX7_counts_122 : decode cX7_counts 122 = .ok (.invokevirtual 94, 3) := by decide +kernel
theorem dX7_counts_125 : decode cX7_counts 125 = .ok (.iload_n 3, 1) := by decide +kernel
theorem dX7_counts_126 : decode cX7_counts 126 = .ok (.if_icmp .ne 7, 3) := by decide +kernel
theorem dX7_counts_129 : decode cX7_counts 129 = .ok (.iconst 1, 1) := by decide +kernel
theorem dX7_counts_130 : decode cX7_counts 130 = .ok (.goto 4, 3) := by decide +kernel
theorem dX7_counts_133 : decode cX7_counts 133 = .ok (.iconst 0, 1) := by decide +kernel
theorem dX7_counts_134 : decode cX7_counts 134 = .ok (.istore 8, 2) := by decide +kernel
theorem dX7_counts_136 : decode cX7_counts 136 = .ok (.iload 5, 2) := by decide +kernel
theorem dX7_counts_138 : decode cX7_counts 138 = .ok (.iload 8, 2) := by decide +kernel
theorem dX7_counts_140 : decode cX7_counts 140 = .ok (.ifCond .eq 7, 3) := by decide +kernel
theorem dX7_counts_143 : decode cX7_counts 143 = .ok (.iconst 1, 1) := by decide +kernel
theorem dX7_counts_144 : decode cX7_counts 144 = .ok (.goto 4, 3) := by decide +kernel
theorem dX7_counts_147 : decode cX7_counts 147 = .ok (.iconst 0, 1) := by decide +kernel
theorem dX7_counts_148 : decode cX7_counts 148 = .ok (.iadd, 1) := by decide +kernel
theorem dX7_counts_149 : decode cX7_counts 149 = .ok (.istore 5, 2) := by decide +kernel
theorem dX7_counts_151 : decode cX7_counts 151 = .ok (.iinc 6 1, 3) := by decide +kernel
theorem dX7_counts_154 : decode cX7_counts 154 = .ok (.goto (-98), 3) := by decide +kernel
theorem dX7_counts_157 : decode cX7_counts 157 = .ok (.iload 5, 2) := by decide +kernel
theorem dX7_counts_159 : decode cX7_counts 159 = .ok (.ireturn, 1) := by decide +kernel
set_option maxRecDepth 20000 in
theorem ggX7_countDefect_X7_counts : GoodIn wsX7_countDefect wsX7_counts := goodIn_r _ [5, 6, 7, 8, 4, 9, 10, 11, 12, 13, 14, 15, 16, 17, 18, 19, 20, 21, 22, 23, 24, 25, 26, 27, 28, 29, 30, 31, 32, 33, 34, 35, 36, 37, 38, 39, 40, 41, 42, 43, 44, 45, 46, 47, 48, 49, 50, 51, 52, 53, 54, 55] (by decide +kernel) (by decide +kernel)
set_option maxRecDepth 20000 in
theorem gX7_countDefect_X7_counts : GoodIn wsX7_countDefect (wsV RX7 97 RX7 yX7_counts wsX7_counts) := goodIn_app (goodIn_of _ (by decide +kernel)) ggX7_countDefect_X7_counts
theorem dX7_countDefect_0 : decode cX7_countDefect 0 = .ok (.aload_n 0, 1) := by decide +kernel
theorem dX7_countDefect_1 : decode cX7_countDefect 1 = .ok (.iload_n 1, 1) := by decide +kernel
theorem dX7_countDefect_2 : decode cX7_countDefect 2 = .ok (.iconst 0, 1) := by decide +kernel
theorem dX7_countDefect_3 : decode cX7_countDefect 3 = .ok (.iload_n 2, 1) := by decide +kernel
theorem dX7_countDefect_4 : decode cX7_countDefect 4 = .ok (.bipush 9, 2) := by decide +kernel
theorem dX7_countDefect_6 : decode cX7_countDefect 6 = .ok (.invokevirtual 97, 3) := by decide +kernel
theorem dX7_countDefect_9 : decode cX7_countDefect 9 = .ok (.ireturn, 1) := by decide +kernel
set_option maxRecDepth 20000 in
theorem ggX7_countLucky_X7_counts : GoodIn wsX7_countLucky wsX7_counts := goodIn_r _ [5, 6, 7, 8, 4, 9, 10, 11, 12, 13, 14, 15, 16, 17, 18, 19, 20, 21, 22, 23, 24, 25, 26, 27, 28, 29, 30, 31, 32, 33, 34, 35, 36, 37, 38, 39, 40, 41, 42, 43, 44, 45, 46, 47, 48, 49, 50, 51, 52, 53, 54, 55] (by decide +kernel) (by decide +kernel)
set_option maxRecDepth 20000 in
theorem gX7_countLucky_X7_counts : GoodIn wsX7_countLucky (wsV RX7 97 RX7 yX7_counts wsX7_counts) := goodIn_app (goodIn_of _ (by decide +kernel)) ggX7_countLucky_X7_counts
theorem dX7_countLucky_0 : decode cX7_countLucky 0 = .ok (.aload_n 0, 1) := by decide +kernel
theorem dX7_countLucky_1 : decode cX7_countLucky 1 = .ok (.iload_n 1, 1) := by decide +kernel
theorem dX7_countLucky_2 : decode cX7_countLucky 2 = .ok (.iconst 1, 1) := by decide +kernel
theorem dX7_countLucky_3 : decode cX7_countLucky 3 = .ok (.iload_n 2, 1) := by decide +kernel
theorem dX7_countLucky_4 : decode cX7_countLucky 4 = .ok (.bipush 9, 2) := by decide +kernel
theorem dX7_countLucky_6 : decode cX7_countLucky 6 = .ok (.invokevirtual 97, 3) := by decide +kernel
theorem dX7_countLucky_9 : decode cX7_countLucky 9 = .ok (.ireturn, 1) := by decide +kernel
set_option maxRecDepth 20000 in
theorem ggX7_countSum_X7_counts : GoodIn wsX7_countSum wsX7_counts := goodIn_r _ [5, 6, 7, 8, 4, 9, 10, 11, 12, 13, 14, 15, 16, 17, 18, 19, 20, 21, 22, 23, 24, 25, 26, 27, 28, 29, 30, 31, 32, 33, 34, 35, 36, 37, 38, 39, 40, 41, 42, 43, 44, 45, 46, 47, 48, 49, 50, 51, 52, 53, 54, 55] (by decide +kernel) (by decide +kernel)
set_option maxRecDepth 20000 in
theorem gX7_countSum_X7_counts : GoodIn wsX7_countSum (wsV RX7 97 RX7 yX7_counts wsX7_counts) := goodIn_app (goodIn_of _ (by decide +kernel)) ggX7_countSum_X7_counts
theorem dX7_countSum_0 : decode cX7_countSum 0 = .ok (.aload_n 0, 1) := by decide +kernel
theorem dX7_countSum_1 : decode cX7_countSum 1 = .ok (.iload_n 1, 1) := by decide +kernel
theorem dX7_countSum_2 : decode cX7_countSum 2 = .ok (.iconst 2, 1) := by decide +kernel
theorem dX7_countSum_3 : decode cX7_countSum 3 = .ok (.iload_n 2, 1) := by decide +kernel
theorem dX7_countSum_4 : decode cX7_countSum 4 = .ok (.bipush 63, 2) := by decide +kernel
theorem dX7_countSum_6 : decode cX7_countSum 6 = .ok (.invokevirtual 97, 3) := by decide +kernel
theorem dX7_countSum_9 : decode cX7_countSum 9 = .ok (.ireturn, 1) := by decide +kernel
set_option maxRecDepth 20000 in
theorem ggX7_rank_X7_listsOf : GoodIn wsX7_rank wsX7_listsOf := goodIn_r _ [8, 3, 9, 33, 34, 35, 36, 37, 38, 39, 40, 41, 42, 43] (by decide +kernel) (by decide +kernel)
set_option maxRecDepth 20000 in
theorem gX7_rank_X7_listsOf : GoodIn wsX7_rank (wsV RX7 84 RX7 yX7_listsOf wsX7_listsOf) := goodIn_app (goodIn_of _ (by decide +kernel)) ggX7_rank_X7_listsOf
set_option maxRecDepth 20000 in
theorem ggX7_rank_X7_spreads : GoodIn wsX7_rank wsX7_spreads := goodIn_r _ [13, 14, 3, 33, 34, 35, 36, 37, 38, 39, 40, 41, 42, 43] (by decide +kernel) (by decide +kernel)
set_option maxRecDepth 20000 in
theorem gX7_rank_X7_spreads : GoodIn wsX7_rank (wsV RX7 87 RX7 yX7_spreads wsX7_spreads) := goodIn_app (goodIn_of _ (by decide +kernel)) ggX7_rank_X7_spreads
set_option maxRecDepth 20000 in
theorem ggX7_rank_X7_parksAll : GoodIn wsX7_rank wsX7_parksAll := goodIn_r _ [18, 3, 19, 20, 21, 22, 23, 7, 24, 25, 14, 1, 26, 27, 28, 29, 30, 31, 32, 33, 34, 35, 36, 37, 38, 39, 40, 41, 42, 43] (by decide +kernel) (by decide +kernel)
set_option maxRecDepth 20000 in
theorem gX7_rank_X7_parksAll : GoodIn wsX7_rank (wsV RX7 70 RX7 yX7_parksAll wsX7_parksAll) := goodIn_app (goodIn_of _ (by decide +kernel)) ggX7_rank_X7_parksAll
theorem dX7_rank_0 : decode cX7_rank 0 = .ok (.aload_n 0, 1) := by decide +kernel
theorem dX7_rank_1 : decode cX7_rank 1 = .ok (.aload_n 0, 1) := by decide +kernel
theorem dX7_rank_2 : decode cX7_rank 2 = .ok (.aload_n 0, 1) := by decide +kernel
theorem dX7_rank_3 : decode cX7_rank 3 = .ok (.getfield 7, 3) := by decide +kernel
theorem dX7_rank_6 : decode cX7_rank 6 = .ok (.iconst 0, 1) := by decide +kernel
theorem dX7_rank_7 : decode cX7_rank 7 = .ok (.iaload, 1) := by decide +kernel
theorem dX7_rank_8 : decode cX7_rank 8 = .ok (.invokevirtual 84, 3) := by decide +kernel
theorem dX7_rank_11 : decode cX7_rank 11 = .ok (.ifCond .ne 7, 3) := by decide +kernel
theorem dX7_rank_14 : decode cX7_rank 14 = .ok (.iconst 1, 1) := by decide +kernel
theorem dX7_rank_15 : decode cX7_rank 15 = .ok (.goto 4, 3) := by decide +kernel
theorem dX7_rank_18 : decode cX7_rank 18 = .ok (.iconst 0, 1) := by decide +kernel
theorem dX7_rank_19 : decode cX7_rank 19 = .ok (.putfield 35, 3) := by decide +kernel
theorem dX7_rank_22 : decode cX7_rank 22 = .ok (.aload_n 0, 1) := by decide +kernel
theorem dX7_rank_23 : decode cX7_rank 23 = .ok (.getfield 35, 3) := by decide +kernel
theorem dX7_rank_26 : decode cX7_rank 26 = .ok (.ifCond .eq 5, 3) := by decide +kernel
theorem dX7_rank_29 : decode cX7_rank 29 = .ok (.iconst 0, 1) := by decide +kernel
theorem dX7_rank_30 : decode cX7_rank 30 = .ok (.ireturn, 1) := by decide +kernel
theorem dX7_rank_31 : decode cX7_rank 31 = .ok (.iconst 0, 1) := by decide +kernel
theorem dX7_rank_32 : decode cX7_rank 32 = .ok (.istore_n 1, 1) := by decide +kernel
theorem dX7_rank_33 : decode cX7_rank 33 = .ok (.iconst 0, 1) := by decide +kernel
theorem dX7_rank_34 : decode cX7_rank 34 = .ok (.istore_n 2, 1) := by decide +kernel
theorem dX7_rank_35 : decode cX7_rank 35 = .ok (.iload_n 2, 1) := by decide +kernel
theorem dX7_rank_36 : decode cX7_rank 36 = .ok (.aload_n 0, 1) := by decide +kernel
theorem dX7_rank_37 : decode cX7_rank 37 = .ok (.getfield 7, 3) := by decide +kernel
theorem dX7_rank_40 : decode cX7_rank 40 = .ok (.iconst 0, 1) := by decide +kernel
theorem dX7_rank_41 : decode cX7_rank 41 = .ok (.iaload, 1) := by decide +kernel
theorem dX7_rank_42 : decode cX7_rank 42 = .ok (.if_icmp .ge 26, 3) := by decide +kernel
theorem dX7_rank_45 : decode cX7_rank 45 = .ok (.aload_n 0, 1) := by decide +kernel
theorem dX7_rank_46 : decode cX7_rank 46 = .ok (.getfield 31, 3) := by decide +kernel
theorem dX7_rank_49 : decode cX7_rank 49 = .ok (.iload_n 1, 1) := by decide +kernel
theorem dX7_rank_50 : decode cX7_rank 50 = .ok (.imul, 1) := by decide +kernel
theorem dX7_rank_51 : decode cX7_rank 51 = .ok (.aload_n 0, 1) := by decide +kernel
theorem dX7_rank_52 : decode cX7_rank 52 = .ok (.getfield 7, 3) := by decide +kernel
theorem dX7_rank_55 : decode cX7_rank 55 = .ok (.bipush 12, 2) := by decide +kernel
theorem dX7_rank_57 : decode cX7_rank 57 = .ok (.iload_n 2, 1) := by decide +kernel
theorem dX7_rank_58 : decode cX7_rank 58 = .ok (.iadd, 1) := by decide +kernel
theorem dX7_rank_59 : decode cX7_rank 59 = .ok (.iaload, 1) := by decide +kernel
theorem dX7_rank_60 : decode cX7_rank 60 = .ok (.iadd, 1) := by decide +kernel
theorem dX7_rank_61 : decode cX7_rank 61 = .ok (.istore_n 1, 1) := by decide +kernel
theorem dX7_rank_62 : decode cX7_rank 62 = .ok (.iinc 2 1, 3) := by decide +kernel
theorem dX7_rank_65 : decode cX7_rank 65 = .ok (.goto (-30), 3) := by decide +kernel
theorem dX7_rank_68 : decode cX7_rank 68 = .ok (.iconst 0, 1) := by decide +kernel
theorem dX7_rank_69 : decode cX7_rank 69 = .ok (.istore_n 2, 1) := by decide +kernel
theorem dX7_rank_70 : decode cX7_rank 70 = .ok (.iconst 0, 1) := by decide +kernel
theorem dX7_rank_71 : decode cX7_rank 71 = .ok (.istore_n 3, 1) := by decide +kernel
theorem dX7_rank_72 : decode cX7_rank 72 = .ok (.iload_n 3, 1) := by decide +kernel
theorem dX7_rank_73 : decode cX7_rank 73 = .ok (.iload_n 1, 1) := by decide +kernel
theorem dX7_rank_74 : decode cX7_rank 74 = .ok (.if_icmp .ge 41, 3) := by decide +kernel
theorem dX7_rank_77 : decode cX7_rank 77 = .ok (.aload_n 0, 1) := by decide +kernel
theorem dX7_rank_78 : decode cX7_rank 78 = .ok (.iload_n 3, 1) := by decide +kernel
theorem dX7_rank_79 : decode cX7_rank 79 = .ok (.aload_n 0, 1) := by decide +kernel
theorem dX7_rank_80 : decode cX7_rank 80 = .ok (.getfield 7, 3) := by decide +kernel
theorem dX7_rank_83 : decode cX7_rank 83 = .ok (.iconst 0, 1) := by decide +kernel
theorem dX7_rank_84 : decode cX7_rank 84 = .ok (.iaload, 1) := by decide +kernel
theorem dX7_rank_85 : decode cX7_rank 85 = .ok (.invokevirtual 87, 3) := by decide +kernel
theorem dX7_rank_88 : decode cX7_rank 88 = .ok (.iload_n 2, 1) := by decide +kernel
theorem dX7_rank_89 : decode cX7_rank 89 = .ok (.aload_n 0, 1) := by decide +kernel
theorem dX7_rank_90 : decode cX7_rank 90 = .ok (.aload_n 0, 1) := by decide +kernel
theorem dX7_rank_91 : decode cX7_rank 91 = .ok (.getfield 7, 3) := by decide +kernel
theorem dX7_rank_94 : decode cX7_rank 94 = .ok (.iconst 0, 1) := by decide +kernel
theorem dX7_rank_95 : decode cX7_rank 95 = .ok (.iaload, 1) := by decide +kernel
theorem dX7_rank_96 : decode cX7_rank 96 = .ok (.invokevirtual 70, 3) := by decide +kernel
theorem dX7_rank_99 : decode cX7_rank 99 = .ok (.ifCond .ne 7, 3) := by decide +kernel
theorem dX7_rank_102 : decode cX7_rank 102 = .ok (.iconst 1, 1) := by decide +kernel
theorem dX7_rank_103 : decode cX7_rank 103 = .ok (.goto 4, 3) := by decide +kernel
theorem dX7_rank_106 : decode cX7_rank 106 = .ok (.iconst 0, 1) := by decide +kernel
theorem dX7_rank_107 : decode cX7_rank 107 = .ok (.iadd, 1) := by decide +kernel
theorem dX7_rank_108 : decode cX7_rank 108 = .ok (.istore_n 2, 1) := by decide +kernel
theorem dX7_rank_109 : decode cX7_rank 109 = .ok (.iinc 3 1, 3) := by decide +kernel
theorem dX7_rank_112 : decode cX7_rank 112 = .ok (.goto (-40), 3) := by decide +kernel
theorem dX7_rank_115 : decode cX7_rank 115 = .ok (.iload_n 2, 1) := by decide +kernel
theorem dX7_rank_116 : decode cX7_rank 116 = .ok (.ireturn, 1) := by decide +kernel
set_option maxRecDepth 20000 in
theorem ggX7_ranked_X7_listsOf : GoodIn wsX7_ranked wsX7_listsOf := goodIn_r _ [5, 6, 7, 32, 33, 34, 35, 36, 37, 38, 39, 40, 41, 42] (by decide +kernel) (by decide +kernel)
set_option maxRecDepth 20000 in
theorem gX7_ranked_X7_listsOf : GoodIn wsX7_ranked (wsV RX7 84 RX7 yX7_listsOf wsX7_listsOf) := goodIn_app (goodIn_of _ (by decide +kernel)) ggX7_ranked_X7_listsOf
set_option maxRecDepth 20000 in
theorem ggX7_ranked_X7_spreads : GoodIn wsX7_ranked wsX7_spreads := goodIn_r _ [11, 12, 6, 32, 33, 34, 35, 36, 37, 38, 39, 40, 41, 42] (by decide +kernel) (by decide +kernel)
set_option maxRecDepth 20000 in
theorem gX7_ranked_X7_spreads : GoodIn wsX7_ranked (wsV RX7 87 RX7 yX7_spreads wsX7_spreads) := goodIn_app (goodIn_of _ (by decide +kernel)) ggX7_ranked_X7_spreads
set_option maxRecDepth 20000 in
theorem ggX7_ranked_X7_parksAll : GoodIn wsX7_ranked wsX7_parksAll := goodIn_r _ [16, 6, 17, 18, 19, 20, 21, 4, 22, 23, 12, 24, 25, 26, 27, 28, 29, 30, 31, 32, 33, 34, 35, 36, 37, 38, 39, 40, 41, 42] (by decide +kernel) (by decide +kernel)
set_option maxRecDepth 20000 in
theorem gX7_ranked_X7_parksAll : GoodIn wsX7_ranked (wsV RX7 70 RX7 yX7_parksAll wsX7_parksAll) := goodIn_app (goodIn_of _ (by decide +kernel)) ggX7_ranked_X7_parksAll
theorem dX7_ranked_0 : decode cX7_ranked 0 = .ok (.iload_n 2, 1) := by decide +kernel
theorem dX7_ranked_1 : decode cX7_ranked 1 = .ok (.istore_n 3, 1) := by decide +kernel
theorem dX7_ranked_2 : decode cX7_ranked 2 = .ok (.iconst 0, 1) := by decide +kernel
theorem dX7_ranked_3 : decode cX7_ranked 3 = .ok (.istore 4, 2) := by decide +kernel
theorem dX7_ranked_5 : decode cX7_ranked 5 = .ok (.iload 4, 2) := by decide +kernel
theorem dX7_ranked_7 : decode cX7_ranked 7 = .ok (.aload_n 0, 1) := by decide +kernel
theorem dX7_ranked_8 : decode cX7_ranked 8 = .ok (.iload_n 1, 1) := by decide +kernel
theorem dX7_ranked_9 : decode cX7_ranked 9 = .ok (.invokevirtual 84, 3) := by decide +kernel
theorem dX7_ranked_12 : decode cX7_ranked 12 = .ok (.if_icmp .ge 34, 3) := by decide +kernel
theorem dX7_ranked_15 : decode cX7_ranked 15 = .ok (.aload_n 0, 1) := by decide +kernel
theorem dX7_ranked_16 : decode cX7_ranked 16 = .ok (.iload 4, 2) := by decide +kernel
theorem dX7_ranked_18 : decode cX7_ranked 18 = .ok (.iload_n 1, 1) := by decide +kernel
theorem dX7_ranked_19 : decode cX7_ranked 19 = .ok (.invokevirtual 87, 3) := by decide +kernel
theorem dX7_ranked_22 : decode cX7_ranked 22 = .ok (.aload_n 0, 1) := by decide +kernel
theorem dX7_ranked_23 : decode cX7_ranked 23 = .ok (.iload_n 1, 1) := by decide +kernel
theorem dX7_ranked_24 : decode cX7_ranked 24 = .ok (.invokevirtual 70, 3) := by decide +kernel
theorem dX7_ranked_27 : decode cX7_ranked 27 = .ok (.ifCond .ne 13, 3) := by decide +kernel
theorem dX7_ranked_30 : decode cX7_ranked 30 = .ok (.iload_n 3, 1) := by decide +kernel
theorem dX7_ranked_31 : decode cX7_ranked 31 = .ok (.ifCond .ne 6, 3) := by decide +kernel
theorem dX7_ranked_34 : decode cX7_ranked 34 = .ok (.iload 4, 2) := by decide +kernel
theorem dX7_ranked_36 : decode cX7_ranked 36 = .ok (.ireturn, 1) := by decide +kernel
theorem dX7_ranked_37 : decode cX7_ranked 37 = .ok (.iinc 3 (-1), 3) := by decide +kernel
theorem dX7_ranked_40 : decode cX7_ranked 40 = .ok (.iinc 4 1, 3) := by decide +kernel
theorem dX7_ranked_43 : decode cX7_ranked 43 = .ok (.goto (-38), 3) := by decide +kernel
theorem dX7_ranked_46 : decode cX7_ranked 46 = .ok (.iconst (-1), 1) := by decide +kernel
theorem dX7_ranked_47 : decode cX7_ranked 47 = .ok (.ireturn, 1) := by decide +kernel
set_option maxRecDepth 20000 in
theorem ggX7_setRank_X7_in : GoodIn wsX7_setRank wsX7_in := goodIn_r _ [5] (by decide +kernel) (by decide +kernel)
set_option maxRecDepth 20000 in
theorem gX7_setRank_X7_in : GoodIn wsX7_setRank (va_wsS RX7 44 yX7_in wsX7_in) := goodIn_app (goodIn_of _ (by decide +kernel)) ggX7_setRank_X7_in
set_option maxRecDepth 20000 in
theorem ggX7_setRank_X7_fails : GoodIn wsX7_setRank wsX7_fails := goodIn_r _ [9, 1, 55, 56, 57, 58, 59, 60, 61, 62, 63, 64, 65] (by decide +kernel) (by decide +kernel)
set_option maxRecDepth 20000 in
theorem gX7_setRank_X7_fails : GoodIn wsX7_setRank (wsV RX7 48 RX7 yX7_fails wsX7_fails) := goodIn_app (goodIn_of _ (by decide +kernel)) ggX7_setRank_X7_fails
set_option maxRecDepth 20000 in
theorem ggX7_setRank_X7_ranked : GoodIn wsX7_setRank wsX7_ranked := goodIn_r _ [13, 14, 15, 16, 4, 17, 18, 19, 20, 21, 22, 23, 24, 25, 26, 27, 28, 29, 30, 31, 32, 33, 34, 35, 36, 37, 38, 39, 40, 2, 3, 5, 55, 56, 57, 58, 59, 60, 61, 62, 63, 64, 65] (by decide +kernel) (by decide +kernel)
set_option maxRecDepth 20000 in
theorem gX7_setRank_X7_ranked : GoodIn wsX7_setRank (wsV RX7 101 RX7 yX7_ranked wsX7_ranked) := goodIn_app (goodIn_of _ (by decide +kernel)) ggX7_setRank_X7_ranked
set_option maxRecDepth 20000 in
theorem ggX7_setRank_X7_act : GoodIn wsX7_setRank wsX7_act := goodIn_r _ [44, 45, 46, 36, 55, 56, 57, 58, 59, 60, 61, 62, 63, 64, 65] (by decide +kernel) (by decide +kernel)
set_option maxRecDepth 20000 in
theorem gX7_setRank_X7_act : GoodIn wsX7_setRank (wsV RX7 41 RX7 yX7_act wsX7_act) := goodIn_app (goodIn_of _ (by decide +kernel)) ggX7_setRank_X7_act
set_option maxRecDepth 20000 in
theorem ggX7_setRank_X7_spreads : GoodIn wsX7_setRank wsX7_spreads := goodIn_r _ [23, 24, 18, 55, 56, 57, 58, 59, 60, 61, 62, 63, 64, 65] (by decide +kernel) (by decide +kernel)
set_option maxRecDepth 20000 in
theorem gX7_setRank_X7_spreads : GoodIn wsX7_setRank (wsV RX7 87 RX7 yX7_spreads wsX7_spreads) := goodIn_app (goodIn_of _ (by decide +kernel)) ggX7_setRank_X7_spreads
set_option maxRecDepth 20000 in
theorem ggX7_setRank_X7_lays : GoodIn wsX7_setRank wsX7_lays := goodIn_r _ [50, 36, 24, 55, 56, 57, 58, 59, 60, 61, 62, 63, 64, 65] (by decide +kernel) (by decide +kernel)
set_option maxRecDepth 20000 in
theorem gX7_setRank_X7_lays : GoodIn wsX7_setRank (wsV RX7 104 RX7 yX7_lays wsX7_lays) := goodIn_app (goodIn_of _ (by decide +kernel)) ggX7_setRank_X7_lays
set_option maxRecDepth 20000 in
theorem ggX7_setRank_X7_sumOf : GoodIn wsX7_setRank wsX7_sumOf := goodIn_r _ [54, 24, 55, 56, 57, 58, 59, 60, 61, 62, 63, 64, 65] (by decide +kernel) (by decide +kernel)
set_option maxRecDepth 20000 in
theorem gX7_setRank_X7_sumOf : GoodIn wsX7_setRank (wsV RX7 94 RX7 yX7_sumOf wsX7_sumOf) := goodIn_app (goodIn_of _ (by decide +kernel)) ggX7_setRank_X7_sumOf
theorem dX7_setRank_0 : decode cX7_setRank 0 = .ok (.aload_n 0, 1) := by decide +kernel
theorem dX7_setRank_1 : decode cX7_setRank 1 = .ok (.iconst 0, 1) := by decide +kernel
theorem dX7_setRank_2 : decode cX7_setRank 2 = .ok (.putfield 35, 3) := by decide +kernel
theorem dX7_setRank_5 : decode cX7_setRank 5 = .ok (.iload_n 1, 1) := by decide +kernel
theorem dX7_setRank_6 : decode cX7_setRank 6 = .ok (.iconst 0, 1) := by decide +kernel
theorem dX7_setRank_7 : decode cX7_setRank 7 = .ok (.bipush 9, 2) := by decide +kernel
theorem dX7_setRank_9 : decode cX7_setRank 9 = .ok (.invokestatic 44, 3) := by decide +kernel
theorem dX7_setRank_12 : decode cX7_setRank 12 = .ok (.ifCond .eq 7, 3) := by decide +kernel
theorem dX7_setRank_15 : decode cX7_setRank 15 = .ok (.iload_n 2, 1) := by decide +kernel
theorem dX7_setRank_16 : decode cX7_setRank 16 = .ok (.ifCond .ge 9, 3) := by decide +kernel
theorem dX7_setRank_19 : decode cX7_setRank 19 = .ok (.aload_n 0, 1) := by decide +kernel
theorem dX7_setRank_20 : decode cX7_setRank 20 = .ok (.iconst 1, 1) := by decide +kernel
theorem dX7_setRank_21 : decode cX7_setRank 21 = .ok (.invokevirtual 48, 3) := by decide +kernel
theorem dX7_setRank_24 : decode cX7_setRank 24 = .ok (.ireturn, 1) := by decide +kernel
theorem dX7_setRank_25 : decode cX7_setRank 25 = .ok (.aload_n 0, 1) := by decide +kernel
theorem dX7_setRank_26 : decode cX7_setRank 26 = .ok (.iload_n 1, 1) := by decide +kernel
theorem dX7_setRank_27 : decode cX7_setRank 27 = .ok (.iload_n 2, 1) := by decide +kernel
theorem dX7_setRank_28 : decode cX7_setRank 28 = .ok (.invokevirtual 101, 3) := by decide +kernel
theorem dX7_setRank_31 : decode cX7_setRank 31 = .ok (.istore_n 3, 1) := by decide +kernel
theorem dX7_setRank_32 : decode cX7_setRank 32 = .ok (.iload_n 3, 1) := by decide +kernel
theorem dX7_setRank_33 : decode cX7_setRank 33 = .ok (.ifCond .ge 9, 3) := by decide +kernel
theorem dX7_setRank_36 : decode cX7_setRank 36 = .ok (.aload_n 0, 1) := by decide +kernel
theorem dX7_setRank_37 : decode cX7_setRank 37 = .ok (.iconst 2, 1) := by decide +kernel
theorem dX7_setRank_38 : decode cX7_setRank 38 = .ok (.invokevirtual 48, 3) := by decide +kernel
theorem dX7_setRank_41 : decode cX7_setRank 41 = .ok (.ireturn, 1) := by decide +kernel
theorem dX7_setRank_42 : decode cX7_setRank 42 = .ok (.aload_n 0, 1) := by decide +kernel
theorem dX7_setRank_43 : decode cX7_setRank 43 = .ok (.invokevirtual 41, 3) := by decide +kernel
theorem dX7_setRank_46 : decode cX7_setRank 46 = .ok (.aload_n 0, 1) := by decide +kernel
theorem dX7_setRank_47 : decode cX7_setRank 47 = .ok (.iload_n 3, 1) := by decide +kernel
theorem dX7_setRank_48 : decode cX7_setRank 48 = .ok (.iload_n 1, 1) := by decide +kernel
theorem dX7_setRank_49 : decode cX7_setRank 49 = .ok (.invokevirtual 87, 3) := by decide +kernel
theorem dX7_setRank_52 : decode cX7_setRank 52 = .ok (.aload_n 0, 1) := by decide +kernel
theorem dX7_setRank_53 : decode cX7_setRank 53 = .ok (.iload_n 1, 1) := by decide +kernel
theorem dX7_setRank_54 : decode cX7_setRank 54 = .ok (.invokevirtual 104, 3) := by decide +kernel
theorem dX7_setRank_57 : decode cX7_setRank 57 = .ok (.aload_n 0, 1) := by decide +kernel
theorem dX7_setRank_58 : decode cX7_setRank 58 = .ok (.iload_n 1, 1) := by decide +kernel
theorem dX7_setRank_59 : decode cX7_setRank 59 = .ok (.invokevirtual 94, 3) := by decide +kernel
theorem dX7_setRank_62 : decode cX7_setRank 62 = .ok (.ireturn, 1) := by decide +kernel
theorem dX7_lays_0 : decode cX7_lays 0 = .ok (.aload_n 0, 1) := by decide +kernel
theorem dX7_lays_1 : decode cX7_lays 1 = .ok (.getfield 7, 3) := by decide +kernel
theorem dX7_lays_4 : decode cX7_lays 4 = .ok (.iconst 0, 1) := by decide +kernel
theorem dX7_lays_5 : decode cX7_lays 5 = .ok (.iload_n 1, 1) := by decide +kernel
theorem dX7_lays_6 : decode cX7_lays 6 = .ok (.iastore, 1) := by decide +kernel
theorem dX7_lays_7 : decode cX7_lays 7 = .ok (.iconst 0, 1) := by decide +kernel
theorem dX7_lays_8 : decode cX7_lays 8 = .ok (.istore_n 2, 1) := by decide +kernel
theorem dX7_lays_9 : decode cX7_lays 9 = .ok (.iload_n 2, 1) := by decide +kernel
theorem dX7_lays_10 : decode cX7_lays 10 = .ok (.iload_n 1, 1) := by decide +kernel
theorem dX7_lays_11 : decode cX7_lays 11 = .ok (.if_icmp .ge 24, 3) := by decide +kernel
theorem dX7_lays_14 : decode cX7_lays 14 = .ok (.aload_n 0, 1) := by decide +kernel
theorem dX7_lays_15 : decode cX7_lays 15 = .ok (.getfield 7, 3) := by decide +kernel
theorem dX7_lays_18 : decode cX7_lays 18 = .ok (.bipush 12, 2) := by decide +kernel
theorem dX7_lays_20 : decode cX7_lays 20 = .ok (.iload_n 2, 1) := by decide +kernel
theorem dX7_lays_21 : decode cX7_lays 21 = .ok (.iadd, 1) := by decide +kernel
theorem dX7_lays_22 : decode cX7_lays 22 = .ok (.aload_n 0, 1) := by decide +kernel
theorem dX7_lays_23 : decode cX7_lays 23 = .ok (.getfield 16, 3) := by decide +kernel
theorem dX7_lays_26 : decode cX7_lays 26 = .ok (.iload_n 2, 1) := by decide +kernel
theorem dX7_lays_27 : decode cX7_lays 27 = .ok (.iaload, 1) := by decide +kernel
theorem dX7_lays_28 : decode cX7_lays 28 = .ok (.iastore, 1) := by decide +kernel
theorem dX7_lays_29 : decode cX7_lays 29 = .ok (.iinc 2 1, 3) := by decide +kernel
theorem dX7_lays_32 : decode cX7_lays 32 = .ok (.goto (-23), 3) := by decide +kernel
theorem dX7_lays_35 : decode cX7_lays 35 = .ok (.return_, 1) := by decide +kernel
set_option maxRecDepth 20000 in
theorem ggX7_goesOn_X7_swaps : GoodIn wsX7_goesOn wsX7_swaps := goodIn_r _ [6, 1, 7, 8, 9, 10, 11, 12, 13, 14, 15, 16, 17] (by decide +kernel) (by decide +kernel)
set_option maxRecDepth 20000 in
theorem gX7_goesOn_X7_swaps : GoodIn wsX7_goesOn (wsV RX7 107 RX7 yX7_swaps wsX7_swaps) := goodIn_app (goodIn_of _ (by decide +kernel)) ggX7_goesOn_X7_swaps
theorem dX7_goesOn_0 : decode cX7_goesOn 0 = .ok (.iload_n 1, 1) := by decide +kernel
theorem dX7_goesOn_1 : decode cX7_goesOn 1 = .ok (.iconst 2, 1) := by decide +kernel
theorem dX7_goesOn_2 : decode cX7_goesOn 2 = .ok (.isub, 1) := by decide +kernel
theorem dX7_goesOn_3 : decode cX7_goesOn 3 = .ok (.istore_n 2, 1) := by decide +kernel
theorem dX7_goesOn_4 : decode cX7_goesOn 4 = .ok (.iload_n 2, 1) := by decide +kernel
theorem dX7_goesOn_5 : decode cX7_goesOn 5 = .ok (.ifCond .lt 26, 3) := by decide +kernel
theorem dX7_goesOn_8 : decode cX7_goesOn 8 = .ok (.aload_n 0, 1) := by decide +kernel
theorem dX7_goesOn_9 : decode cX7_goesOn 9 = .ok (.getfield 16, 3) := by decide +kernel
theorem dX7_goesOn_12 : decode cX7_goesOn 12 = .ok (.iload_n 2, 1) := by decide +kernel
theorem dX7_goesOn_13 : decode cX7_goesOn 13 = .ok (.iaload, 1) := by decide +kernel
theorem dX7_goesOn_14 : decode cX7_goesOn 14 = .ok (.aload_n 0, 1) := by decide +kernel
theorem dX7_goesOn_15 : decode cX7_goesOn 15 = .ok (.getfield 16, 3) := by decide +kernel
theorem dX7_goesOn_18 : decode cX7_goesOn 18 = .ok (.iload_n 2, 1) := by decide +kernel
theorem dX7_goesOn_19 : decode cX7_goesOn 19 = .ok (.iconst 1, 1) := by decide +kernel
theorem dX7_goesOn_20 : decode cX7_goesOn 20 = .ok (.iadd, 1) := by decide +kernel
theorem dX7_goesOn_21 : decode cX7_goesOn 21 = .ok (.iaload, 1) := by decide +kernel
theorem dX7_goesOn_22 : decode cX7_goesOn 22 = .ok (.if_icmp .lt 9, 3) := by decide +kernel
theorem dX7_goesOn_25 : decode cX7_goesOn 25 = .ok (.iinc 2 (-1), 3) := by decide +kernel
theorem dX7_goesOn_28 : decode cX7_goesOn 28 = .ok (.goto (-24), 3) := by decide +kernel
theorem dX7_goesOn_31 : decode cX7_goesOn 31 = .ok (.iload_n 2, 1) := by decide +kernel
theorem dX7_goesOn_32 : decode cX7_goesOn 32 = .ok (.ifCond .lt 34, 3) := by decide +kernel
theorem dX7_goesOn_35 : decode cX7_goesOn 35 = .ok (.iload_n 1, 1) := by decide +kernel
theorem dX7_goesOn_36 : decode cX7_goesOn 36 = .ok (.iconst 1, 1) := by decide +kernel
theorem dX7_goesOn_37 : decode cX7_goesOn 37 = .ok (.isub, 1) := by decide +kernel
theorem dX7_goesOn_38 : decode cX7_goesOn 38 = .ok (.istore_n 3, 1) := by decide +kernel
theorem dX7_goesOn_39 : decode cX7_goesOn 39 = .ok (.aload_n 0, 1) := by decide +kernel
theorem dX7_goesOn_40 : decode cX7_goesOn 40 = .ok (.getfield 16, 3) := by decide +kernel
theorem dX7_goesOn_43 : decode cX7_goesOn 43 = .ok (.iload_n 3, 1) := by decide +kernel
theorem dX7_goesOn_44 : decode cX7_goesOn 44 = .ok (.iaload, 1) := by decide +kernel
theorem dX7_goesOn_45 : decode cX7_goesOn 45 = .ok (.aload_n 0, 1) := by decide +kernel
theorem dX7_goesOn_46 : decode cX7_goesOn 46 = .ok (.getfield 16, 3) := by decide +kernel
theorem dX7_goesOn_49 : decode cX7_goesOn 49 = .ok (.iload_n 2, 1) := by decide +kernel
theorem dX7_goesOn_50 : decode cX7_goesOn 50 = .ok (.iaload, 1) := by decide +kernel
theorem dX7_goesOn_51 : decode cX7_goesOn 51 = .ok (.if_icmp .gt 9, 3) := by decide +kernel
theorem dX7_goesOn_54 : decode cX7_goesOn 54 = .ok (.iinc 3 (-1), 3) := by decide +kernel
theorem dX7_goesOn_57 : decode cX7_goesOn 57 = .ok (.goto (-18), 3) := by decide +kernel
theorem dX7_goesOn_60 : decode cX7_goesOn 60 = .ok (.aload_n 0, 1) := by decide +kernel
theorem dX7_goesOn_61 : decode cX7_goesOn 61 = .ok (.iload_n 2, 1) := by decide +kernel
theorem dX7_goesOn_62 : decode cX7_goesOn 62 = .ok (.iload_n 3, 1) := by decide +kernel
theorem dX7_goesOn_63 : decode cX7_goesOn 63 = .ok (.invokevirtual 107, 3) := by decide +kernel
theorem dX7_goesOn_66 : decode cX7_goesOn 66 = .ok (.iload_n 2, 1) := by decide +kernel
theorem dX7_goesOn_67 : decode cX7_goesOn 67 = .ok (.iconst 1, 1) := by decide +kernel
theorem dX7_goesOn_68 : decode cX7_goesOn 68 = .ok (.iadd, 1) := by decide +kernel
theorem dX7_goesOn_69 : decode cX7_goesOn 69 = .ok (.istore_n 3, 1) := by decide +kernel
theorem dX7_goesOn_70 : decode cX7_goesOn 70 = .ok (.iload_n 1, 1) := by decide +kernel
theorem dX7_goesOn_71 : decode cX7_goesOn 71 = .ok (.iconst 1, 1) := by decide +kernel
theorem dX7_goesOn_72 : decode cX7_goesOn 72 = .ok (.isub, 1) := by decide +kernel
theorem dX7_goesOn_73 : decode cX7_goesOn 73 = .ok (.istore 4, 2) := by decide +kernel
theorem dX7_goesOn_75 : decode cX7_goesOn 75 = .ok (.iload_n 3, 1) := by decide +kernel
theorem dX7_goesOn_76 : decode cX7_goesOn 76 = .ok (.iload 4, 2) := by decide +kernel
theorem dX7_goesOn_78 : decode cX7_goesOn 78 = .ok (.if_icmp .ge 19, 3) := by decide +kernel
theorem dX7_goesOn_81 : decode cX7_goesOn 81 = .ok (.aload_n 0, 1) := by decide +kernel
theorem dX7_goesOn_82 : decode cX7_goesOn 82 = .ok (.iload_n 3, 1) := by decide +kernel
theorem dX7_goesOn_83 : decode cX7_goesOn 83 = .ok (.iload 4, 2) := by decide +kernel
theorem dX7_goesOn_85 : decode cX7_goesOn 85 = .ok (.invokevirtual 107, 3) := by decide +kernel
theorem dX7_goesOn_88 : decode cX7_goesOn 88 = .ok (.iinc 4 (-1), 3) := by decide +kernel
theorem dX7_goesOn_91 : decode cX7_goesOn 91 = .ok (.iinc 3 1, 3) := by decide +kernel
theorem dX7_goesOn_94 : decode cX7_goesOn 94 = .ok (.goto (-19), 3) := by decide +kernel
theorem dX7_goesOn_97 : decode cX7_goesOn 97 = .ok (.iload_n 2, 1) := by decide +kernel
theorem dX7_goesOn_98 : decode cX7_goesOn 98 = .ok (.ifCond .lt 7, 3) := by decide +kernel
theorem dX7_goesOn_101 : decode cX7_goesOn 101 = .ok (.iconst 1, 1) := by decide +kernel
theorem dX7_goesOn_102 : decode cX7_goesOn 102 = .ok (.goto 4, 3) := by decide +kernel
theorem dX7_goesOn_105 : decode cX7_goesOn 105 = .ok (.iconst 0, 1) := by decide +kernel
theorem dX7_goesOn_106 : decode cX7_goesOn 106 = .ok (.ireturn, 1) := by decide +kernel
theorem dX7_swaps_0 : decode cX7_swaps 0 = .ok (.aload_n 0, 1) := by decide +kernel
theorem dX7_swaps_1 : decode cX7_swaps 1 = .ok (.getfield 16, 3) := by decide +kernel
theorem dX7_swaps_4 : decode cX7_swaps 4 = .ok (.iload_n 1, 1) := by decide +kernel
theorem dX7_swaps_5 : decode cX7_swaps 5 = .ok (.iaload, 1) := by decide +kernel
theorem dX7_swaps_6 : decode cX7_swaps 6 = .ok (.istore_n 3, 1) := by decide +kernel
theorem dX7_swaps_7 : decode cX7_swaps 7 = .ok (.aload_n 0, 1) := by decide +kernel
theorem dX7_swaps_8 : decode cX7_swaps 8 = .ok (.getfield 16, 3) := by decide +kernel
theorem dX7_swaps_11 : decode cX7_swaps 11 = .ok (.iload_n 1, 1) := by decide +kernel
theorem dX7_swaps_12 : decode cX7_swaps 12 = .ok (.aload_n 0, 1) := by decide +kernel
theorem dX7_swaps_13 : decode cX7_swaps 13 = .ok (.getfield 16, 3) := by decide +kernel
theorem dX7_swaps_16 : decode cX7_swaps 16 = .ok (.iload_n 2, 1) := by decide +kernel
theorem dX7_swaps_17 : decode cX7_swaps 17 = .ok (.iaload, 1) := by decide +kernel
theorem dX7_swaps_18 : decode cX7_swaps 18 = .ok (.iastore, 1) := by decide +kernel
theorem dX7_swaps_19 : decode cX7_swaps 19 = .ok (.aload_n 0, 1) := by decide +kernel
theorem dX7_swaps_20 : decode cX7_swaps 20 = .ok (.getfield 16, 3) := by decide +kernel
theorem dX7_swaps_23 : decode cX7_swaps 23 = .ok (.iload_n 2, 1) := by decide +kernel
theorem dX7_swaps_24 : decode cX7_swaps 24 = .ok (.iload_n 3, 1) := by decide +kernel
theorem dX7_swaps_25 : decode cX7_swaps 25 = .ok (.iastore, 1) := by decide +kernel
theorem dX7_swaps_26 : decode cX7_swaps 26 = .ok (.return_, 1) := by decide +kernel
set_option maxRecDepth 20000 in
theorem ggX7_arranged_X7_takes : GoodIn wsX7_arranged wsX7_takes := goodIn_r _ [7, 1, 8, 36, 37, 38, 39, 40, 41, 42, 43, 44, 45, 46] (by decide +kernel) (by decide +kernel)
set_option maxRecDepth 20000 in
theorem gX7_arranged_X7_takes : GoodIn wsX7_arranged (wsV RX7 67 RX7 yX7_takes wsX7_takes) := goodIn_app (goodIn_of _ (by decide +kernel)) ggX7_arranged_X7_takes
set_option maxRecDepth 20000 in
theorem ggX7_arranged_X7_goesOn : GoodIn wsX7_arranged wsX7_goesOn := goodIn_r _ [12, 8, 13, 14, 15, 6, 16, 36, 37, 38, 39, 40, 41, 42, 43, 44, 45, 46] (by decide +kernel) (by decide +kernel)
set_option maxRecDepth 20000 in
theorem gX7_arranged_X7_goesOn : GoodIn wsX7_arranged (wsV RX7 110 RX7 yX7_goesOn wsX7_goesOn) := goodIn_app (goodIn_of _ (by decide +kernel)) ggX7_arranged_X7_goesOn
set_option maxRecDepth 20000 in
theorem ggX7_arranged_X7_parksAll : GoodIn wsX7_arranged wsX7_parksAll := goodIn_r _ [20, 21, 22, 23, 24, 25, 26, 6, 27, 28, 8, 1, 29, 30, 31, 32, 33, 34, 35, 36, 37, 38, 39, 40, 41, 42, 43, 44, 45, 46] (by decide +kernel) (by decide +kernel)
set_option maxRecDepth 20000 in
theorem gX7_arranged_X7_parksAll : GoodIn wsX7_arranged (wsV RX7 70 RX7 yX7_parksAll wsX7_parksAll) := goodIn_app (goodIn_of _ (by decide +kernel)) ggX7_arranged_X7_parksAll
theorem dX7_arranged_0 : decode cX7_arranged 0 = .ok (.aload_n 0, 1) := by decide +kernel
theorem dX7_arranged_1 : decode cX7_arranged 1 = .ok (.invokevirtual 67, 3) := by decide +kernel
theorem dX7_arranged_4 : decode cX7_arranged 4 = .ok (.aload_n 0, 1) := by decide +kernel
theorem dX7_arranged_5 : decode cX7_arranged 5 = .ok (.getfield 7, 3) := by decide +kernel
theorem dX7_arranged_8 : decode cX7_arranged 8 = .ok (.iconst 0, 1) := by decide +kernel
theorem dX7_arranged_9 : decode cX7_arranged 9 = .ok (.iaload, 1) := by decide +kernel
theorem dX7_arranged_10 : decode cX7_arranged 10 = .ok (.istore_n 2, 1) := by decide +kernel
theorem dX7_arranged_11 : decode cX7_arranged 11 = .ok (.aload_n 0, 1) := by decide +kernel
theorem dX7_arranged_12 : decode cX7_arranged 12 = .ok (.iload_n 2, 1) := by decide +kernel
theorem dX7_arranged_13 : decode cX7_arranged 13 = .ok (.invokevirtual 110, 3) := by decide +kernel
theorem dX7_arranged_16 : decode cX7_arranged 16 = .ok (.ifCond .eq 11, 3) := by decide +kernel
theorem dX7_arranged_19 : decode cX7_arranged 19 = .ok (.aload_n 0, 1) := by decide +kernel
theorem dX7_arranged_20 : decode cX7_arranged 20 = .ok (.iconst 0, 1) := by decide +kernel
theorem dX7_arranged_21 : decode cX7_arranged 21 = .ok (.putfield 35, 3) := by decide +kernel
theorem dX7_arranged_24 : decode cX7_arranged 24 = .ok (.goto (-13), 3) := by decide +kernel
theorem dX7_arranged_27 : decode cX7_arranged 27 = .ok (.iconst 0, 1) := by decide +kernel
theorem dX7_arranged_28 : decode cX7_arranged 28 = .ok (.istore_n 3, 1) := by decide +kernel
theorem dX7_arranged_29 : decode cX7_arranged 29 = .ok (.iconst 1, 1) := by decide +kernel
theorem dX7_arranged_30 : decode cX7_arranged 30 = .ok (.istore 4, 2) := by decide +kernel
theorem dX7_arranged_32 : decode cX7_arranged 32 = .ok (.iload 4, 2) := by decide +kernel
theorem dX7_arranged_34 : decode cX7_arranged 34 = .ok (.ifCond .eq 33, 3) := by decide +kernel
theorem dX7_arranged_37 : decode cX7_arranged 37 = .ok (.iload_n 3, 1) := by decide +kernel
theorem dX7_arranged_38 : decode cX7_arranged 38 = .ok (.iload_n 1, 1) := by decide +kernel
theorem dX7_arranged_39 : decode cX7_arranged 39 = .ok (.ifCond .eq 11, 3) := by decide +kernel
theorem dX7_arranged_42 : decode cX7_arranged 42 = .ok (.aload_n 0, 1) := by decide +kernel
theorem dX7_arranged_43 : decode cX7_arranged 43 = .ok (.iload_n 2, 1) := by decide +kernel
theorem dX7_arranged_44 : decode cX7_arranged 44 = .ok (.invokevirtual 70, 3) := by decide +kernel
theorem dX7_arranged_47 : decode cX7_arranged 47 = .ok (.ifCond .ne 7, 3) := by decide +kernel
theorem dX7_arranged_50 : decode cX7_arranged 50 = .ok (.iconst 1, 1) := by decide +kernel
theorem dX7_arranged_51 : decode cX7_arranged 51 = .ok (.goto 4, 3) := by decide +kernel
theorem dX7_arranged_54 : decode cX7_arranged 54 = .ok (.iconst 0, 1) := by decide +kernel
theorem dX7_arranged_55 : decode cX7_arranged 55 = .ok (.iadd, 1) := by decide +kernel
theorem dX7_arranged_56 : decode cX7_arranged 56 = .ok (.istore_n 3, 1) := by decide +kernel
theorem dX7_arranged_57 : decode cX7_arranged 57 = .ok (.aload_n 0, 1) := by decide +kernel
theorem dX7_arranged_58 : decode cX7_arranged 58 = .ok (.iload_n 2, 1) := by decide +kernel
theorem dX7_arranged_59 : decode cX7_arranged 59 = .ok (.invokevirtual 110, 3) := by decide +kernel
theorem dX7_arranged_62 : decode cX7_arranged 62 = .ok (.istore 4, 2) := by decide +kernel
theorem dX7_arranged_64 : decode cX7_arranged 64 = .ok (.goto (-32), 3) := by decide +kernel
theorem dX7_arranged_67 : decode cX7_arranged 67 = .ok (.iload_n 3, 1) := by decide +kernel
theorem dX7_arranged_68 : decode cX7_arranged 68 = .ok (.ireturn, 1) := by decide +kernel
set_option maxRecDepth 20000 in
theorem ggX7_arrangements_X7_arranged : GoodIn wsX7_arrangements wsX7_arranged := goodIn_r _ [6, 7, 1, 8, 9, 10, 5, 11, 12, 13, 14, 15, 16, 17, 18, 19, 20, 21, 22, 23, 24, 25, 26, 27, 28, 29, 30, 31, 32, 33, 34, 35, 36, 37, 38, 39, 40, 41, 42, 43, 44, 45, 46, 47, 48, 49, 50] (by decide +kernel) (by decide +kernel)
set_option maxRecDepth 20000 in
theorem gX7_arrangements_X7_arranged : GoodIn wsX7_arrangements (wsV RX7 113 RX7 yX7_arranged wsX7_arranged) := goodIn_app (goodIn_of _ (by decide +kernel)) ggX7_arrangements_X7_arranged
theorem dX7_arrangements_0 : decode cX7_arrangements 0 = .ok (.aload_n 0, 1) := by decide +kernel
theorem dX7_arrangements_1 : decode cX7_arrangements 1 = .ok (.iconst 0, 1) := by decide +kernel
theorem dX7_arrangements_2 : decode cX7_arrangements 2 = .ok (.putfield 35, 3) := by decide +kernel
theorem dX7_arrangements_5 : decode cX7_arrangements 5 = .ok (.aload_n 0, 1) := by decide +kernel
theorem dX7_arrangements_6 : decode cX7_arrangements 6 = .ok (.iconst 0, 1) := by decide +kernel
theorem dX7_arrangements_7 : decode cX7_arrangements 7 = .ok (.invokevirtual 113, 3) := by decide +kernel
theorem dX7_arrangements_10 : decode cX7_arrangements 10 = .ok (.ireturn, 1) := by decide +kernel
set_option maxRecDepth 20000 in
theorem ggX7_parkingArrangements_X7_arranged : GoodIn wsX7_parkingArrangements wsX7_arranged := goodIn_r _ [6, 7, 1, 8, 9, 10, 5, 11, 12, 13, 14, 15, 16, 17, 18, 19, 20, 21, 22, 23, 24, 25, 26, 27, 28, 29, 30, 31, 32, 33, 34, 35, 36, 37, 38, 39, 40, 41, 42, 43, 44, 45, 46, 47, 48, 49, 50] (by decide +kernel) (by decide +kernel)
set_option maxRecDepth 20000 in
theorem gX7_parkingArrangements_X7_arranged : GoodIn wsX7_parkingArrangements (wsV RX7 113 RX7 yX7_arranged wsX7_arranged) := goodIn_app (goodIn_of _ (by decide +kernel)) ggX7_parkingArrangements_X7_arranged
theorem dX7_parkingArrangements_0 : decode cX7_parkingArrangements 0 = .ok (.aload_n 0, 1) := by decide +kernel
theorem dX7_parkingArrangements_1 : decode cX7_parkingArrangements 1 = .ok (.iconst 0, 1) := by decide +kernel
theorem dX7_parkingArrangements_2 : decode cX7_parkingArrangements 2 = .ok (.putfield 35, 3) := by decide +kernel
theorem dX7_parkingArrangements_5 : decode cX7_parkingArrangements 5 = .ok (.aload_n 0, 1) := by decide +kernel
theorem dX7_parkingArrangements_6 : decode cX7_parkingArrangements 6 = .ok (.iconst 1, 1) := by decide +kernel
theorem dX7_parkingArrangements_7 : decode cX7_parkingArrangements 7 = .ok (.invokevirtual 113, 3) := by decide +kernel
theorem dX7_parkingArrangements_10 : decode cX7_parkingArrangements 10 = .ok (.ireturn, 1) := by decide +kernel
set_option maxRecDepth 20000 in
theorem ggX7_nextArrangement_X7_act : GoodIn wsX7_nextArrangement wsX7_act := goodIn_r _ [7, 8, 9, 2, 27, 28, 29, 30, 31, 32, 33, 34, 35, 36, 37] (by decide +kernel) (by decide +kernel)
set_option maxRecDepth 20000 in
theorem gX7_nextArrangement_X7_act : GoodIn wsX7_nextArrangement (wsV RX7 41 RX7 yX7_act wsX7_act) := goodIn_app (goodIn_of _ (by decide +kernel)) ggX7_nextArrangement_X7_act
set_option maxRecDepth 20000 in
theorem ggX7_nextArrangement_X7_takes : GoodIn wsX7_nextArrangement wsX7_takes := goodIn_r _ [13, 2, 14, 27, 28, 29, 30, 31, 32, 33, 34, 35, 36, 37] (by decide +kernel) (by decide +kernel)
set_option maxRecDepth 20000 in
theorem gX7_nextArrangement_X7_takes : GoodIn wsX7_nextArrangement (wsV RX7 67 RX7 yX7_takes wsX7_takes) := goodIn_app (goodIn_of _ (by decide +kernel)) ggX7_nextArrangement_X7_takes
set_option maxRecDepth 20000 in
theorem ggX7_nextArrangement_X7_goesOn : GoodIn wsX7_nextArrangement wsX7_goesOn := goodIn_r _ [18, 14, 19, 20, 21, 6, 22, 27, 28, 29, 30, 31, 32, 33, 34, 35, 36, 37] (by decide +kernel) (by decide +kernel)
set_option maxRecDepth 20000 in
theorem gX7_nextArrangement_X7_goesOn : GoodIn wsX7_nextArrangement (wsV RX7 110 RX7 yX7_goesOn wsX7_goesOn) := goodIn_app (goodIn_of _ (by decide +kernel)) ggX7_nextArrangement_X7_goesOn
set_option maxRecDepth 20000 in
theorem ggX7_nextArrangement_X7_lays : GoodIn wsX7_nextArrangement wsX7_lays := goodIn_r _ [26, 2, 14, 27, 28, 29, 30, 31, 32, 33, 34, 35, 36, 37] (by decide +kernel) (by decide +kernel)
set_option maxRecDepth 20000 in
theorem gX7_nextArrangement_X7_lays : GoodIn wsX7_nextArrangement (wsV RX7 104 RX7 yX7_lays wsX7_lays) := goodIn_app (goodIn_of _ (by decide +kernel)) ggX7_nextArrangement_X7_lays
theorem dX7_nextArrangement_0 : decode cX7_nextArrangement 0 = .ok (.aload_n 0, 1) := by decide +kernel
theorem dX7_nextArrangement_1 : decode cX7_nextArrangement 1 = .ok (.iconst 0, 1) := by decide +kernel
theorem dX7_nextArrangement_2 : decode cX7_nextArrangement 2 = .ok (.putfield 35, 3) := by decide +kernel
theorem dX7_nextArrangement_5 : decode cX7_nextArrangement 5 = .ok (.aload_n 0, 1) := by decide +kernel
theorem dX7_nextArrangement_6 : decode cX7_nextArrangement 6 = .ok (.invokevirtual 41, 3) := by decide +kernel
theorem dX7_nextArrangement_9 : decode cX7_nextArrangement 9 = .ok (.aload_n 0, 1) := by decide +kernel
theorem dX7_nextArrangement_10 : decode cX7_nextArrangement 10 = .ok (.invokevirtual 67, 3) := by decide +kernel
theorem dX7_nextArrangement_13 : decode cX7_nextArrangement 13 = .ok (.aload_n 0, 1) := by decide +kernel
theorem dX7_nextArrangement_14 : decode cX7_nextArrangement 14 = .ok (.aload_n 0, 1) := by decide +kernel
theorem dX7_nextArrangement_15 : decode cX7_nextArrangement 15 = .ok (.getfield 7, 3) := by decide +kernel
theorem dX7_nextArrangement_18 : decode cX7_nextArrangement 18 = .ok (.iconst 0, 1) := by decide +kernel
theorem dX7_nextArrangement_19 : decode cX7_nextArrangement 19 = .ok (.iaload, 1) := by decide +kernel
theorem dX7_nextArrangement_20 : decode cX7_nextArrangement 20 = .ok (.invokevirtual 110, 3) := by decide +kernel
theorem dX7_nextArrangement_23 : decode cX7_nextArrangement 23 = .ok (.istore_n 1, 1) := by decide +kernel
theorem dX7_nextArrangement_24 : decode cX7_nextArrangement 24 = .ok (.aload_n 0, 1) := by decide +kernel
theorem dX7_nextArrangement_25 : decode cX7_nextArrangement 25 = .ok (.aload_n 0, 1) := by decide +kernel
theorem dX7_nextArrangement_26 : decode cX7_nextArrangement 26 = .ok (.getfield 7, 3) := by decide +kernel
theorem dX7_nextArrangement_29 : decode cX7_nextArrangement 29 = .ok (.iconst 0, 1) := by decide +kernel
theorem dX7_nextArrangement_30 : decode cX7_nextArrangement 30 = .ok (.iaload, 1) := by decide +kernel
theorem dX7_nextArrangement_31 : decode cX7_nextArrangement 31 = .ok (.invokevirtual 104, 3) := by decide +kernel
theorem dX7_nextArrangement_34 : decode cX7_nextArrangement 34 = .ok (.iload_n 1, 1) := by decide +kernel
theorem dX7_nextArrangement_35 : decode cX7_nextArrangement 35 = .ok (.ireturn, 1) := by decide +kernel
theorem dX7_below_0 : decode cX7_below 0 = .ok (.iconst 0, 1) := by decide +kernel
theorem dX7_below_1 : decode cX7_below 1 = .ok (.istore_n 2, 1) := by decide +kernel
theorem dX7_below_2 : decode cX7_below 2 = .ok (.iconst 0, 1) := by decide +kernel
theorem dX7_below_3 : decode cX7_below 3 = .ok (.istore_n 3, 1) := by decide +kernel
theorem dX7_below_4 : decode cX7_below 4 = .ok (.iload_n 3, 1) := by decide +kernel
theorem dX7_below_5 : decode cX7_below 5 = .ok (.aload_n 0, 1) := by decide +kernel
theorem dX7_below_6 : decode cX7_below 6 = .ok (.getfield 7, 3) := by decide +kernel
theorem dX7_below_9 : decode cX7_below 9 = .ok (.iconst 0, 1) := by decide +kernel
theorem dX7_below_10 : decode cX7_below 10 = .ok (.iaload, 1) := by decide +kernel
theorem dX7_below_11 : decode cX7_below 11 = .ok (.if_icmp .ge 30, 3) := by decide +kernel
theorem dX7_below_14 : decode cX7_below 14 = .ok (.iload_n 2, 1) := by decide +kernel
theorem dX7_below_15 : decode cX7_below 15 = .ok (.aload_n 0, 1) := by decide +kernel
theorem dX7_below_16 : decode cX7_below 16 = .ok (.getfield 7, 3) := by decide +kernel
theorem dX7_below_19 : decode cX7_below 19 = .ok (.bipush 12, 2) := by decide +kernel
theorem dX7_below_21 : decode cX7_below 21 = .ok (.iload_n 3, 1) := by decide +kernel
theorem dX7_below_22 : decode cX7_below 22 = .ok (.iadd, 1) := by decide +kernel
theorem dX7_below_23 : decode cX7_below 23 = .ok (.iaload, 1) := by decide +kernel
theorem dX7_below_24 : decode cX7_below 24 = .ok (.iload_n 1, 1) := by decide +kernel
theorem dX7_below_25 : decode cX7_below 25 = .ok (.if_icmp .ge 7, 3) := by decide +kernel
theorem dX7_below_28 : decode cX7_below 28 = .ok (.iconst 1, 1) := by decide +kernel
theorem dX7_below_29 : decode cX7_below 29 = .ok (.goto 4, 3) := by decide +kernel
theorem dX7_below_32 : decode cX7_below 32 = .ok (.iconst 0, 1) := by decide +kernel
theorem dX7_below_33 : decode cX7_below 33 = .ok (.iadd, 1) := by decide +kernel
theorem dX7_below_34 : decode cX7_below 34 = .ok (.istore_n 2, 1) := by decide +kernel
theorem dX7_below_35 : decode cX7_below 35 = .ok (.iinc 3 1, 3) := by decide +kernel
theorem dX7_below_38 : decode cX7_below 38 = .ok (.goto (-34), 3) := by decide +kernel
theorem dX7_below_41 : decode cX7_below 41 = .ok (.iload_n 2, 1) := by decide +kernel
theorem dX7_below_42 : decode cX7_below 42 = .ok (.ireturn, 1) := by decide +kernel
set_option maxRecDepth 20000 in
theorem ggX7_standard_X7_below : GoodIn wsX7_standard wsX7_below := goodIn_r _ [7, 1, 8, 9, 10, 11, 12, 13, 14, 15, 16, 17, 18] (by decide +kernel) (by decide +kernel)
set_option maxRecDepth 20000 in
theorem gX7_standard_X7_below : GoodIn wsX7_standard (wsV RX7 117 RX7 yX7_below wsX7_below) := goodIn_app (goodIn_of _ (by decide +kernel)) ggX7_standard_X7_below
theorem dX7_standard_0 : decode cX7_standard 0 = .ok (.aload_n 0, 1) := by decide +kernel
theorem dX7_standard_1 : decode cX7_standard 1 = .ok (.getfield 7, 3) := by decide +kernel
theorem dX7_standard_4 : decode cX7_standard 4 = .ok (.iconst 0, 1) := by decide +kernel
theorem dX7_standard_5 : decode cX7_standard 5 = .ok (.iaload, 1) := by decide +kernel
theorem dX7_standard_6 : decode cX7_standard 6 = .ok (.aload_n 0, 1) := by decide +kernel
theorem dX7_standard_7 : decode cX7_standard 7 = .ok (.getfield 31, 3) := by decide +kernel
theorem dX7_standard_10 : decode cX7_standard 10 = .ok (.if_icmp .ne 7, 3) := by decide +kernel
theorem dX7_standard_13 : decode cX7_standard 13 = .ok (.iconst 1, 1) := by decide +kernel
theorem dX7_standard_14 : decode cX7_standard 14 = .ok (.goto 4, 3) := by decide +kernel
theorem dX7_standard_17 : decode cX7_standard 17 = .ok (.iconst 0, 1) := by decide +kernel
theorem dX7_standard_18 : decode cX7_standard 18 = .ok (.istore_n 1, 1) := by decide +kernel
theorem dX7_standard_19 : decode cX7_standard 19 = .ok (.iconst 1, 1) := by decide +kernel
theorem dX7_standard_20 : decode cX7_standard 20 = .ok (.istore_n 2, 1) := by decide +kernel
theorem dX7_standard_21 : decode cX7_standard 21 = .ok (.iload_n 2, 1) := by decide +kernel
theorem dX7_standard_22 : decode cX7_standard 22 = .ok (.aload_n 0, 1) := by decide +kernel
theorem dX7_standard_23 : decode cX7_standard 23 = .ok (.getfield 31, 3) := by decide +kernel
theorem dX7_standard_26 : decode cX7_standard 26 = .ok (.if_icmp .gt 28, 3) := by decide +kernel
theorem dX7_standard_29 : decode cX7_standard 29 = .ok (.iload_n 1, 1) := by decide +kernel
theorem dX7_standard_30 : decode cX7_standard 30 = .ok (.ifCond .eq 16, 3) := by decide +kernel
theorem dX7_standard_33 : decode cX7_standard 33 = .ok (.aload_n 0, 1) := by decide +kernel
theorem dX7_standard_34 : decode cX7_standard 34 = .ok (.iload_n 2, 1) := by decide +kernel
theorem dX7_standard_35 : decode cX7_standard 35 = .ok (.invokevirtual 117, 3) := by decide +kernel
theorem dX7_standard_38 : decode cX7_standard 38 = .ok (.iload_n 2, 1) := by decide +kernel
theorem dX7_standard_39 : decode cX7_standard 39 = .ok (.if_icmp .lt 7, 3) := by decide +kernel
theorem dX7_standard_42 : decode cX7_standard 42 = .ok (.iconst 1, 1) := by decide +kernel
theorem dX7_standard_43 : decode cX7_standard 43 = .ok (.goto 4, 3) := by decide +kernel
theorem dX7_standard_46 : decode cX7_standard 46 = .ok (.iconst 0, 1) := by decide +kernel
theorem dX7_standard_47 : decode cX7_standard 47 = .ok (.istore_n 1, 1) := by decide +kernel
theorem dX7_standard_48 : decode cX7_standard 48 = .ok (.iinc 2 1, 3) := by decide +kernel
theorem dX7_standard_51 : decode cX7_standard 51 = .ok (.goto (-30), 3) := by decide +kernel
theorem dX7_standard_54 : decode cX7_standard 54 = .ok (.iload_n 1, 1) := by decide +kernel
theorem dX7_standard_55 : decode cX7_standard 55 = .ok (.ireturn, 1) := by decide +kernel
set_option maxRecDepth 20000 in
theorem ggX7_isStandard_X7_standard : GoodIn wsX7_isStandard wsX7_standard := goodIn_r _ [6, 7, 8, 9, 10, 11, 5, 12, 13, 14, 15, 16, 17, 18, 19, 20, 21, 22, 23] (by decide +kernel) (by decide +kernel)
set_option maxRecDepth 20000 in
theorem gX7_isStandard_X7_standard : GoodIn wsX7_isStandard (wsV RX7 120 RX7 yX7_standard wsX7_standard) := goodIn_app (goodIn_of _ (by decide +kernel)) ggX7_isStandard_X7_standard
theorem dX7_isStandard_0 : decode cX7_isStandard 0 = .ok (.aload_n 0, 1) := by decide +kernel
theorem dX7_isStandard_1 : decode cX7_isStandard 1 = .ok (.iconst 0, 1) := by decide +kernel
theorem dX7_isStandard_2 : decode cX7_isStandard 2 = .ok (.putfield 35, 3) := by decide +kernel
theorem dX7_isStandard_5 : decode cX7_isStandard 5 = .ok (.aload_n 0, 1) := by decide +kernel
theorem dX7_isStandard_6 : decode cX7_isStandard 6 = .ok (.invokevirtual 120, 3) := by decide +kernel
theorem dX7_isStandard_9 : decode cX7_isStandard 9 = .ok (.ireturn, 1) := by decide +kernel
set_option maxRecDepth 20000 in
theorem ggX7_isPrime_X7_standard : GoodIn wsX7_isPrime wsX7_standard := goodIn_r _ [7, 8, 2, 9, 10, 11, 6, 12, 13, 14, 15, 16, 17, 18, 19, 20, 21, 22, 23] (by decide +kernel) (by decide +kernel)
set_option maxRecDepth 20000 in
theorem gX7_isPrime_X7_standard : GoodIn wsX7_isPrime (wsV RX7 120 RX7 yX7_standard wsX7_standard) := goodIn_app (goodIn_of _ (by decide +kernel)) ggX7_isPrime_X7_standard
set_option maxRecDepth 20000 in
theorem ggX7_isPrime_X7_below : GoodIn wsX7_isPrime wsX7_below := goodIn_r _ [12, 8, 13, 14, 15, 16, 17, 18, 19, 20, 21, 22, 23] (by decide +kernel) (by decide +kernel)
set_option maxRecDepth 20000 in
theorem gX7_isPrime_X7_below : GoodIn wsX7_isPrime (wsV RX7 117 RX7 yX7_below wsX7_below) := goodIn_app (goodIn_of _ (by decide +kernel)) ggX7_isPrime_X7_below
theorem dX7_isPrime_0 : decode cX7_isPrime 0 = .ok (.aload_n 0, 1) := by decide +kernel
theorem dX7_isPrime_1 : decode cX7_isPrime 1 = .ok (.iconst 0, 1) := by decide +kernel
theorem dX7_isPrime_2 : decode cX7_isPrime 2 = .ok (.putfield 35, 3) := by decide +kernel
theorem dX7_isPrime_5 : decode cX7_isPrime 5 = .ok (.aload_n 0, 1) := by decide +kernel
theorem dX7_isPrime_6 : decode cX7_isPrime 6 = .ok (.invokevirtual 120, 3) := by decide +kernel
theorem dX7_isPrime_9 : decode cX7_isPrime 9 = .ok (.istore_n 1, 1) := by decide +kernel
theorem dX7_isPrime_10 : decode cX7_isPrime 10 = .ok (.iconst 1, 1) := by decide +kernel
theorem dX7_isPrime_11 : decode cX7_isPrime 11 = .ok (.istore_n 2, 1) := by decide +kernel
theorem dX7_isPrime_12 : decode cX7_isPrime 12 = .ok (.iload_n 2, 1) := by decide +kernel
theorem dX7_isPrime_13 : decode cX7_isPrime 13 = .ok (.aload_n 0, 1) := by decide +kernel
theorem dX7_isPrime_14 : decode cX7_isPrime 14 = .ok (.getfield 31, 3) := by decide +kernel
theorem dX7_isPrime_17 : decode cX7_isPrime 17 = .ok (.if_icmp .ge 28, 3) := by decide +kernel
theorem dX7_isPrime_20 : decode cX7_isPrime 20 = .ok (.iload_n 1, 1) := by decide +kernel
theorem dX7_isPrime_21 : decode cX7_isPrime 21 = .ok (.ifCond .eq 16, 3) := by decide +kernel
theorem dX7_isPrime_24 : decode cX7_isPrime 24 = .ok (.aload_n 0, 1) := by decide +kernel
theorem dX7_isPrime_25 : decode cX7_isPrime 25 = .ok (.iload_n 2, 1) := by decide +kernel
theorem dX7_isPrime_26 : decode cX7_isPrime 26 = .ok (.invokevirtual 117, 3) := by decide +kernel
theorem dX7_isPrime_29 : decode cX7_isPrime 29 = .ok (.iload_n 2, 1) := by decide +kernel
theorem dX7_isPrime_30 : decode cX7_isPrime 30 = .ok (.if_icmp .le 7, 3) := by decide +kernel
theorem dX7_isPrime_33 : decode cX7_isPrime 33 = .ok (.iconst 1, 1) := by decide +kernel
theorem dX7_isPrime_34 : decode cX7_isPrime 34 = .ok (.goto 4, 3) := by decide +kernel
theorem dX7_isPrime_37 : decode cX7_isPrime 37 = .ok (.iconst 0, 1) := by decide +kernel
theorem dX7_isPrime_38 : decode cX7_isPrime 38 = .ok (.istore_n 1, 1) := by decide +kernel
theorem dX7_isPrime_39 : decode cX7_isPrime 39 = .ok (.iinc 2 1, 3) := by decide +kernel
theorem dX7_isPrime_42 : decode cX7_isPrime 42 = .ok (.goto (-30), 3) := by decide +kernel
theorem dX7_isPrime_45 : decode cX7_isPrime 45 = .ok (.iload_n 1, 1) := by decide +kernel
theorem dX7_isPrime_46 : decode cX7_isPrime 46 = .ok (.ireturn, 1) := by decide +kernel
theorem dX7_freeOne_0 : decode cX7_freeOne 0 = .ok (.iconst 0, 1) := by decide +kernel
theorem dX7_freeOne_1 : decode cX7_freeOne 1 = .ok (.istore_n 1, 1) := by decide +kernel
theorem dX7_freeOne_2 : decode cX7_freeOne 2 = .ok (.iconst 0, 1) := by decide +kernel
theorem dX7_freeOne_3 : decode cX7_freeOne 3 = .ok (.istore_n 2, 1) := by decide +kernel
theorem dX7_freeOne_4 : decode cX7_freeOne 4 = .ok (.iload_n 2, 1) := by decide +kernel
theorem dX7_freeOne_5 : decode cX7_freeOne 5 = .ok (.aload_n 0, 1) := by decide +kernel
theorem dX7_freeOne_6 : decode cX7_freeOne 6 = .ok (.getfield 31, 3) := by decide +kernel
theorem dX7_freeOne_9 : decode cX7_freeOne 9 = .ok (.if_icmp .ge 48, 3) := by decide +kernel
theorem dX7_freeOne_12 : decode cX7_freeOne 12 = .ok (.aload_n 0, 1) := by decide +kernel
theorem dX7_freeOne_13 : decode cX7_freeOne 13 = .ok (.getfield 7, 3) := by decide +kernel
theorem dX7_freeOne_16 : decode cX7_freeOne 16 = .ok (.bipush 12, 2) := by decide +kernel
theorem dX7_freeOne_18 : decode cX7_freeOne 18 = .ok (.iload_n 2, 1) := by decide +kernel
theorem dX7_freeOne_19 : decode cX7_freeOne 19 = .ok (.iadd, 1) := by decide +kernel
theorem dX7_freeOne_20 : decode cX7_freeOne 20 = .ok (.iaload, 1) := by decide +kernel
theorem dX7_freeOne_21 : decode cX7_freeOne 21 = .ok (.istore_n 3, 1) := by decide +kernel
theorem dX7_freeOne_22 : decode cX7_freeOne 22 = .ok (.iload_n 1, 1) := by decide +kernel
theorem dX7_freeOne_23 : decode cX7_freeOne 23 = .ok (.iload_n 3, 1) := by decide +kernel
theorem dX7_freeOne_24 : decode cX7_freeOne 24 = .ok (.ishr, 1) := by decide +kernel
theorem dX7_freeOne_25 : decode cX7_freeOne 25 = .ok (.iconst 1, 1) := by decide +kernel
theorem dX7_freeOne_26 : decode cX7_freeOne 26 = .ok (.iand, 1) := by decide +kernel
theorem dX7_freeOne_27 : decode cX7_freeOne 27 = .ok (.iconst 1, 1) := by decide +kernel
theorem dX7_freeOne_28 : decode cX7_freeOne 28 = .ok (.if_icmp .ne 17, 3) := by decide +kernel
theorem dX7_freeOne_31 : decode cX7_freeOne 31 = .ok (.iload_n 3, 1) := by decide +kernel
theorem dX7_freeOne_32 : decode cX7_freeOne 32 = .ok (.iconst 1, 1) := by decide +kernel
theorem dX7_freeOne_33 : decode cX7_freeOne 33 = .ok (.iadd, 1) := by decide +kernel
theorem dX7_freeOne_34 : decode cX7_freeOne 34 = .ok (.aload_n 0, 1) := by decide +kernel
theorem dX7_freeOne_35 : decode cX7_freeOne 35 = .ok (.getfield 31, 3) := by decide +kernel
theorem dX7_freeOne_38 : decode cX7_freeOne 38 = .ok (.iconst 1, 1) := by decide +kernel
theorem dX7_freeOne_39 : decode cX7_freeOne 39 = .ok (.iadd, 1) := by decide +kernel
theorem dX7_freeOne_40 : decode cX7_freeOne 40 = .ok (.irem, 1) := by decide +kernel
theorem dX7_freeOne_41 : decode cX7_freeOne 41 = .ok (.istore_n 3, 1) := by decide +kernel
theorem dX7_freeOne_42 : decode cX7_freeOne 42 = .ok (.goto (-20), 3) := by decide +kernel
theorem dX7_freeOne_45 : decode cX7_freeOne 45 = .ok (.iload_n 1, 1) := by decide +kernel
theorem dX7_freeOne_46 : decode cX7_freeOne 46 = .ok (.iconst 1, 1) := by decide +kernel
theorem dX7_freeOne_47 : decode cX7_freeOne 47 = .ok (.iload_n 3, 1) := by decide +kernel
theorem dX7_freeOne_48 : decode cX7_freeOne 48 = .ok (.ishl, 1) := by decide +kernel
theorem dX7_freeOne_49 : decode cX7_freeOne 49 = .ok (.ior, 1) := by decide +kernel
theorem dX7_freeOne_50 : decode cX7_freeOne 50 = .ok (.istore_n 1, 1) := by decide +kernel
theorem dX7_freeOne_51 : decode cX7_freeOne 51 = .ok (.iinc 2 1, 3) := by decide +kernel
theorem dX7_freeOne_54 : decode cX7_freeOne 54 = .ok (.goto (-50), 3) := by decide +kernel
theorem dX7_freeOne_57 : decode cX7_freeOne 57 = .ok (.iconst 0, 1) := by decide +kernel
theorem dX7_freeOne_58 : decode cX7_freeOne 58 = .ok (.istore_n 2, 1) := by decide +kernel
theorem dX7_freeOne_59 : decode cX7_freeOne 59 = .ok (.iload_n 1, 1) := by decide +kernel
theorem dX7_freeOne_60 : decode cX7_freeOne 60 = .ok (.iload_n 2, 1) := by decide +kernel
theorem dX7_freeOne_61 : decode cX7_freeOne 61 = .ok (.ishr, 1) := by decide +kernel
theorem dX7_freeOne_62 : decode cX7_freeOne 62 = .ok (.iconst 1, 1) := by decide +kernel
theorem dX7_freeOne_63 : decode cX7_freeOne 63 = .ok (.iand, 1) := by decide +kernel
theorem dX7_freeOne_64 : decode cX7_freeOne 64 = .ok (.iconst 1, 1) := by decide +kernel
theorem dX7_freeOne_65 : decode cX7_freeOne 65 = .ok (.if_icmp .ne 9, 3) := by decide +kernel
theorem dX7_freeOne_68 : decode cX7_freeOne 68 = .ok (.iinc 2 1, 3) := by decide +kernel
theorem dX7_freeOne_71 : decode cX7_freeOne 71 = .ok (.goto (-12), 3) := by decide +kernel
theorem dX7_freeOne_74 : decode cX7_freeOne 74 = .ok (.iload_n 2, 1) := by decide +kernel
theorem dX7_freeOne_75 : decode cX7_freeOne 75 = .ok (.ireturn, 1) := by decide +kernel
set_option maxRecDepth 20000 in
theorem ggX7_gap_X7_freeOne : GoodIn wsX7_gap wsX7_freeOne := goodIn_r _ [8, 2, 1, 9, 10, 11, 12, 13, 14, 15, 16, 17, 18, 19] (by decide +kernel) (by decide +kernel)
set_option maxRecDepth 20000 in
theorem gX7_gap_X7_freeOne : GoodIn wsX7_gap (wsV RX7 124 RX7 yX7_freeOne wsX7_freeOne) := goodIn_app (goodIn_of _ (by decide +kernel)) ggX7_gap_X7_freeOne
theorem dX7_gap_0 : decode cX7_gap 0 = .ok (.aload_n 0, 1) := by decide +kernel
theorem dX7_gap_1 : decode cX7_gap 1 = .ok (.aload_n 0, 1) := by decide +kernel
theorem dX7_gap_2 : decode cX7_gap 2 = .ok (.getfield 7, 3) := by decide +kernel
theorem dX7_gap_5 : decode cX7_gap 5 = .ok (.iconst 0, 1) := by decide +kernel
theorem dX7_gap_6 : decode cX7_gap 6 = .ok (.iaload, 1) := by decide +kernel
theorem dX7_gap_7 : decode cX7_gap 7 = .ok (.aload_n 0, 1) := by decide +kernel
theorem dX7_gap_8 : decode cX7_gap 8 = .ok (.getfield 31, 3) := by decide +kernel
theorem dX7_gap_11 : decode cX7_gap 11 = .ok (.if_icmp .ne 7, 3) := by decide +kernel
theorem dX7_gap_14 : decode cX7_gap 14 = .ok (.iconst 0, 1) := by decide +kernel
theorem dX7_gap_15 : decode cX7_gap 15 = .ok (.goto 4, 3) := by decide +kernel
theorem dX7_gap_18 : decode cX7_gap 18 = .ok (.iconst 1, 1) := by decide +kernel
theorem dX7_gap_19 : decode cX7_gap 19 = .ok (.putfield 35, 3) := by decide +kernel
theorem dX7_gap_22 : decode cX7_gap 22 = .ok (.aload_n 0, 1) := by decide +kernel
theorem dX7_gap_23 : decode cX7_gap 23 = .ok (.getfield 35, 3) := by decide +kernel
theorem dX7_gap_26 : decode cX7_gap 26 = .ok (.ifCond .ne 10, 3) := by decide +kernel
theorem dX7_gap_29 : decode cX7_gap 29 = .ok (.aload_n 0, 1) := by decide +kernel
theorem dX7_gap_30 : decode cX7_gap 30 = .ok (.invokevirtual 124, 3) := by decide +kernel
theorem dX7_gap_33 : decode cX7_gap 33 = .ok (.goto 4, 3) := by decide +kernel
theorem dX7_gap_36 : decode cX7_gap 36 = .ok (.iconst 0, 1) := by decide +kernel
theorem dX7_gap_37 : decode cX7_gap 37 = .ok (.ireturn, 1) := by decide +kernel
set_option maxRecDepth 20000 in
theorem ggX7_shift_X7_act : GoodIn wsX7_shift wsX7_act := goodIn_r _ [8, 9, 10, 1, 15, 16, 17, 18, 19, 20, 21, 22, 23, 24, 25] (by decide +kernel) (by decide +kernel)
set_option maxRecDepth 20000 in
theorem gX7_shift_X7_act : GoodIn wsX7_shift (wsV RX7 41 RX7 yX7_act wsX7_act) := goodIn_app (goodIn_of _ (by decide +kernel)) ggX7_shift_X7_act
set_option maxRecDepth 20000 in
theorem ggX7_shift_X7_freeOne : GoodIn wsX7_shift wsX7_freeOne := goodIn_r _ [14, 2, 1, 15, 16, 17, 18, 19, 20, 21, 22, 23, 24, 25] (by decide +kernel) (by decide +kernel)
set_option maxRecDepth 20000 in
theorem gX7_shift_X7_freeOne : GoodIn wsX7_shift (wsV RX7 124 RX7 yX7_freeOne wsX7_freeOne) := goodIn_app (goodIn_of _ (by decide +kernel)) ggX7_shift_X7_freeOne
theorem dX7_shift_0 : decode cX7_shift 0 = .ok (.aload_n 0, 1) := by decide +kernel
theorem dX7_shift_1 : decode cX7_shift 1 = .ok (.aload_n 0, 1) := by decide +kernel
theorem dX7_shift_2 : decode cX7_shift 2 = .ok (.getfield 7, 3) := by decide +kernel
theorem dX7_shift_5 : decode cX7_shift 5 = .ok (.iconst 0, 1) := by decide +kernel
theorem dX7_shift_6 : decode cX7_shift 6 = .ok (.iaload, 1) := by decide +kernel
theorem dX7_shift_7 : decode cX7_shift 7 = .ok (.aload_n 0, 1) := by decide +kernel
theorem dX7_shift_8 : decode cX7_shift 8 = .ok (.getfield 31, 3) := by decide +kernel
theorem dX7_shift_11 : decode cX7_shift 11 = .ok (.if_icmp .ne 7, 3) := by decide +kernel
theorem dX7_shift_14 : decode cX7_shift 14 = .ok (.iconst 0, 1) := by decide +kernel
theorem dX7_shift_15 : decode cX7_shift 15 = .ok (.goto 4, 3) := by decide +kernel
theorem dX7_shift_18 : decode cX7_shift 18 = .ok (.iconst 1, 1) := by decide +kernel
theorem dX7_shift_19 : decode cX7_shift 19 = .ok (.putfield 35, 3) := by decide +kernel
theorem dX7_shift_22 : decode cX7_shift 22 = .ok (.aload_n 0, 1) := by decide +kernel
theorem dX7_shift_23 : decode cX7_shift 23 = .ok (.getfield 35, 3) := by decide +kernel
theorem dX7_shift_26 : decode cX7_shift 26 = .ok (.ifCond .eq 5, 3) := by decide +kernel
theorem dX7_shift_29 : decode cX7_shift 29 = .ok (.iconst 0, 1) := by decide +kernel
theorem dX7_shift_30 : decode cX7_shift 30 = .ok (.ireturn, 1) := by decide +kernel
theorem dX7_shift_31 : decode cX7_shift 31 = .ok (.aload_n 0, 1) := by decide +kernel
theorem dX7_shift_32 : decode cX7_shift 32 = .ok (.invokevirtual 41, 3) := by decide +kernel
theorem dX7_shift_35 : decode cX7_shift 35 = .ok (.aload_n 0, 1) := by decide +kernel
theorem dX7_shift_36 : decode cX7_shift 36 = .ok (.invokevirtual 124, 3) := by decide +kernel
theorem dX7_shift_39 : decode cX7_shift 39 = .ok (.istore_n 1, 1) := by decide +kernel
theorem dX7_shift_40 : decode cX7_shift 40 = .ok (.iconst 0, 1) := by decide +kernel
theorem dX7_shift_41 : decode cX7_shift 41 = .ok (.istore_n 2, 1) := by decide +kernel
theorem dX7_shift_42 : decode cX7_shift 42 = .ok (.iload_n 2, 1) := by decide +kernel
theorem dX7_shift_43 : decode cX7_shift 43 = .ok (.aload_n 0, 1) := by decide +kernel
theorem dX7_shift_44 : decode cX7_shift 44 = .ok (.getfield 31, 3) := by decide +kernel
theorem dX7_shift_47 : decode cX7_shift 47 = .ok (.if_icmp .ge 47, 3) := by decide +kernel
theorem dX7_shift_50 : decode cX7_shift 50 = .ok (.aload_n 0, 1) := by decide +kernel
theorem dX7_shift_51 : decode cX7_shift 51 = .ok (.getfield 7, 3) := by decide +kernel
theorem dX7_shift_54 : decode cX7_shift 54 = .ok (.bipush 12, 2) := by decide +kernel
theorem dX7_shift_56 : decode cX7_shift 56 = .ok (.iload_n 2, 1) := by decide +kernel
theorem dX7_shift_57 : decode cX7_shift 57 = .ok (.iadd, 1) := by decide +kernel
theorem dX7_shift_58 : decode cX7_shift 58 = .ok (.aload_n 0, 1) := by decide +kernel
theorem dX7_shift_59 : decode cX7_shift 59 = .ok (.getfield 7, 3) := by decide +kernel
theorem dX7_shift_62 : decode cX7_shift 62 = .ok (.bipush 12, 2) := by decide +kernel
theorem dX7_shift_64 : decode cX7_shift 64 = .ok (.iload_n 2, 1) := by decide +kernel
theorem dX7_shift_65 : decode cX7_shift 65 = .ok (.iadd, 1) := by decide +kernel
theorem dX7_shift_66 : decode cX7_shift 66 = .ok (.iaload, 1) := by decide +kernel
theorem dX7_shift_67 : decode cX7_shift 67 = .ok (.iload_n 1, 1) := by decide +kernel
theorem dX7_shift_68 : decode cX7_shift 68 = .ok (.isub, 1) := by decide +kernel
theorem dX7_shift_69 : decode cX7_shift 69 = .ok (.iconst 1, 1) := by decide +kernel
theorem dX7_shift_70 : decode cX7_shift 70 = .ok (.isub, 1) := by decide +kernel
theorem dX7_shift_71 : decode cX7_shift 71 = .ok (.iconst 2, 1) := by decide +kernel
theorem dX7_shift_72 : decode cX7_shift 72 = .ok (.aload_n 0, 1) := by decide +kernel
theorem dX7_shift_73 : decode cX7_shift 73 = .ok (.getfield 31, 3) := by decide +kernel
theorem dX7_shift_76 : decode cX7_shift 76 = .ok (.iconst 1, 1) := by decide +kernel
theorem dX7_shift_77 : decode cX7_shift 77 = .ok (.iadd, 1) := by decide +kernel
theorem dX7_shift_78 : decode cX7_shift 78 = .ok (.imul, 1) := by decide +kernel
theorem dX7_shift_79 : decode cX7_shift 79 = .ok (.iadd, 1) := by decide +kernel
theorem dX7_shift_80 : decode cX7_shift 80 = .ok (.aload_n 0, 1) := by decide +kernel
theorem dX7_shift_81 : decode cX7_shift 81 = .ok (.getfield 31, 3) := by decide +kernel
theorem dX7_shift_84 : decode cX7_shift 84 = .ok (.iconst 1, 1) := by decide +kernel
theorem dX7_shift_85 : decode cX7_shift 85 = .ok (.iadd, 1) := by decide +kernel
theorem dX7_shift_86 : decode cX7_shift 86 = .ok (.irem, 1) := by decide +kernel
theorem dX7_shift_87 : decode cX7_shift 87 = .ok (.iastore, 1) := by decide +kernel
theorem dX7_shift_88 : decode cX7_shift 88 = .ok (.iinc 2 1, 3) := by decide +kernel
theorem dX7_shift_91 : decode cX7_shift 91 = .ok (.goto (-49), 3) := by decide +kernel
theorem dX7_shift_94 : decode cX7_shift 94 = .ok (.iload_n 1, 1) := by decide +kernel
theorem dX7_shift_95 : decode cX7_shift 95 = .ok (.ireturn, 1) := by decide +kernel
theorem dX7_labelOf_0 : decode cX7_labelOf 0 = .ok (.iload_n 1, 1) := by decide +kernel
theorem dX7_labelOf_1 : decode cX7_labelOf 1 = .ok (.istore_n 2, 1) := by decide +kernel
theorem dX7_labelOf_2 : decode cX7_labelOf 2 = .ok (.iconst 0, 1) := by decide +kernel
theorem dX7_labelOf_3 : decode cX7_labelOf 3 = .ok (.istore_n 3, 1) := by decide +kernel
theorem dX7_labelOf_4 : decode cX7_labelOf 4 = .ok (.iload_n 3, 1) := by decide +kernel
theorem dX7_labelOf_5 : decode cX7_labelOf 5 = .ok (.aload_n 0, 1) := by decide +kernel
theorem dX7_labelOf_6 : decode cX7_labelOf 6 = .ok (.getfield 31, 3) := by decide +kernel
theorem dX7_labelOf_9 : decode cX7_labelOf 9 = .ok (.if_icmp .ge 51, 3) := by decide +kernel
theorem dX7_labelOf_12 : decode cX7_labelOf 12 = .ok (.iconst 0, 1) := by decide +kernel
theorem dX7_labelOf_13 : decode cX7_labelOf 13 = .ok (.istore 4, 2) := by decide +kernel
theorem dX7_labelOf_15 : decode cX7_labelOf 15 = .ok (.iload 4, 2) := by decide +kernel
theorem dX7_labelOf_17 : decode cX7_labelOf 17 = .ok (.aload_n 0, 1) := by decide +kernel
theorem dX7_labelOf_18 : decode cX7_labelOf 18 = .ok (.getfield 31, 3) := by decide +kernel
theorem dX7_labelOf_21 : decode cX7_labelOf 21 = .ok (.if_icmp .ge 33, 3) := by decide +kernel
theorem dX7_labelOf_24 : decode cX7_labelOf 24 = .ok (.aload_n 0, 1) := by decide +kernel
theorem dX7_labelOf_25 : decode cX7_labelOf 25 = .ok (.getfield 7, 3) := by decide +kernel
theorem dX7_labelOf_28 : decode cX7_labelOf 28 = .ok (.bipush 12, 2) := by decide +kernel
theorem dX7_labelOf_30 : decode cX7_labelOf 30 = .ok (.iload 4, 2) := by decide +kernel
theorem dX7_labelOf_32 : decode cX7_labelOf 32 = .ok (.iadd, 1) := by decide +kernel
theorem dX7_labelOf_33 : decode cX7_labelOf 33 = .ok (.iaload, 1) := by decide +kernel
theorem dX7_labelOf_34 : decode cX7_labelOf 34 = .ok (.iload_n 3, 1) := by decide +kernel
theorem dX7_labelOf_35 : decode cX7_labelOf 35 = .ok (.if_icmp .ne 13, 3) := by decide +kernel
theorem dX7_labelOf_38 : decode cX7_labelOf 38 = .ok (.iload_n 2, 1) := by decide +kernel
theorem dX7_labelOf_39 : decode cX7_labelOf 39 = .ok (.ifCond .ne 6, 3) := by decide +kernel
theorem dX7_labelOf_42 : decode cX7_labelOf 42 = .ok (.iload 4, 2) := by decide +kernel
theorem dX7_labelOf_44 : decode cX7_labelOf 44 = .ok (.ireturn, 1) := by decide +kernel
theorem dX7_labelOf_45 : decode cX7_labelOf 45 = .ok (.iinc 2 (-1), 3) := by decide +kernel
theorem dX7_labelOf_48 : decode cX7_labelOf 48 = .ok (.iinc 4 1, 3) := by decide +kernel
theorem dX7_labelOf_51 : decode cX7_labelOf 51 = .ok (.goto (-36), 3) := by decide +kernel
theorem dX7_labelOf_54 : decode cX7_labelOf 54 = .ok (.iinc 3 1, 3) := by decide +kernel
theorem dX7_labelOf_57 : decode cX7_labelOf 57 = .ok (.goto (-53), 3) := by decide +kernel
theorem dX7_labelOf_60 : decode cX7_labelOf 60 = .ok (.iconst (-1), 1) := by decide +kernel
theorem dX7_labelOf_61 : decode cX7_labelOf 61 = .ok (.ireturn, 1) := by decide +kernel
set_option maxRecDepth 20000 in
theorem ggX7_areaAt_X7_labelOf : GoodIn wsX7_areaAt wsX7_labelOf := goodIn_r _ [6, 7, 1, 8, 9, 10, 11, 12, 13, 14, 15, 16, 17, 18] (by decide +kernel) (by decide +kernel)
set_option maxRecDepth 20000 in
theorem gX7_areaAt_X7_labelOf : GoodIn wsX7_areaAt (wsV RX7 127 RX7 yX7_labelOf wsX7_labelOf) := goodIn_app (goodIn_of _ (by decide +kernel)) ggX7_areaAt_X7_labelOf
theorem dX7_areaAt_0 : decode cX7_areaAt 0 = .ok (.iload_n 1, 1) := by decide +kernel
theorem dX7_areaAt_1 : decode cX7_areaAt 1 = .ok (.aload_n 0, 1) := by decide +kernel
theorem dX7_areaAt_2 : decode cX7_areaAt 2 = .ok (.getfield 7, 3) := by decide +kernel
theorem dX7_areaAt_5 : decode cX7_areaAt 5 = .ok (.bipush 12, 2) := by decide +kernel
theorem dX7_areaAt_7 : decode cX7_areaAt 7 = .ok (.aload_n 0, 1) := by decide +kernel
theorem dX7_areaAt_8 : decode cX7_areaAt 8 = .ok (.iload_n 1, 1) := by decide +kernel
theorem dX7_areaAt_9 : decode cX7_areaAt 9 = .ok (.invokevirtual 127, 3) := by decide +kernel
theorem dX7_areaAt_12 : decode cX7_areaAt 12 = .ok (.iadd, 1) := by decide +kernel
theorem dX7_areaAt_13 : decode cX7_areaAt 13 = .ok (.iaload, 1) := by decide +kernel
theorem dX7_areaAt_14 : decode cX7_areaAt 14 = .ok (.isub, 1) := by decide +kernel
theorem dX7_areaAt_15 : decode cX7_areaAt 15 = .ok (.ireturn, 1) := by decide +kernel
set_option maxRecDepth 20000 in
theorem ggX7_isWrong_X7_in : GoodIn wsX7_isWrong wsX7_in := goodIn_r _ [5] (by decide +kernel) (by decide +kernel)
set_option maxRecDepth 20000 in
theorem gX7_isWrong_X7_in : GoodIn wsX7_isWrong (va_wsS RX7 44 yX7_in wsX7_in) := goodIn_app (goodIn_of _ (by decide +kernel)) ggX7_isWrong_X7_in
set_option maxRecDepth 20000 in
theorem ggX7_isWrong_X7_standard : GoodIn wsX7_isWrong wsX7_standard := goodIn_r _ [9, 10, 11, 12, 13, 14, 4, 15, 16, 17, 18, 19, 20, 21, 22, 23, 24, 25, 26] (by decide +kernel) (by decide +kernel)
set_option maxRecDepth 20000 in
theorem gX7_isWrong_X7_standard : GoodIn wsX7_isWrong (wsV RX7 120 RX7 yX7_standard wsX7_standard) := goodIn_app (goodIn_of _ (by decide +kernel)) ggX7_isWrong_X7_standard
theorem dX7_isWrong_0 : decode cX7_isWrong 0 = .ok (.aload_n 0, 1) := by decide +kernel
theorem dX7_isWrong_1 : decode cX7_isWrong 1 = .ok (.iload_n 1, 1) := by decide +kernel
theorem dX7_isWrong_2 : decode cX7_isWrong 2 = .ok (.iconst 0, 1) := by decide +kernel
theorem dX7_isWrong_3 : decode cX7_isWrong 3 = .ok (.iload_n 2, 1) := by decide +kernel
theorem dX7_isWrong_4 : decode cX7_isWrong 4 = .ok (.iconst 1, 1) := by decide +kernel
theorem dX7_isWrong_5 : decode cX7_isWrong 5 = .ok (.isub, 1) := by decide +kernel
theorem dX7_isWrong_6 : decode cX7_isWrong 6 = .ok (.invokestatic 44, 3) := by decide +kernel
theorem dX7_isWrong_9 : decode cX7_isWrong 9 = .ok (.ifCond .ne 7, 3) := by decide +kernel
theorem dX7_isWrong_12 : decode cX7_isWrong 12 = .ok (.iconst 1, 1) := by decide +kernel
theorem dX7_isWrong_13 : decode cX7_isWrong 13 = .ok (.goto 15, 3) := by decide +kernel
theorem dX7_isWrong_16 : decode cX7_isWrong 16 = .ok (.aload_n 0, 1) := by decide +kernel
theorem dX7_isWrong_17 : decode cX7_isWrong 17 = .ok (.invokevirtual 120, 3) := by decide +kernel
theorem dX7_isWrong_20 : decode cX7_isWrong 20 = .ok (.ifCond .eq 7, 3) := by decide +kernel
theorem dX7_isWrong_23 : decode cX7_isWrong 23 = .ok (.iconst 0, 1) := by decide +kernel
theorem dX7_isWrong_24 : decode cX7_isWrong 24 = .ok (.goto 4, 3) := by decide +kernel
theorem dX7_isWrong_27 : decode cX7_isWrong 27 = .ok (.iconst 2, 1) := by decide +kernel
theorem dX7_isWrong_28 : decode cX7_isWrong 28 = .ok (.putfield 35, 3) := by decide +kernel
theorem dX7_isWrong_31 : decode cX7_isWrong 31 = .ok (.aload_n 0, 1) := by decide +kernel
theorem dX7_isWrong_32 : decode cX7_isWrong 32 = .ok (.getfield 35, 3) := by decide +kernel
theorem dX7_isWrong_35 : decode cX7_isWrong 35 = .ok (.ifCond .eq 7, 3) := by decide +kernel
theorem dX7_isWrong_38 : decode cX7_isWrong 38 = .ok (.iconst 1, 1) := by decide +kernel
theorem dX7_isWrong_39 : decode cX7_isWrong 39 = .ok (.goto 4, 3) := by decide +kernel
theorem dX7_isWrong_42 : decode cX7_isWrong 42 = .ok (.iconst 0, 1) := by decide +kernel
theorem dX7_isWrong_43 : decode cX7_isWrong 43 = .ok (.ireturn, 1) := by decide +kernel
set_option maxRecDepth 20000 in
theorem ggX7_label_X7_isWrong : GoodIn wsX7_label wsX7_isWrong := goodIn_r _ [6, 7, 8, 9, 5, 10, 11, 12, 13, 14, 15, 1, 16, 17, 18, 19, 24, 25, 26, 27, 28, 29, 30, 31, 32, 33, 34] (by decide +kernel) (by decide +kernel)
set_option maxRecDepth 20000 in
theorem gX7_label_X7_isWrong : GoodIn wsX7_label (wsV RX7 130 RX7 yX7_isWrong wsX7_isWrong) := goodIn_app (goodIn_of _ (by decide +kernel)) ggX7_label_X7_isWrong
set_option maxRecDepth 20000 in
theorem ggX7_label_X7_labelOf : GoodIn wsX7_label wsX7_labelOf := goodIn_r _ [23, 1, 15, 24, 25, 26, 27, 28, 29, 30, 31, 32, 33, 34] (by decide +kernel) (by decide +kernel)
set_option maxRecDepth 20000 in
theorem gX7_label_X7_labelOf : GoodIn wsX7_label (wsV RX7 127 RX7 yX7_labelOf wsX7_labelOf) := goodIn_app (goodIn_of _ (by decide +kernel)) ggX7_label_X7_labelOf
theorem dX7_label_0 : decode cX7_label 0 = .ok (.aload_n 0, 1) := by decide +kernel
theorem dX7_label_1 : decode cX7_label 1 = .ok (.iload_n 1, 1) := by decide +kernel
theorem dX7_label_2 : decode cX7_label 2 = .ok (.aload_n 0, 1) := by decide +kernel
theorem dX7_label_3 : decode cX7_label 3 = .ok (.getfield 31, 3) := by decide +kernel
theorem dX7_label_6 : decode cX7_label 6 = .ok (.invokevirtual 130, 3) := by decide +kernel
theorem dX7_label_9 : decode cX7_label 9 = .ok (.ifCond .eq 7, 3) := by decide +kernel
theorem dX7_label_12 : decode cX7_label 12 = .ok (.iconst 0, 1) := by decide +kernel
theorem dX7_label_13 : decode cX7_label 13 = .ok (.goto 8, 3) := by decide +kernel
theorem dX7_label_16 : decode cX7_label 16 = .ok (.aload_n 0, 1) := by decide +kernel
theorem dX7_label_17 : decode cX7_label 17 = .ok (.iload_n 1, 1) := by decide +kernel
theorem dX7_label_18 : decode cX7_label 18 = .ok (.invokevirtual 127, 3) := by decide +kernel
theorem dX7_label_21 : decode cX7_label 21 = .ok (.ireturn, 1) := by decide +kernel
set_option maxRecDepth 20000 in
theorem ggX7_areaOf_X7_isWrong : GoodIn wsX7_areaOf wsX7_isWrong := goodIn_r _ [6, 7, 8, 9, 5, 10, 11, 12, 13, 14, 15, 1, 16, 17, 18, 19, 28, 29, 30, 31, 32, 33, 34, 35, 36, 37, 38] (by decide +kernel) (by decide +kernel)
set_option maxRecDepth 20000 in
theorem gX7_areaOf_X7_isWrong : GoodIn wsX7_areaOf (wsV RX7 130 RX7 yX7_isWrong wsX7_isWrong) := goodIn_app (goodIn_of _ (by decide +kernel)) ggX7_areaOf_X7_isWrong
set_option maxRecDepth 20000 in
theorem ggX7_areaOf_X7_areaAt : GoodIn wsX7_areaOf wsX7_areaAt := goodIn_r _ [23, 15, 24, 25, 26, 5, 27, 1, 28, 29, 30, 31, 32, 33, 34, 35, 36, 37, 38] (by decide +kernel) (by decide +kernel)
set_option maxRecDepth 20000 in
theorem gX7_areaOf_X7_areaAt : GoodIn wsX7_areaOf (wsV RX7 134 RX7 yX7_areaAt wsX7_areaAt) := goodIn_app (goodIn_of _ (by decide +kernel)) ggX7_areaOf_X7_areaAt
theorem dX7_areaOf_0 : decode cX7_areaOf 0 = .ok (.aload_n 0, 1) := by decide +kernel
theorem dX7_areaOf_1 : decode cX7_areaOf 1 = .ok (.iload_n 1, 1) := by decide +kernel
theorem dX7_areaOf_2 : decode cX7_areaOf 2 = .ok (.aload_n 0, 1) := by decide +kernel
theorem dX7_areaOf_3 : decode cX7_areaOf 3 = .ok (.getfield 31, 3) := by decide +kernel
theorem dX7_areaOf_6 : decode cX7_areaOf 6 = .ok (.invokevirtual 130, 3) := by decide +kernel
theorem dX7_areaOf_9 : decode cX7_areaOf 9 = .ok (.ifCond .eq 7, 3) := by decide +kernel
theorem dX7_areaOf_12 : decode cX7_areaOf 12 = .ok (.iconst 0, 1) := by decide +kernel
theorem dX7_areaOf_13 : decode cX7_areaOf 13 = .ok (.goto 8, 3) := by decide +kernel
theorem dX7_areaOf_16 : decode cX7_areaOf 16 = .ok (.aload_n 0, 1) := by decide +kernel
theorem dX7_areaOf_17 : decode cX7_areaOf 17 = .ok (.iload_n 1, 1) := by decide +kernel
theorem dX7_areaOf_18 : decode cX7_areaOf 18 = .ok (.invokevirtual 134, 3) := by decide +kernel
theorem dX7_areaOf_21 : decode cX7_areaOf 21 = .ok (.ireturn, 1) := by decide +kernel
set_option maxRecDepth 20000 in
theorem ggX7_wholeArea_X7_areaAt : GoodIn wsX7_wholeArea wsX7_areaAt := goodIn_r _ [6, 7, 8, 9, 10, 5, 11, 1, 12, 13, 14, 15, 16, 17, 18, 19, 20, 21, 22] (by decide +kernel) (by decide +kernel)
set_option maxRecDepth 20000 in
theorem gX7_wholeArea_X7_areaAt : GoodIn wsX7_wholeArea (wsV RX7 134 RX7 yX7_areaAt wsX7_areaAt) := goodIn_app (goodIn_of _ (by decide +kernel)) ggX7_wholeArea_X7_areaAt
theorem dX7_wholeArea_0 : decode cX7_wholeArea 0 = .ok (.iconst 0, 1) := by decide +kernel
theorem dX7_wholeArea_1 : decode cX7_wholeArea 1 = .ok (.istore_n 1, 1) := by decide +kernel
theorem dX7_wholeArea_2 : decode cX7_wholeArea 2 = .ok (.iconst 0, 1) := by decide +kernel
theorem dX7_wholeArea_3 : decode cX7_wholeArea 3 = .ok (.istore_n 2, 1) := by decide +kernel
theorem dX7_wholeArea_4 : decode cX7_wholeArea 4 = .ok (.iload_n 2, 1) := by decide +kernel
theorem dX7_wholeArea_5 : decode cX7_wholeArea 5 = .ok (.aload_n 0, 1) := by decide +kernel
theorem dX7_wholeArea_6 : decode cX7_wholeArea 6 = .ok (.getfield 31, 3) := by decide +kernel
theorem dX7_wholeArea_9 : decode cX7_wholeArea 9 = .ok (.if_icmp .ge 17, 3) := by decide +kernel
theorem dX7_wholeArea_12 : decode cX7_wholeArea 12 = .ok (.iload_n 1, 1) := by decide +kernel
theorem dX7_wholeArea_13 : decode cX7_wholeArea 13 = .ok (.aload_n 0, 1) := by decide +kernel
theorem dX7_wholeArea_14 : decode cX7_wholeArea 14 = .ok (.iload_n 2, 1) := by decide +kernel
theorem dX7_wholeArea_15 : decode cX7_wholeArea 15 = .ok (.invokevirtual 134, 3) := by decide +kernel
theorem dX7_wholeArea_18 : decode cX7_wholeArea 18 = .ok (.iadd, 1) := by decide +kernel
theorem dX7_wholeArea_19 : decode cX7_wholeArea 19 = .ok (.istore_n 1, 1) := by decide +kernel
theorem dX7_wholeArea_20 : decode cX7_wholeArea 20 = .ok (.iinc 2 1, 3) := by decide +kernel
theorem dX7_wholeArea_23 : decode cX7_wholeArea 23 = .ok (.goto (-19), 3) := by decide +kernel
theorem dX7_wholeArea_26 : decode cX7_wholeArea 26 = .ok (.iload_n 1, 1) := by decide +kernel
theorem dX7_wholeArea_27 : decode cX7_wholeArea 27 = .ok (.ireturn, 1) := by decide +kernel
set_option maxRecDepth 20000 in
theorem ggX7_area_X7_standard : GoodIn wsX7_area wsX7_standard := goodIn_r _ [6, 7, 8, 9, 10, 11, 5, 12, 25, 26, 27, 28, 29, 30, 31, 32, 33, 34, 35] (by decide +kernel) (by decide +kernel)
set_option maxRecDepth 20000 in
theorem gX7_area_X7_standard : GoodIn wsX7_area (wsV RX7 120 RX7 yX7_standard wsX7_standard) := goodIn_app (goodIn_of _ (by decide +kernel)) ggX7_area_X7_standard
set_option maxRecDepth 20000 in
theorem ggX7_area_X7_wholeArea : GoodIn wsX7_area wsX7_wholeArea := goodIn_r _ [16, 8, 17, 18, 19, 5, 20, 7, 21, 22, 23, 24, 25, 26, 27, 28, 29, 30, 31, 32, 33, 34, 35] (by decide +kernel) (by decide +kernel)
set_option maxRecDepth 20000 in
theorem gX7_area_X7_wholeArea : GoodIn wsX7_area (wsV RX7 137 RX7 yX7_wholeArea wsX7_wholeArea) := goodIn_app (goodIn_of _ (by decide +kernel)) ggX7_area_X7_wholeArea
theorem dX7_area_0 : decode cX7_area 0 = .ok (.aload_n 0, 1) := by decide +kernel
theorem dX7_area_1 : decode cX7_area 1 = .ok (.aload_n 0, 1) := by decide +kernel
theorem dX7_area_2 : decode cX7_area 2 = .ok (.invokevirtual 120, 3) := by decide +kernel
theorem dX7_area_5 : decode cX7_area 5 = .ok (.ifCond .eq 7, 3) := by decide +kernel
theorem dX7_area_8 : decode cX7_area 8 = .ok (.iconst 0, 1) := by decide +kernel
theorem dX7_area_9 : decode cX7_area 9 = .ok (.goto 4, 3) := by decide +kernel
theorem dX7_area_12 : decode cX7_area 12 = .ok (.iconst 1, 1) := by decide +kernel
theorem dX7_area_13 : decode cX7_area 13 = .ok (.putfield 35, 3) := by decide +kernel
theorem dX7_area_16 : decode cX7_area 16 = .ok (.aload_n 0, 1) := by decide +kernel
theorem dX7_area_17 : decode cX7_area 17 = .ok (.getfield 35, 3) := by decide +kernel
theorem dX7_area_20 : decode cX7_area 20 = .ok (.ifCond .ne 10, 3) := by decide +kernel
theorem dX7_area_23 : decode cX7_area 23 = .ok (.aload_n 0, 1) := by decide +kernel
theorem dX7_area_24 : decode cX7_area 24 = .ok (.invokevirtual 137, 3) := by decide +kernel
theorem dX7_area_27 : decode cX7_area 27 = .ok (.goto 4, 3) := by decide +kernel
theorem dX7_area_30 : decode cX7_area 30 = .ok (.iconst 0, 1) := by decide +kernel
theorem dX7_area_31 : decode cX7_area 31 = .ok (.ireturn, 1) := by decide +kernel
set_option maxRecDepth 20000 in
theorem ggX7_inversions_X7_standard : GoodIn wsX7_inversions wsX7_standard := goodIn_r _ [7, 8, 2, 9, 10, 11, 6, 12, 21, 22, 23, 24, 25, 26, 27, 28, 29, 30, 31] (by decide +kernel) (by decide +kernel)
set_option maxRecDepth 20000 in
theorem gX7_inversions_X7_standard : GoodIn wsX7_inversions (wsV RX7 120 RX7 yX7_standard wsX7_standard) := goodIn_app (goodIn_of _ (by decide +kernel)) ggX7_inversions_X7_standard
set_option maxRecDepth 20000 in
theorem ggX7_inversions_X7_areaAt : GoodIn wsX7_inversions wsX7_areaAt := goodIn_r _ [16, 8, 17, 18, 19, 6, 20, 2, 21, 22, 23, 24, 25, 26, 27, 28, 29, 30, 31] (by decide +kernel) (by decide +kernel)
set_option maxRecDepth 20000 in
theorem gX7_inversions_X7_areaAt : GoodIn wsX7_inversions (wsV RX7 134 RX7 yX7_areaAt wsX7_areaAt) := goodIn_app (goodIn_of _ (by decide +kernel)) ggX7_inversions_X7_areaAt
set_option maxRecDepth 20000 in
theorem ggX7_inversions_X7_labelOf : GoodIn wsX7_inversions wsX7_labelOf := goodIn_r _ [20, 2, 8, 21, 22, 23, 24, 25, 26, 27, 28, 29, 30, 31] (by decide +kernel) (by decide +kernel)
set_option maxRecDepth 20000 in
theorem gX7_inversions_X7_labelOf : GoodIn wsX7_inversions (wsV RX7 127 RX7 yX7_labelOf wsX7_labelOf) := goodIn_app (goodIn_of _ (by decide +kernel)) ggX7_inversions_X7_labelOf
theorem dX7_inversions_0 : decode cX7_inversions 0 = .ok (.aload_n 0, 1) := by decide +kernel
theorem dX7_inversions_1 : decode cX7_inversions 1 = .ok (.aload_n 0, 1) := by decide +kernel
theorem dX7_inversions_2 : decode cX7_inversions 2 = .ok (.invokevirtual 120, 3) := by decide +kernel
theorem dX7_inversions_5 : decode cX7_inversions 5 = .ok (.ifCond .eq 7, 3) := by decide +kernel
theorem dX7_inversions_8 : decode cX7_inversions 8 = .ok (.iconst 0, 1) := by decide +kernel
theorem dX7_inversions_9 : decode cX7_inversions 9 = .ok (.goto 4, 3) := by decide +kernel
theorem dX7_inversions_12 : decode cX7_inversions 12 = .ok (.iconst 1, 1) := by decide +kernel
theorem dX7_inversions_13 : decode cX7_inversions 13 = .ok (.putfield 35, 3) := by decide +kernel
theorem dX7_inversions_16 : decode cX7_inversions 16 = .ok (.aload_n 0, 1) := by decide +kernel
theorem dX7_inversions_17 : decode cX7_inversions 17 = .ok (.getfield 35, 3) := by decide +kernel
theorem dX7_inversions_20 : decode cX7_inversions 20 = .ok (.ifCond .eq 5, 3) := by decide +kernel
theorem dX7_inversions_23 : decode cX7_inversions 23 = .ok (.iconst 0, 1) := by decide +kernel
theorem dX7_inversions_24 : decode cX7_inversions 24 = .ok (.ireturn, 1) := by decide +kernel
theorem dX7_inversions_25 : decode cX7_inversions 25 = .ok (.iconst 0, 1) := by decide +kernel
theorem dX7_inversions_26 : decode cX7_inversions 26 = .ok (.istore_n 1, 1) := by decide +kernel
theorem dX7_inversions_27 : decode cX7_inversions 27 = .ok (.iconst 0, 1) := by decide +kernel
theorem dX7_inversions_28 : decode cX7_inversions 28 = .ok (.istore_n 2, 1) := by decide +kernel
theorem dX7_inversions_29 : decode cX7_inversions 29 = .ok (.iload_n 2, 1) := by decide +kernel
theorem dX7_inversions_30 : decode cX7_inversions 30 = .ok (.aload_n 0, 1) := by decide +kernel
theorem dX7_inversions_31 : decode cX7_inversions 31 = .ok (.getfield 31, 3) := by decide +kernel
theorem dX7_inversions_34 : decode cX7_inversions 34 = .ok (.if_icmp .ge 113, 3) := by decide +kernel
theorem dX7_inversions_37 : decode cX7_inversions 37 = .ok (.iload_n 2, 1) := by decide +kernel
theorem dX7_inversions_38 : decode cX7_inversions 38 = .ok (.iconst 1, 1) := by decide +kernel
theorem dX7_inversions_39 : decode cX7_inversions 39 = .ok (.iadd, 1) := by decide +kernel
theorem dX7_inversions_40 : decode cX7_inversions 40 = .ok (.istore_n 3, 1) := by decide +kernel
theorem dX7_inversions_41 : decode cX7_inversions 41 = .ok (.iload_n 3, 1) := by decide +kernel
theorem dX7_inversions_42 : decode cX7_inversions 42 = .ok (.aload_n 0, 1) := by decide +kernel
theorem dX7_inversions_43 : decode cX7_inversions 43 = .ok (.getfield 31, 3) := by decide +kernel
theorem dX7_inversions_46 : decode cX7_inversions 46 = .ok (.if_icmp .ge 95, 3) := by decide +kernel
theorem dX7_inversions_49 : decode cX7_inversions 49 = .ok (.aload_n 0, 1) := by decide +kernel
theorem dX7_inversions_50 : decode cX7_inversions 50 = .ok (.iload_n 2, 1) := by decide +kernel
theorem dX7_inversions_51 : decode cX7_inversions 51 = .ok (.invokevirtual 134, 3) := by decide +kernel
theorem dX7_inversions_54 : decode cX7_inversions 54 = .ok (.aload_n 0, 1) := by decide +kernel
theorem dX7_inversions_55 : decode cX7_inversions 55 = .ok (.iload_n 3, 1) := by decide +kernel
theorem dX7_inversions_56 : decode cX7_inversions 56 = .ok (.invokevirtual 134, 3) := by decide +kernel
theorem dX7_inversions_59 : decode cX7_inversions 59 = .ok (.if_icmp .ne 20, 3) := by decide +kernel
theorem dX7_inversions_62 : decode cX7_inversions 62 = .ok (.aload_n 0, 1) := by decide +kernel
theorem dX7_inversions_63 : decode cX7_inversions 63 = .ok (.iload_n 2, 1) := by decide +kernel
theorem dX7_inversions_64 : decode cX7_inversions 64 = .ok (.invokevirtual 127, 3) := by decide +kernel
theorem dX7_inversions_67 : decode cX7_inversions 67 = .ok (.aload_n 0, 1) := by decide +kernel
theorem dX7_inversions_68 : decode cX7_inversions 68 = .ok (.iload_n 3, 1) := by decide +kernel
theorem dX7_inversions_69 : decode cX7_inversions 69 = .ok (.invokevirtual 127, 3) := by decide +kernel
theorem dX7_inversions_72 : decode cX7_inversions 72 = .ok (.if_icmp .ge 7, 3) := by decide +kernel
theorem dX7_inversions_75 : decode cX7_inversions 75 = .ok (.iconst 1, 1) := by decide +kernel
theorem dX7_inversions_76 : decode cX7_inversions 76 = .ok (.goto 4, 3) := by decide +kernel
theorem dX7_inversions_79 : decode cX7_inversions 79 = .ok (.iconst 0, 1) := by decide +kernel
theorem dX7_inversions_80 : decode cX7_inversions 80 = .ok (.istore 4, 2) := by decide +kernel
theorem dX7_inversions_82 : decode cX7_inversions 82 = .ok (.aload_n 0, 1) := by decide +kernel
theorem dX7_inversions_83 : decode cX7_inversions 83 = .ok (.iload_n 2, 1) := by decide +kernel
theorem dX7_inversions_84 : decode cX7_inversions 84 = .ok (.invokevirtual 134, 3) := by decide +kernel
theorem dX7_inversions_87 : decode cX7_inversions 87 = .ok (.aload_n 0, 1) := by decide +kernel
theorem dX7_inversions_88 : decode cX7_inversions 88 = .ok (.iload_n 3, 1) := by decide +kernel
theorem dX7_inversions_89 : decode cX7_inversions 89 = .ok (.invokevirtual 134, 3) := by decide +kernel
theorem dX7_inversions_92 : decode cX7_inversions 92 = .ok (.iconst 1, 1) := by decide +kernel
theorem dX7_inversions_93 : decode cX7_inversions 93 = .ok (.iadd, 1) := by decide +kernel
theorem dX7_inversions_94 : decode cX7_inversions 94 = .ok (.if_icmp .ne 20, 3) := by decide +kernel
theorem dX7_inversions_97 : decode cX7_inversions 97 = .ok (.aload_n 0, 1) := by decide +kernel
theorem dX7_inversions_98 : decode cX7_inversions 98 = .ok (.iload_n 2, 1) := by decide +kernel
theorem dX7_inversions_99 : decode cX7_inversions 99 = .ok (.invokevirtual 127, 3) := by decide +kernel
theorem dX7_inversions_102 : decode cX7_inversions 102 = .ok (.aload_n 0, 1) := by decide +kernel
theorem dX7_inversions_103 : decode cX7_inversions 103 = .ok (.iload_n 3, 1) := by decide +kernel
theorem dX7_inversions_104 : decode cX7_inversions 104 = .ok (.invokevirtual 127, 3) := by decide +kernel
theorem dX7_inversions_107 : decode cX7_inversions 107 = .ok (.if_icmp .le 7, 3) := by decide +kernel
theorem dX7_inversions_110 : decode cX7_inversions 110 = .ok (.iconst 1, 1) := by decide +kernel
theorem dX7_inversions_111 : decode cX7_inversions 111 = .ok (.goto 4, 3) := by decide +kernel
theorem dX7_inversions_114 : decode cX7_inversions 114 = .ok (.iconst 0, 1) := by decide +kernel
theorem dX7_inversions_115 : decode cX7_inversions 115 = .ok (.istore 5, 2) := by decide +kernel
theorem dX7_inversions_117 : decode cX7_inversions 117 = .ok (.iload_n 1, 1) := by decide +kernel
theorem dX7_inversions_118 : decode cX7_inversions 118 = .ok (.iload 4, 2) := by decide +kernel
theorem dX7_inversions_120 : decode cX7_inversions 120 = .ok (.ifCond .ne 8, 3) := by decide +kernel
theorem dX7_inversions_123 : decode cX7_inversions 123 = .ok (.iload 5, 2) := by decide +kernel
theorem dX7_inversions_125 : decode cX7_inversions 125 = .ok (.ifCond .eq 7, 3) := by decide +kernel
theorem dX7_inversions_128 : decode cX7_inversions 128 = .ok (.iconst 1, 1) := by decide +kernel
theorem dX7_inversions_129 : decode cX7_inversions 129 = .ok (.goto 4, 3) := by decide +kernel
theorem dX7_inversions_132 : decode cX7_inversions 132 = .ok (.iconst 0, 1) := by decide +kernel
theorem dX7_inversions_133 : decode cX7_inversions 133 = .ok (.iadd, 1) := by decide +kernel
theorem dX7_inversions_134 : decode cX7_inversions 134 = .ok (.istore_n 1, 1) := by decide +kernel
theorem dX7_inversions_135 : decode cX7_inversions 135 = .ok (.iinc 3 1, 3) := by decide +kernel
theorem dX7_inversions_138 : decode cX7_inversions 138 = .ok (.goto (-97), 3) := by decide +kernel
theorem dX7_inversions_141 : decode cX7_inversions 141 = .ok (.iinc 2 1, 3) := by decide +kernel
theorem dX7_inversions_144 : decode cX7_inversions 144 = .ok (.goto (-115), 3) := by decide +kernel
theorem dX7_inversions_147 : decode cX7_inversions 147 = .ok (.iload_n 1, 1) := by decide +kernel
theorem dX7_inversions_148 : decode cX7_inversions 148 = .ok (.ireturn, 1) := by decide +kernel
set_option maxRecDepth 20000 in
theorem ggX7_word_X7_isWrong : GoodIn wsX7_word wsX7_isWrong := goodIn_r _ [6, 7, 8, 9, 5, 10, 11, 12, 13, 14, 15, 1, 16, 17, 18, 19, 28, 29, 30, 31, 32, 33, 34, 35, 36, 37, 38] (by decide +kernel) (by decide +kernel)
set_option maxRecDepth 20000 in
theorem gX7_word_X7_isWrong : GoodIn wsX7_word (wsV RX7 130 RX7 yX7_isWrong wsX7_isWrong) := goodIn_app (goodIn_of _ (by decide +kernel)) ggX7_word_X7_isWrong
set_option maxRecDepth 20000 in
theorem ggX7_word_X7_areaAt : GoodIn wsX7_word wsX7_areaAt := goodIn_r _ [23, 15, 24, 25, 26, 5, 27, 1, 28, 29, 30, 31, 32, 33, 34, 35, 36, 37, 38] (by decide +kernel) (by decide +kernel)
set_option maxRecDepth 20000 in
theorem gX7_word_X7_areaAt : GoodIn wsX7_word (wsV RX7 134 RX7 yX7_areaAt wsX7_areaAt) := goodIn_app (goodIn_of _ (by decide +kernel)) ggX7_word_X7_areaAt
set_option maxRecDepth 20000 in
theorem ggX7_word_X7_labelOf : GoodIn wsX7_word wsX7_labelOf := goodIn_r _ [27, 1, 15, 28, 29, 30, 31, 32, 33, 34, 35, 36, 37, 38] (by decide +kernel) (by decide +kernel)
set_option maxRecDepth 20000 in
theorem gX7_word_X7_labelOf : GoodIn wsX7_word (wsV RX7 127 RX7 yX7_labelOf wsX7_labelOf) := goodIn_app (goodIn_of _ (by decide +kernel)) ggX7_word_X7_labelOf
theorem dX7_word_0 : decode cX7_word 0 = .ok (.aload_n 0, 1) := by decide +kernel
theorem dX7_word_1 : decode cX7_word 1 = .ok (.iload_n 1, 1) := by decide +kernel
theorem dX7_word_2 : decode cX7_word 2 = .ok (.aload_n 0, 1) := by decide +kernel
theorem dX7_word_3 : decode cX7_word 3 = .ok (.getfield 31, 3) := by decide +kernel
theorem dX7_word_6 : decode cX7_word 6 = .ok (.invokevirtual 130, 3) := by decide +kernel
theorem dX7_word_9 : decode cX7_word 9 = .ok (.ifCond .eq 5, 3) := by decide +kernel
theorem dX7_word_12 : decode cX7_word 12 = .ok (.iconst 0, 1) := by decide +kernel
theorem dX7_word_13 : decode cX7_word 13 = .ok (.ireturn, 1) := by decide +kernel
theorem dX7_word_14 : decode cX7_word 14 = .ok (.iload_n 1, 1) := by decide +kernel
theorem dX7_word_15 : decode cX7_word 15 = .ok (.istore_n 2, 1) := by decide +kernel
theorem dX7_word_16 : decode cX7_word 16 = .ok (.aload_n 0, 1) := by decide +kernel
theorem dX7_word_17 : decode cX7_word 17 = .ok (.getfield 31, 3) := by decide +kernel
theorem dX7_word_20 : decode cX7_word 20 = .ok (.istore_n 3, 1) := by decide +kernel
theorem dX7_word_21 : decode cX7_word 21 = .ok (.iload_n 3, 1) := by decide +kernel
theorem dX7_word_22 : decode cX7_word 22 = .ok (.ifCond .lt 52, 3) := by decide +kernel
theorem dX7_word_25 : decode cX7_word 25 = .ok (.aload_n 0, 1) := by decide +kernel
theorem dX7_word_26 : decode cX7_word 26 = .ok (.getfield 31, 3) := by decide +kernel
theorem dX7_word_29 : decode cX7_word 29 = .ok (.iconst 1, 1) := by decide +kernel
theorem dX7_word_30 : decode cX7_word 30 = .ok (.isub, 1) := by decide +kernel
theorem dX7_word_31 : decode cX7_word 31 = .ok (.istore 4, 2) := by decide +kernel
theorem dX7_word_33 : decode cX7_word 33 = .ok (.iload 4, 2) := by decide +kernel
theorem dX7_word_35 : decode cX7_word 35 = .ok (.ifCond .lt 33, 3) := by decide +kernel
theorem dX7_word_38 : decode cX7_word 38 = .ok (.aload_n 0, 1) := by decide +kernel
theorem dX7_word_39 : decode cX7_word 39 = .ok (.iload 4, 2) := by decide +kernel
theorem dX7_word_41 : decode cX7_word 41 = .ok (.invokevirtual 134, 3) := by decide +kernel
theorem dX7_word_44 : decode cX7_word 44 = .ok (.iload_n 3, 1) := by decide +kernel
theorem dX7_word_45 : decode cX7_word 45 = .ok (.if_icmp .ne 17, 3) := by decide +kernel
theorem dX7_word_48 : decode cX7_word 48 = .ok (.iload_n 2, 1) := by decide +kernel
theorem dX7_word_49 : decode cX7_word 49 = .ok (.ifCond .ne 10, 3) := by decide +kernel
theorem dX7_word_52 : decode cX7_word 52 = .ok (.aload_n 0, 1) := by decide +kernel
theorem dX7_word_53 : decode cX7_word 53 = .ok (.iload 4, 2) := by decide +kernel
theorem dX7_word_55 : decode cX7_word 55 = .ok (.invokevirtual 127, 3) := by decide +kernel
theorem dX7_word_58 : decode cX7_word 58 = .ok (.ireturn, 1) := by decide +kernel
theorem dX7_word_59 : decode cX7_word 59 = .ok (.iinc 2 (-1), 3) := by decide +kernel
theorem dX7_word_62 : decode cX7_word 62 = .ok (.iinc 4 (-1), 3) := by decide +kernel
theorem dX7_word_65 : decode cX7_word 65 = .ok (.goto (-32), 3) := by decide +kernel
theorem dX7_word_68 : decode cX7_word 68 = .ok (.iinc 3 (-1), 3) := by decide +kernel
theorem dX7_word_71 : decode cX7_word 71 = .ok (.goto (-50), 3) := by decide +kernel
theorem dX7_word_74 : decode cX7_word 74 = .ok (.iconst 0, 1) := by decide +kernel
theorem dX7_word_75 : decode cX7_word 75 = .ok (.ireturn, 1) := by decide +kernel
set_option maxRecDepth 20000 in
theorem ggX7_pathChar_X7_isWrong : GoodIn wsX7_pathChar wsX7_isWrong := goodIn_r _ [7, 8, 9, 10, 6, 11, 12, 13, 14, 15, 2, 1, 16, 17, 18, 19, 20, 21, 22, 23, 24, 25, 26, 27, 28, 29, 30] (by decide +kernel) (by decide +kernel)
set_option maxRecDepth 20000 in
theorem gX7_pathChar_X7_isWrong : GoodIn wsX7_pathChar (wsV RX7 130 RX7 yX7_isWrong wsX7_isWrong) := goodIn_app (goodIn_of _ (by decide +kernel)) ggX7_pathChar_X7_isWrong
theorem dX7_pathChar_0 : decode cX7_pathChar 0 = .ok (.aload_n 0, 1) := by decide +kernel
theorem dX7_pathChar_1 : decode cX7_pathChar 1 = .ok (.iload_n 1, 1) := by decide +kernel
theorem dX7_pathChar_2 : decode cX7_pathChar 2 = .ok (.iconst 3, 1) := by decide +kernel
theorem dX7_pathChar_3 : decode cX7_pathChar 3 = .ok (.aload_n 0, 1) := by decide +kernel
theorem dX7_pathChar_4 : decode cX7_pathChar 4 = .ok (.getfield 31, 3) := by decide +kernel
theorem dX7_pathChar_7 : decode cX7_pathChar 7 = .ok (.imul, 1) := by decide +kernel
theorem dX7_pathChar_8 : decode cX7_pathChar 8 = .ok (.invokevirtual 130, 3) := by decide +kernel
theorem dX7_pathChar_11 : decode cX7_pathChar 11 = .ok (.ifCond .eq 5, 3) := by decide +kernel
theorem dX7_pathChar_14 : decode cX7_pathChar 14 = .ok (.iconst 0, 1) := by decide +kernel
theorem dX7_pathChar_15 : decode cX7_pathChar 15 = .ok (.ireturn, 1) := by decide +kernel
theorem dX7_pathChar_16 : decode cX7_pathChar 16 = .ok (.iconst 0, 1) := by decide +kernel
theorem dX7_pathChar_17 : decode cX7_pathChar 17 = .ok (.istore_n 2, 1) := by decide +kernel
theorem dX7_pathChar_18 : decode cX7_pathChar 18 = .ok (.iconst 0, 1) := by decide +kernel
theorem dX7_pathChar_19 : decode cX7_pathChar 19 = .ok (.istore_n 3, 1) := by decide +kernel
theorem dX7_pathChar_20 : decode cX7_pathChar 20 = .ok (.iload_n 3, 1) := by decide +kernel
theorem dX7_pathChar_21 : decode cX7_pathChar 21 = .ok (.aload_n 0, 1) := by decide +kernel
theorem dX7_pathChar_22 : decode cX7_pathChar 22 = .ok (.getfield 31, 3) := by decide +kernel
theorem dX7_pathChar_25 : decode cX7_pathChar 25 = .ok (.if_icmp .ge 76, 3) := by decide +kernel
theorem dX7_pathChar_28 : decode cX7_pathChar 28 = .ok (.iconst 0, 1) := by decide +kernel
theorem dX7_pathChar_29 : decode cX7_pathChar 29 = .ok (.istore 4, 2) := by decide +kernel
theorem dX7_pathChar_31 : decode cX7_pathChar 31 = .ok (.iload 4, 2) := by decide +kernel
theorem dX7_pathChar_33 : decode cX7_pathChar 33 = .ok (.aload_n 0, 1) := by decide +kernel
theorem dX7_pathChar_34 : decode cX7_pathChar 34 = .ok (.getfield 31, 3) := by decide +kernel
theorem dX7_pathChar_37 : decode cX7_pathChar 37 = .ok (.if_icmp .ge 47, 3) := by decide +kernel
theorem dX7_pathChar_40 : decode cX7_pathChar 40 = .ok (.aload_n 0, 1) := by decide +kernel
theorem dX7_pathChar_41 : decode cX7_pathChar 41 = .ok (.getfield 7, 3) := by decide +kernel
theorem dX7_pathChar_44 : decode cX7_pathChar 44 = .ok (.bipush 12, 2) := by decide +kernel
theorem dX7_pathChar_46 : decode cX7_pathChar 46 = .ok (.iload 4, 2) := by decide +kernel
theorem dX7_pathChar_48 : decode cX7_pathChar 48 = .ok (.iadd, 1) := by decide +kernel
theorem dX7_pathChar_49 : decode cX7_pathChar 49 = .ok (.iaload, 1) := by decide +kernel
theorem dX7_pathChar_50 : decode cX7_pathChar 50 = .ok (.iload_n 3, 1) := by decide +kernel
theorem dX7_pathChar_51 : decode cX7_pathChar 51 = .ok (.if_icmp .ne 27, 3) := by decide +kernel
theorem dX7_pathChar_54 : decode cX7_pathChar 54 = .ok (.iload_n 2, 1) := by decide +kernel
theorem dX7_pathChar_55 : decode cX7_pathChar 55 = .ok (.iload_n 1, 1) := by decide +kernel
theorem dX7_pathChar_56 : decode cX7_pathChar 56 = .ok (.if_icmp .ne 6, 3) := by decide +kernel
theorem dX7_pathChar_59 : decode cX7_pathChar 59 = .ok (.bipush 78, 2) := by decide +kernel
theorem dX7_pathChar_61 : decode cX7_pathChar 61 = .ok (.ireturn, 1) := by decide +kernel
theorem dX7_pathChar_62 : decode cX7_pathChar 62 = .ok (.iload_n 2, 1) := by decide +kernel
theorem dX7_pathChar_63 : decode cX7_pathChar 63 = .ok (.iconst 1, 1) := by decide +kernel
theorem dX7_pathChar_64 : decode cX7_pathChar 64 = .ok (.iadd, 1) := by decide +kernel
theorem dX7_pathChar_65 : decode cX7_pathChar 65 = .ok (.iload_n 1, 1) := by decide +kernel
theorem dX7_pathChar_66 : decode cX7_pathChar 66 = .ok (.if_icmp .ne 9, 3) := by decide +kernel
theorem dX7_pathChar_69 : decode cX7_pathChar 69 = .ok (.bipush 48, 2) := by decide +kernel
theorem dX7_pathChar_71 : decode cX7_pathChar 71 = .ok (.iload 4, 2) := by decide +kernel
theorem dX7_pathChar_73 : decode cX7_pathChar 73 = .ok (.iadd, 1) := by decide +kernel
theorem dX7_pathChar_74 : decode cX7_pathChar 74 = .ok (.ireturn, 1) := by decide +kernel
theorem dX7_pathChar_75 : decode cX7_pathChar 75 = .ok (.iinc 2 2, 3) := by decide +kernel
theorem dX7_pathChar_78 : decode cX7_pathChar 78 = .ok (.iinc 4 1, 3) := by decide +kernel
theorem dX7_pathChar_81 : decode cX7_pathChar 81 = .ok (.goto (-50), 3) := by decide +kernel
theorem dX7_pathChar_84 : decode cX7_pathChar 84 = .ok (.iload_n 2, 1) := by decide +kernel
theorem dX7_pathChar_85 : decode cX7_pathChar 85 = .ok (.iload_n 1, 1) := by decide +kernel
theorem dX7_pathChar_86 : decode cX7_pathChar 86 = .ok (.if_icmp .ne 6, 3) := by decide +kernel
theorem dX7_pathChar_89 : decode cX7_pathChar 89 = .ok (.bipush 69, 2) := by decide +kernel
theorem dX7_pathChar_91 : decode cX7_pathChar 91 = .ok (.ireturn, 1) := by decide +kernel
theorem dX7_pathChar_92 : decode cX7_pathChar 92 = .ok (.iinc 2 1, 3) := by decide +kernel
theorem dX7_pathChar_95 : decode cX7_pathChar 95 = .ok (.iinc 3 1, 3) := by decide +kernel
theorem dX7_pathChar_98 : decode cX7_pathChar 98 = .ok (.goto (-78), 3) := by decide +kernel
theorem dX7_pathChar_101 : decode cX7_pathChar 101 = .ok (.iconst 0, 1) := by decide +kernel
theorem dX7_pathChar_102 : decode cX7_pathChar 102 = .ok (.ireturn, 1) := by decide +kernel
set_option maxRecDepth 20000 in
theorem ggX7_type_X7_in : GoodIn wsX7_type wsX7_in := goodIn_r _ [7] (by decide +kernel) (by decide +kernel)
set_option maxRecDepth 20000 in
theorem gX7_type_X7_in : GoodIn wsX7_type (va_wsS RX7 44 yX7_in wsX7_in) := goodIn_app (goodIn_of _ (by decide +kernel)) ggX7_type_X7_in
set_option maxRecDepth 20000 in
theorem ggX7_type_X7_fails : GoodIn wsX7_type wsX7_fails := goodIn_r _ [11, 1, 12, 13, 14, 15, 16, 17, 18, 19, 20, 21, 22] (by decide +kernel) (by decide +kernel)
set_option maxRecDepth 20000 in
theorem gX7_type_X7_fails : GoodIn wsX7_type (wsV RX7 48 RX7 yX7_fails wsX7_fails) := goodIn_app (goodIn_of _ (by decide +kernel)) ggX7_type_X7_fails
theorem dX7_type_0 : decode cX7_type 0 = .ok (.aload_n 0, 1) := by decide +kernel
theorem dX7_type_1 : decode cX7_type 1 = .ok (.iconst 0, 1) := by decide +kernel
theorem dX7_type_2 : decode cX7_type 2 = .ok (.putfield 35, 3) := by decide +kernel
theorem dX7_type_5 : decode cX7_type 5 = .ok (.iload_n 1, 1) := by decide +kernel
theorem dX7_type_6 : decode cX7_type 6 = .ok (.bipush 32, 2) := by decide +kernel
theorem dX7_type_8 : decode cX7_type 8 = .ok (.bipush 126, 2) := by decide +kernel
theorem dX7_type_10 : decode cX7_type 10 = .ok (.invokestatic 44, 3) := by decide +kernel
theorem dX7_type_13 : decode cX7_type 13 = .ok (.ifCond .ne 9, 3) := by decide +kernel
theorem dX7_type_16 : decode cX7_type 16 = .ok (.aload_n 0, 1) := by decide +kernel
theorem dX7_type_17 : decode cX7_type 17 = .ok (.iconst 1, 1) := by decide +kernel
theorem dX7_type_18 : decode cX7_type 18 = .ok (.invokevirtual 48, 3) := by decide +kernel
theorem dX7_type_21 : decode cX7_type 21 = .ok (.ireturn, 1) := by decide +kernel
theorem dX7_type_22 : decode cX7_type 22 = .ok (.aload_n 0, 1) := by decide +kernel
theorem dX7_type_23 : decode cX7_type 23 = .ok (.getfield 140, 3) := by decide +kernel
theorem dX7_type_26 : decode cX7_type 26 = .ok (.bipush 40, 2) := by decide +kernel
theorem dX7_type_28 : decode cX7_type 28 = .ok (.if_icmp .ne 9, 3) := by decide +kernel
theorem dX7_type_31 : decode cX7_type 31 = .ok (.aload_n 0, 1) := by decide +kernel
theorem dX7_type_32 : decode cX7_type 32 = .ok (.iconst 2, 1) := by decide +kernel
theorem dX7_type_33 : decode cX7_type 33 = .ok (.invokevirtual 48, 3) := by decide +kernel
theorem dX7_type_36 : decode cX7_type 36 = .ok (.ireturn, 1) := by decide +kernel
theorem dX7_type_37 : decode cX7_type 37 = .ok (.aload_n 0, 1) := by decide +kernel
theorem dX7_type_38 : decode cX7_type 38 = .ok (.getfield 28, 3) := by decide +kernel
theorem dX7_type_41 : decode cX7_type 41 = .ok (.aload_n 0, 1) := by decide +kernel
theorem dX7_type_42 : decode cX7_type 42 = .ok (.getfield 140, 3) := by decide +kernel
theorem dX7_type_45 : decode cX7_type 45 = .ok (.iload_n 1, 1) := by decide +kernel
theorem dX7_type_46 : decode cX7_type 46 = .ok (.iastore, 1) := by decide +kernel
theorem dX7_type_47 : decode cX7_type 47 = .ok (.aload_n 0, 1) := by decide +kernel
theorem dX7_type_48 : decode cX7_type 48 = .ok (.dup, 1) := by decide +kernel
theorem dX7_type_49 : decode cX7_type 49 = .ok (.getfield 140, 3) := by decide +kernel
theorem dX7_type_52 : decode cX7_type 52 = .ok (.iconst 1, 1) := by decide +kernel
theorem dX7_type_53 : decode cX7_type 53 = .ok (.iadd, 1) := by decide +kernel
theorem dX7_type_54 : decode cX7_type 54 = .ok (.putfield 140, 3) := by decide +kernel
theorem dX7_type_57 : decode cX7_type 57 = .ok (.aload_n 0, 1) := by decide +kernel
theorem dX7_type_58 : decode cX7_type 58 = .ok (.getfield 140, 3) := by decide +kernel
theorem dX7_type_61 : decode cX7_type 61 = .ok (.ireturn, 1) := by decide +kernel
theorem dX7_clearText_0 : decode cX7_clearText 0 = .ok (.aload_n 0, 1) := by decide +kernel
theorem dX7_clearText_1 : decode cX7_clearText 1 = .ok (.iconst 0, 1) := by decide +kernel
theorem dX7_clearText_2 : decode cX7_clearText 2 = .ok (.putfield 35, 3) := by decide +kernel
theorem dX7_clearText_5 : decode cX7_clearText 5 = .ok (.aload_n 0, 1) := by decide +kernel
theorem dX7_clearText_6 : decode cX7_clearText 6 = .ok (.getfield 140, 3) := by decide +kernel
theorem dX7_clearText_9 : decode cX7_clearText 9 = .ok (.istore_n 1, 1) := by decide +kernel
theorem dX7_clearText_10 : decode cX7_clearText 10 = .ok (.aload_n 0, 1) := by decide +kernel
theorem dX7_clearText_11 : decode cX7_clearText 11 = .ok (.iconst 0, 1) := by decide +kernel
theorem dX7_clearText_12 : decode cX7_clearText 12 = .ok (.putfield 140, 3) := by decide +kernel
theorem dX7_clearText_15 : decode cX7_clearText 15 = .ok (.iload_n 1, 1) := by decide +kernel
theorem dX7_clearText_16 : decode cX7_clearText 16 = .ok (.ireturn, 1) := by decide +kernel
set_option maxRecDepth 20000 in
theorem ggX7_reads_X7_in : GoodIn wsX7_reads wsX7_in := goodIn_r _ [8] (by decide +kernel) (by decide +kernel)
set_option maxRecDepth 20000 in
theorem gX7_reads_X7_in : GoodIn wsX7_reads (va_wsS RX7 44 yX7_in wsX7_in) := goodIn_app (goodIn_of _ (by decide +kernel)) ggX7_reads_X7_in
theorem dX7_reads_0 : decode cX7_reads 0 = .ok (.iconst 0, 1) := by decide +kernel
theorem dX7_reads_1 : decode cX7_reads 1 = .ok (.istore_n 1, 1) := by decide +kernel
theorem dX7_reads_2 : decode cX7_reads 2 = .ok (.iconst 0, 1) := by decide +kernel
theorem dX7_reads_3 : decode cX7_reads 3 = .ok (.istore_n 2, 1) := by decide +kernel
theorem dX7_reads_4 : decode cX7_reads 4 = .ok (.iconst 0, 1) := by decide +kernel
theorem dX7_reads_5 : decode cX7_reads 5 = .ok (.istore_n 3, 1) := by decide +kernel
theorem dX7_reads_6 : decode cX7_reads 6 = .ok (.iconst (-1), 1) := by decide +kernel
theorem dX7_reads_7 : decode cX7_reads 7 = .ok (.istore 4, 2) := by decide +kernel
theorem dX7_reads_9 : decode cX7_reads 9 = .ok (.iconst 0, 1) := by decide +kernel
theorem dX7_reads_10 : decode cX7_reads 10 = .ok (.istore 5, 2) := by decide +kernel
theorem dX7_reads_12 : decode cX7_reads 12 = .ok (.iconst 0, 1) := by decide +kernel
theorem dX7_reads_13 : decode cX7_reads 13 = .ok (.istore 6, 2) := by decide +kernel
theorem dX7_reads_15 : decode cX7_reads 15 = .ok (.iload 6, 2) := by decide +kernel
theorem dX7_reads_17 : decode cX7_reads 17 = .ok (.aload_n 0, 1) := by decide +kernel
theorem dX7_reads_18 : decode cX7_reads 18 = .ok (.getfield 140, 3) := by decide +kernel
theorem dX7_reads_21 : decode cX7_reads 21 = .ok (.if_icmp .ge 138, 3) := by decide +kernel
theorem dX7_reads_24 : decode cX7_reads 24 = .ok (.aload_n 0, 1) := by decide +kernel
theorem dX7_reads_25 : decode cX7_reads 25 = .ok (.getfield 28, 3) := by decide +kernel
theorem dX7_reads_28 : decode cX7_reads 28 = .ok (.iload 6, 2) := by decide +kernel
theorem dX7_reads_30 : decode cX7_reads 30 = .ok (.iaload, 1) := by decide +kernel
theorem dX7_reads_31 : decode cX7_reads 31 = .ok (.istore 7, 2) := by decide +kernel
theorem dX7_reads_33 : decode cX7_reads 33 = .ok (.iload 5, 2) := by decide +kernel
theorem dX7_reads_35 : decode cX7_reads 35 = .ok (.ifCond .eq 73, 3) := by decide +kernel
theorem dX7_reads_38 : decode cX7_reads 38 = .ok (.iload 7, 2) := by decide +kernel
theorem dX7_reads_40 : decode cX7_reads 40 = .ok (.bipush 48, 2) := by decide +kernel
theorem dX7_reads_42 : decode cX7_reads 42 = .ok (.isub, 1) := by decide +kernel
theorem dX7_reads_43 : decode cX7_reads 43 = .ok (.istore 8, 2) := by decide +kernel
theorem dX7_reads_45 : decode cX7_reads 45 = .ok (.iload 8, 2) := by decide +kernel
theorem dX7_reads_47 : decode cX7_reads 47 = .ok (.iconst 0, 1) := by decide +kernel
theorem dX7_reads_48 : decode cX7_reads 48 = .ok (.aload_n 0, 1) := by decide +kernel
theorem dX7_reads_49 : decode cX7_reads 49 = .ok (.getfield 31, 3) := by decide +kernel
theorem dX7_reads_52 : decode cX7_reads 52 = .ok (.iconst 1, 1) := by decide +kernel
theorem dX7_reads_53 : decode cX7_reads 53 = .ok (.isub, 1) := by decide +kernel
theorem dX7_reads_54 : decode cX7_reads 54 = .ok (.invokestatic 44, 3) := by decide +kernel
theorem dX7_reads_57 : decode cX7_reads 57 = .ok (.ifCond .eq 20, 3) := by decide +kernel
theorem dX7_reads_60 : decode cX7_reads 60 = .ok (.iload_n 3, 1) := by decide +kernel
theorem dX7_reads_61 : decode cX7_reads 61 = .ok (.iload 8, 2) := by decide +kernel
theorem dX7_reads_63 : decode cX7_reads 63 = .ok (.ishr, 1) := by decide +kernel
theorem dX7_reads_64 : decode cX7_reads 64 = .ok (.iconst 1, 1) := by decide +kernel
theorem dX7_reads_65 : decode cX7_reads 65 = .ok (.iand, 1) := by decide +kernel
theorem dX7_reads_66 : decode cX7_reads 66 = .ok (.iconst 1, 1) := by decide +kernel
theorem dX7_reads_67 : decode cX7_reads 67 = .ok (.if_icmp .eq 10, 3) := by decide +kernel
theorem dX7_reads_70 : decode cX7_reads 70 = .ok (.iload 8, 2) := by decide +kernel
theorem dX7_reads_72 : decode cX7_reads 72 = .ok (.iload 4, 2) := by decide +kernel
theorem dX7_reads_74 : decode cX7_reads 74 = .ok (.if_icmp .gt 6, 3) := by decide +kernel
theorem dX7_reads_77 : decode cX7_reads 77 = .ok (.iload 6, 2) := by decide +kernel
theorem dX7_reads_79 : decode cX7_reads 79 = .ok (.ireturn, 1) := by decide +kernel
theorem dX7_reads_80 : decode cX7_reads 80 = .ok (.iload_n 3, 1) := by decide +kernel
theorem dX7_reads_81 : decode cX7_reads 81 = .ok (.iconst 1, 1) := by decide +kernel
theorem dX7_reads_82 : decode cX7_reads 82 = .ok (.iload 8, 2) := by decide +kernel
theorem dX7_reads_84 : decode cX7_reads 84 = .ok (.ishl, 1) := by decide +kernel
theorem dX7_reads_85 : decode cX7_reads 85 = .ok (.ior, 1) := by decide +kernel
theorem dX7_reads_86 : decode cX7_reads 86 = .ok (.istore_n 3, 1) := by decide +kernel
theorem dX7_reads_87 : decode cX7_reads 87 = .ok (.iload 8, 2) := by decide +kernel
theorem dX7_reads_89 : decode cX7_reads 89 = .ok (.istore 4, 2) := by decide +kernel
theorem dX7_reads_91 : decode cX7_reads 91 = .ok (.aload_n 0, 1) := by decide +kernel
theorem dX7_reads_92 : decode cX7_reads 92 = .ok (.getfield 16, 3) := by decide +kernel
theorem dX7_reads_95 : decode cX7_reads 95 = .ok (.iload 8, 2) := by decide +kernel
theorem dX7_reads_97 : decode cX7_reads 97 = .ok (.iload_n 2, 1) := by decide +kernel
theorem dX7_reads_98 : decode cX7_reads 98 = .ok (.iastore, 1) := by decide +kernel
theorem dX7_reads_99 : decode cX7_reads 99 = .ok (.iinc 1 1, 3) := by decide +kernel
theorem dX7_reads_102 : decode cX7_reads 102 = .ok (.iconst 0, 1) := by decide +kernel
theorem dX7_reads_103 : decode cX7_reads 103 = .ok (.istore 5, 2) := by decide +kernel
theorem dX7_reads_105 : decode cX7_reads 105 = .ok (.goto 48, 3) := by decide +kernel
theorem dX7_reads_108 : decode cX7_reads 108 = .ok (.iload 7, 2) := by decide +kernel
theorem dX7_reads_110 : decode cX7_reads 110 = .ok (.bipush 78, 2) := by decide +kernel
theorem dX7_reads_112 : decode cX7_reads 112 = .ok (.if_icmp .ne 17, 3) := by decide +kernel
theorem dX7_reads_115 : decode cX7_reads 115 = .ok (.iload_n 1, 1) := by decide +kernel
theorem dX7_reads_116 : decode cX7_reads 116 = .ok (.aload_n 0, 1) := by decide +kernel
theorem dX7_reads_117 : decode cX7_reads 117 = .ok (.getfield 31, 3) := by decide +kernel
theorem dX7_reads_120 : decode cX7_reads 120 = .ok (.if_icmp .ge 9, 3) := by decide +kernel
theorem dX7_reads_123 : decode cX7_reads 123 = .ok (.iconst 1, 1) := by decide +kernel
theorem dX7_reads_124 : decode cX7_reads 124 = .ok (.istore 5, 2) := by decide +kernel
theorem dX7_reads_126 : decode cX7_reads 126 = .ok (.goto 27, 3) := by decide +kernel
theorem dX7_reads_129 : decode cX7_reads 129 = .ok (.iload 7, 2) := by decide +kernel
theorem dX7_reads_131 : decode cX7_reads 131 = .ok (.bipush 69, 2) := by decide +kernel
theorem dX7_reads_133 : decode cX7_reads 133 = .ok (.if_icmp .ne 17, 3) := by decide +kernel
theorem dX7_reads_136 : decode cX7_reads 136 = .ok (.iload_n 2, 1) := by decide +kernel
theorem dX7_reads_137 : decode cX7_reads 137 = .ok (.iload_n 1, 1) := by decide +kernel
theorem dX7_reads_138 : decode cX7_reads 138 = .ok (.if_icmp .ge 12, 3) := by decide +kernel
theorem dX7_reads_141 : decode cX7_reads 141 = .ok (.iinc 2 1, 3) := by decide +kernel
theorem dX7_reads_144 : decode cX7_reads 144 = .ok (.iconst (-1), 1) := by decide +kernel
theorem dX7_reads_145 : decode cX7_reads 145 = .ok (.istore 4, 2) := by decide +kernel
theorem dX7_reads_147 : decode cX7_reads 147 = .ok (.goto 6, 3) := by decide +kernel
theorem dX7_reads_150 : decode cX7_reads 150 = .ok (.iload 6, 2) := by decide +kernel
theorem dX7_reads_152 : decode cX7_reads 152 = .ok (.ireturn, 1) := by decide +kernel
theorem dX7_reads_153 : decode cX7_reads 153 = .ok (.iinc 6 1, 3) := by decide +kernel
theorem dX7_reads_156 : decode cX7_reads 156 = .ok (.goto (-141), 3) := by decide +kernel
theorem dX7_reads_159 : decode cX7_reads 159 = .ok (.iload_n 2, 1) := by decide +kernel
theorem dX7_reads_160 : decode cX7_reads 160 = .ok (.aload_n 0, 1) := by decide +kernel
theorem dX7_reads_161 : decode cX7_reads 161 = .ok (.getfield 31, 3) := by decide +kernel
theorem dX7_reads_164 : decode cX7_reads 164 = .ok (.if_icmp .ne 7, 3) := by decide +kernel
theorem dX7_reads_167 : decode cX7_reads 167 = .ok (.iconst (-1), 1) := by decide +kernel
theorem dX7_reads_168 : decode cX7_reads 168 = .ok (.goto 7, 3) := by decide +kernel
theorem dX7_reads_171 : decode cX7_reads 171 = .ok (.aload_n 0, 1) := by decide +kernel
theorem dX7_reads_172 : decode cX7_reads 172 = .ok (.getfield 140, 3) := by decide +kernel
theorem dX7_reads_175 : decode cX7_reads 175 = .ok (.ireturn, 1) := by decide +kernel
set_option maxRecDepth 20000 in
theorem ggX7_readPath_X7_reads : GoodIn wsX7_readPath wsX7_reads := goodIn_r _ [8, 3, 9, 2, 10, 11, 12, 7, 13, 37, 38, 39, 40, 41, 42, 43, 44, 45, 46, 47] (by decide +kernel) (by decide +kernel)
set_option maxRecDepth 20000 in
theorem gX7_readPath_X7_reads : GoodIn wsX7_readPath (wsV RX7 143 RX7 yX7_reads wsX7_reads) := goodIn_app (goodIn_of _ (by decide +kernel)) ggX7_readPath_X7_reads
set_option maxRecDepth 20000 in
theorem ggX7_readPath_X7_act : GoodIn wsX7_readPath wsX7_act := goodIn_r _ [17, 18, 19, 20, 37, 38, 39, 40, 41, 42, 43, 44, 45, 46, 47] (by decide +kernel) (by decide +kernel)
set_option maxRecDepth 20000 in
theorem gX7_readPath_X7_act : GoodIn wsX7_readPath (wsV RX7 41 RX7 yX7_act wsX7_act) := goodIn_app (goodIn_of _ (by decide +kernel)) ggX7_readPath_X7_act
set_option maxRecDepth 20000 in
theorem ggX7_readPath_X7_lays : GoodIn wsX7_readPath wsX7_lays := goodIn_r _ [24, 20, 10, 37, 38, 39, 40, 41, 42, 43, 44, 45, 46, 47] (by decide +kernel) (by decide +kernel)
set_option maxRecDepth 20000 in
theorem gX7_readPath_X7_lays : GoodIn wsX7_readPath (wsV RX7 104 RX7 yX7_lays wsX7_lays) := goodIn_app (goodIn_of _ (by decide +kernel)) ggX7_readPath_X7_lays
set_option maxRecDepth 20000 in
theorem ggX7_readPath_X7_wholeArea : GoodIn wsX7_readPath wsX7_wholeArea := goodIn_r _ [28, 2, 29, 30, 31, 7, 32, 20, 33, 34, 35, 36, 37, 38, 39, 40, 41, 42, 43, 44, 45, 46, 47] (by decide +kernel) (by decide +kernel)
set_option maxRecDepth 20000 in
theorem gX7_readPath_X7_wholeArea : GoodIn wsX7_readPath (wsV RX7 137 RX7 yX7_wholeArea wsX7_wholeArea) := goodIn_app (goodIn_of _ (by decide +kernel)) ggX7_readPath_X7_wholeArea
theorem dX7_readPath_0 : decode cX7_readPath 0 = .ok (.aload_n 0, 1) := by decide +kernel
theorem dX7_readPath_1 : decode cX7_readPath 1 = .ok (.iconst 0, 1) := by decide +kernel
theorem dX7_readPath_2 : decode cX7_readPath 2 = .ok (.putfield 35, 3) := by decide +kernel
theorem dX7_readPath_5 : decode cX7_readPath 5 = .ok (.aload_n 0, 1) := by decide +kernel
theorem dX7_readPath_6 : decode cX7_readPath 6 = .ok (.invokevirtual 143, 3) := by decide +kernel
theorem dX7_readPath_9 : decode cX7_readPath 9 = .ok (.istore_n 1, 1) := by decide +kernel
theorem dX7_readPath_10 : decode cX7_readPath 10 = .ok (.iload_n 1, 1) := by decide +kernel
theorem dX7_readPath_11 : decode cX7_readPath 11 = .ok (.ifCond .lt 7, 3) := by decide +kernel
theorem dX7_readPath_14 : decode cX7_readPath 14 = .ok (.iconst (-1), 1) := by decide +kernel
theorem dX7_readPath_15 : decode cX7_readPath 15 = .ok (.iload_n 1, 1) := by decide +kernel
theorem dX7_readPath_16 : decode cX7_readPath 16 = .ok (.isub, 1) := by decide +kernel
theorem dX7_readPath_17 : decode cX7_readPath 17 = .ok (.ireturn, 1) := by decide +kernel
theorem dX7_readPath_18 : decode cX7_readPath 18 = .ok (.aload_n 0, 1) := by decide +kernel
theorem dX7_readPath_19 : decode cX7_readPath 19 = .ok (.invokevirtual 41, 3) := by decide +kernel
theorem dX7_readPath_22 : decode cX7_readPath 22 = .ok (.aload_n 0, 1) := by decide +kernel
theorem dX7_readPath_23 : decode cX7_readPath 23 = .ok (.aload_n 0, 1) := by decide +kernel
theorem dX7_readPath_24 : decode cX7_readPath 24 = .ok (.getfield 31, 3) := by decide +kernel
theorem dX7_readPath_27 : decode cX7_readPath 27 = .ok (.invokevirtual 104, 3) := by decide +kernel
theorem dX7_readPath_30 : decode cX7_readPath 30 = .ok (.aload_n 0, 1) := by decide +kernel
theorem dX7_readPath_31 : decode cX7_readPath 31 = .ok (.iconst 0, 1) := by decide +kernel
theorem dX7_readPath_32 : decode cX7_readPath 32 = .ok (.putfield 140, 3) := by decide +kernel
theorem dX7_readPath_35 : decode cX7_readPath 35 = .ok (.aload_n 0, 1) := by decide +kernel
theorem dX7_readPath_36 : decode cX7_readPath 36 = .ok (.invokevirtual 137, 3) := by decide +kernel
theorem dX7_readPath_39 : decode cX7_readPath 39 = .ok (.ireturn, 1) := by decide +kernel
set_option maxRecDepth 20000 in
theorem ggX7_undo_X7_fails : GoodIn wsX7_undo wsX7_fails := goodIn_r _ [9, 1, 10, 11, 12, 13, 14, 15, 16, 17, 18, 19, 20] (by decide +kernel) (by decide +kernel)
set_option maxRecDepth 20000 in
theorem gX7_undo_X7_fails : GoodIn wsX7_undo (wsV RX7 48 RX7 yX7_fails wsX7_fails) := goodIn_app (goodIn_of _ (by decide +kernel)) ggX7_undo_X7_fails
theorem dX7_undo_0 : decode cX7_undo 0 = .ok (.aload_n 0, 1) := by decide +kernel
theorem dX7_undo_1 : decode cX7_undo 1 = .ok (.iconst 0, 1) := by decide +kernel
theorem dX7_undo_2 : decode cX7_undo 2 = .ok (.putfield 35, 3) := by decide +kernel
theorem dX7_undo_5 : decode cX7_undo 5 = .ok (.aload_n 0, 1) := by decide +kernel
theorem dX7_undo_6 : decode cX7_undo 6 = .ok (.getfield 38, 3) := by decide +kernel
theorem dX7_undo_9 : decode cX7_undo 9 = .ok (.ifCond .ne 9, 3) := by decide +kernel
theorem dX7_undo_12 : decode cX7_undo 12 = .ok (.aload_n 0, 1) := by decide +kernel
theorem dX7_undo_13 : decode cX7_undo 13 = .ok (.iconst 1, 1) := by decide +kernel
theorem dX7_undo_14 : decode cX7_undo 14 = .ok (.invokevirtual 48, 3) := by decide +kernel
theorem dX7_undo_17 : decode cX7_undo 17 = .ok (.ireturn, 1) := by decide +kernel
theorem dX7_undo_18 : decode cX7_undo 18 = .ok (.aload_n 0, 1) := by decide +kernel
theorem dX7_undo_19 : decode cX7_undo 19 = .ok (.dup, 1) := by decide +kernel
theorem dX7_undo_20 : decode cX7_undo 20 = .ok (.getfield 38, 3) := by decide +kernel
theorem dX7_undo_23 : decode cX7_undo 23 = .ok (.iconst 1, 1) := by decide +kernel
theorem dX7_undo_24 : decode cX7_undo 24 = .ok (.isub, 1) := by decide +kernel
theorem dX7_undo_25 : decode cX7_undo 25 = .ok (.putfield 38, 3) := by decide +kernel
theorem dX7_undo_28 : decode cX7_undo 28 = .ok (.iconst 0, 1) := by decide +kernel
theorem dX7_undo_29 : decode cX7_undo 29 = .ok (.istore_n 1, 1) := by decide +kernel
theorem dX7_undo_30 : decode cX7_undo 30 = .ok (.iload_n 1, 1) := by decide +kernel
theorem dX7_undo_31 : decode cX7_undo 31 = .ok (.bipush 21, 2) := by decide +kernel
theorem dX7_undo_33 : decode cX7_undo 33 = .ok (.if_icmp .ge 29, 3) := by decide +kernel
theorem dX7_undo_36 : decode cX7_undo 36 = .ok (.aload_n 0, 1) := by decide +kernel
theorem dX7_undo_37 : decode cX7_undo 37 = .ok (.getfield 7, 3) := by decide +kernel
theorem dX7_undo_40 : decode cX7_undo 40 = .ok (.iload_n 1, 1) := by decide +kernel
theorem dX7_undo_41 : decode cX7_undo 41 = .ok (.aload_n 0, 1) := by decide +kernel
theorem dX7_undo_42 : decode cX7_undo 42 = .ok (.getfield 13, 3) := by decide +kernel
theorem dX7_undo_45 : decode cX7_undo 45 = .ok (.bipush 21, 2) := by decide +kernel
theorem dX7_undo_47 : decode cX7_undo 47 = .ok (.aload_n 0, 1) := by decide +kernel
theorem dX7_undo_48 : decode cX7_undo 48 = .ok (.getfield 38, 3) := by decide +kernel
theorem dX7_undo_51 : decode cX7_undo 51 = .ok (.imul, 1) := by decide +kernel
theorem dX7_undo_52 : decode cX7_undo 52 = .ok (.iload_n 1, 1) := by decide +kernel
theorem dX7_undo_53 : decode cX7_undo 53 = .ok (.iadd, 1) := by decide +kernel
theorem dX7_undo_54 : decode cX7_undo 54 = .ok (.iaload, 1) := by decide +kernel
theorem dX7_undo_55 : decode cX7_undo 55 = .ok (.iastore, 1) := by decide +kernel
theorem dX7_undo_56 : decode cX7_undo 56 = .ok (.iinc 1 1, 3) := by decide +kernel
theorem dX7_undo_59 : decode cX7_undo 59 = .ok (.goto (-29), 3) := by decide +kernel
theorem dX7_undo_62 : decode cX7_undo 62 = .ok (.aload_n 0, 1) := by decide +kernel
theorem dX7_undo_63 : decode cX7_undo 63 = .ok (.getfield 38, 3) := by decide +kernel
theorem dX7_undo_66 : decode cX7_undo 66 = .ok (.ireturn, 1) := by decide +kernel
set_option maxRecDepth 20000 in
theorem ggX7_fingerprint_X7_parksNow : GoodIn wsX7_fingerprint wsX7_parksNow := goodIn_r _ [12, 5, 13, 14, 15, 11, 16, 17, 18, 19, 20, 21, 3, 22, 6, 23, 24, 25, 26, 7, 27, 28, 29, 30, 31, 32, 33, 42, 43, 44, 45, 46, 47, 48, 49, 50, 51, 52] (by decide +kernel) (by decide +kernel)
set_option maxRecDepth 20000 in
theorem gX7_fingerprint_X7_parksNow : GoodIn wsX7_fingerprint (wsV RX7 73 RX7 yX7_parksNow wsX7_parksNow) := goodIn_app (goodIn_of _ (by decide +kernel)) ggX7_fingerprint_X7_parksNow
set_option maxRecDepth 20000 in
theorem ggX7_fingerprint_X7_luckyNow : GoodIn wsX7_fingerprint wsX7_luckyNow := goodIn_r _ [37, 5, 6, 17, 8, 9, 10, 11, 12, 13, 14, 15, 16, 18, 19, 20, 21, 3, 22, 23, 24, 25, 26, 7, 27, 28, 29, 30, 31, 32, 33, 42, 43, 44, 45, 46, 47, 48, 49, 50, 51, 52] (by decide +kernel) (by decide +kernel)
set_option maxRecDepth 20000 in
theorem gX7_fingerprint_X7_luckyNow : GoodIn wsX7_fingerprint (wsV RX7 77 RX7 yX7_luckyNow wsX7_luckyNow) := goodIn_app (goodIn_of _ (by decide +kernel)) ggX7_fingerprint_X7_luckyNow
set_option maxRecDepth 20000 in
theorem ggX7_fingerprint_X7_moved : GoodIn wsX7_fingerprint wsX7_moved := goodIn_r _ [41, 5, 6, 17, 8, 9, 10, 11, 12, 13, 14, 15, 16, 18, 19, 20, 21, 3, 22, 23, 24, 25, 26, 7, 27, 28, 29, 30, 31, 32, 33, 42, 43, 44, 45, 46, 47, 48, 49, 50, 51, 52] (by decide +kernel) (by decide +kernel)
set_option maxRecDepth 20000 in
theorem gX7_fingerprint_X7_moved : GoodIn wsX7_fingerprint (wsV RX7 80 RX7 yX7_moved wsX7_moved) := goodIn_app (goodIn_of _ (by decide +kernel)) ggX7_fingerprint_X7_moved
theorem dX7_fingerprint_0 : decode cX7_fingerprint 0 = .ok (.aload_n 0, 1) := by decide +kernel
theorem dX7_fingerprint_1 : decode cX7_fingerprint 1 = .ok (.iconst 0, 1) := by decide +kernel
theorem dX7_fingerprint_2 : decode cX7_fingerprint 2 = .ok (.putfield 35, 3) := by decide +kernel
theorem dX7_fingerprint_5 : decode cX7_fingerprint 5 = .ok (.ldc2_w 146, 3) := by decide +kernel
theorem dX7_fingerprint_8 : decode cX7_fingerprint 8 = .ok (.aload_n 0, 1) := by decide +kernel
theorem dX7_fingerprint_9 : decode cX7_fingerprint 9 = .ok (.getfield 31, 3) := by decide +kernel
theorem dX7_fingerprint_12 : decode cX7_fingerprint 12 = .ok (.i2l, 1) := by decide +kernel
theorem dX7_fingerprint_13 : decode cX7_fingerprint 13 = .ok (.ladd, 1) := by decide +kernel
theorem dX7_fingerprint_14 : decode cX7_fingerprint 14 = .ok (.lstore_n 1, 1) := by decide +kernel
theorem dX7_fingerprint_15 : decode cX7_fingerprint 15 = .ok (.iconst 0, 1) := by decide +kernel
theorem dX7_fingerprint_16 : decode cX7_fingerprint 16 = .ok (.istore_n 3, 1) := by decide +kernel
theorem dX7_fingerprint_17 : decode cX7_fingerprint 17 = .ok (.iload_n 3, 1) := by decide +kernel
theorem dX7_fingerprint_18 : decode cX7_fingerprint 18 = .ok (.aload_n 0, 1) := by decide +kernel
theorem dX7_fingerprint_19 : decode cX7_fingerprint 19 = .ok (.getfield 31, 3) := by decide +kernel
theorem dX7_fingerprint_22 : decode cX7_fingerprint 22 = .ok (.if_icmp .ge 25, 3) := by decide +kernel
theorem dX7_fingerprint_25 : decode cX7_fingerprint 25 = .ok (.ldc2_w 148, 3) := by decide +kernel
theorem dX7_fingerprint_28 : decode cX7_fingerprint 28 = .ok (.lload_n 1, 1) := by decide +kernel
theorem dX7_fingerprint_29 : decode cX7_fingerprint 29 = .ok (.lmul, 1) := by decide +kernel
theorem dX7_fingerprint_30 : decode cX7_fingerprint 30 = .ok (.aload_n 0, 1) := by decide +kernel
theorem dX7_fingerprint_31 : decode cX7_fingerprint 31 = .ok (.getfield 7, 3) := by decide +kernel
theorem dX7_fingerprint_34 : decode cX7_fingerprint 34 = .ok (.iconst 3, 1) := by decide +kernel
theorem dX7_fingerprint_35 : decode cX7_fingerprint 35 = .ok (.iload_n 3, 1) := by decide +kernel
theorem dX7_fingerprint_36 : decode cX7_fingerprint 36 = .ok (.iadd, 1) := by decide +kernel
theorem dX7_fingerprint_37 : decode cX7_fingerprint 37 = .ok (.iaload, 1) := by decide +kernel
theorem dX7_fingerprint_38 : decode cX7_fingerprint 38 = .ok (.i2l, 1) := by decide +kernel
theorem dX7_fingerprint_39 : decode cX7_fingerprint 39 = .ok (.ladd, 1) := by decide +kernel
theorem dX7_fingerprint_40 : decode cX7_fingerprint 40 = .ok (.lstore_n 1, 1) := by decide +kernel
theorem dX7_fingerprint_41 : decode cX7_fingerprint 41 = .ok (.iinc 3 1, 3) := by decide +kernel
theorem dX7_fingerprint_44 : decode cX7_fingerprint 44 = .ok (.goto (-27), 3) := by decide +kernel
theorem dX7_fingerprint_47 : decode cX7_fingerprint 47 = .ok (.ldc2_w 148, 3) := by decide +kernel
theorem dX7_fingerprint_50 : decode cX7_fingerprint 50 = .ok (.lload_n 1, 1) := by decide +kernel
theorem dX7_fingerprint_51 : decode cX7_fingerprint 51 = .ok (.lmul, 1) := by decide +kernel
theorem dX7_fingerprint_52 : decode cX7_fingerprint 52 = .ok (.bipush 10, 2) := by decide +kernel
theorem dX7_fingerprint_54 : decode cX7_fingerprint 54 = .ok (.aload_n 0, 1) := by decide +kernel
theorem dX7_fingerprint_55 : decode cX7_fingerprint 55 = .ok (.getfield 7, 3) := by decide +kernel
theorem dX7_fingerprint_58 : decode cX7_fingerprint 58 = .ok (.iconst 1, 1) := by decide +kernel
theorem dX7_fingerprint_59 : decode cX7_fingerprint 59 = .ok (.iaload, 1) := by decide +kernel
theorem dX7_fingerprint_60 : decode cX7_fingerprint 60 = .ok (.imul, 1) := by decide +kernel
theorem dX7_fingerprint_61 : decode cX7_fingerprint 61 = .ok (.i2l, 1) := by decide +kernel
theorem dX7_fingerprint_62 : decode cX7_fingerprint 62 = .ok (.ladd, 1) := by decide +kernel
theorem dX7_fingerprint_63 : decode cX7_fingerprint 63 = .ok (.aload_n 0, 1) := by decide +kernel
theorem dX7_fingerprint_64 : decode cX7_fingerprint 64 = .ok (.getfield 7, 3) := by decide +kernel
theorem dX7_fingerprint_67 : decode cX7_fingerprint 67 = .ok (.iconst 2, 1) := by decide +kernel
theorem dX7_fingerprint_68 : decode cX7_fingerprint 68 = .ok (.iaload, 1) := by decide +kernel
theorem dX7_fingerprint_69 : decode cX7_fingerprint 69 = .ok (.i2l, 1) := by decide +kernel
theorem dX7_fingerprint_70 : decode cX7_fingerprint 70 = .ok (.ladd, 1) := by decide +kernel
theorem dX7_fingerprint_71 : decode cX7_fingerprint 71 = .ok (.lstore_n 1, 1) := by decide +kernel
theorem dX7_fingerprint_72 : decode cX7_fingerprint 72 = .ok (.ldc2_w 148, 3) := by decide +kernel
theorem dX7_fingerprint_75 : decode cX7_fingerprint 75 = .ok (.lload_n 1, 1) := by decide +kernel
theorem dX7_fingerprint_76 : decode cX7_fingerprint 76 = .ok (.lmul, 1) := by decide +kernel
theorem dX7_fingerprint_77 : decode cX7_fingerprint 77 = .ok (.aload_n 0, 1) := by decide +kernel
theorem dX7_fingerprint_78 : decode cX7_fingerprint 78 = .ok (.getfield 7, 3) := by decide +kernel
theorem dX7_fingerprint_81 : decode cX7_fingerprint 81 = .ok (.iconst 0, 1) := by decide +kernel
theorem dX7_fingerprint_82 : decode cX7_fingerprint 82 = .ok (.iaload, 1) := by decide +kernel
theorem dX7_fingerprint_83 : decode cX7_fingerprint 83 = .ok (.i2l, 1) := by decide +kernel
theorem dX7_fingerprint_84 : decode cX7_fingerprint 84 = .ok (.ladd, 1) := by decide +kernel
theorem dX7_fingerprint_85 : decode cX7_fingerprint 85 = .ok (.lstore_n 1, 1) := by decide +kernel
theorem dX7_fingerprint_86 : decode cX7_fingerprint 86 = .ok (.aload_n 0, 1) := by decide +kernel
theorem dX7_fingerprint_87 : decode cX7_fingerprint 87 = .ok (.invokevirtual 73, 3) := by decide +kernel
theorem dX7_fingerprint_90 : decode cX7_fingerprint 90 = .ok (.istore_n 3, 1) := by decide +kernel
theorem dX7_fingerprint_91 : decode cX7_fingerprint 91 = .ok (.iconst 0, 1) := by decide +kernel
theorem dX7_fingerprint_92 : decode cX7_fingerprint 92 = .ok (.istore 4, 2) := by decide +kernel
theorem dX7_fingerprint_94 : decode cX7_fingerprint 94 = .ok (.iload 4, 2) := by decide +kernel
theorem dX7_fingerprint_96 : decode cX7_fingerprint 96 = .ok (.aload_n 0, 1) := by decide +kernel
theorem dX7_fingerprint_97 : decode cX7_fingerprint 97 = .ok (.getfield 7, 3) := by decide +kernel
theorem dX7_fingerprint_100 : decode cX7_fingerprint 100 = .ok (.iconst 0, 1) := by decide +kernel
theorem dX7_fingerprint_101 : decode cX7_fingerprint 101 = .ok (.iaload, 1) := by decide +kernel
theorem dX7_fingerprint_102 : decode cX7_fingerprint 102 = .ok (.if_icmp .ge 57, 3) := by decide +kernel
theorem dX7_fingerprint_105 : decode cX7_fingerprint 105 = .ok (.ldc2_w 148, 3) := by decide +kernel
theorem dX7_fingerprint_108 : decode cX7_fingerprint 108 = .ok (.lload_n 1, 1) := by decide +kernel
theorem dX7_fingerprint_109 : decode cX7_fingerprint 109 = .ok (.lmul, 1) := by decide +kernel
theorem dX7_fingerprint_110 : decode cX7_fingerprint 110 = .ok (.aload_n 0, 1) := by decide +kernel
theorem dX7_fingerprint_111 : decode cX7_fingerprint 111 = .ok (.getfield 7, 3) := by decide +kernel
theorem dX7_fingerprint_114 : decode cX7_fingerprint 114 = .ok (.bipush 12, 2) := by decide +kernel
theorem dX7_fingerprint_116 : decode cX7_fingerprint 116 = .ok (.iload 4, 2) := by decide +kernel
theorem dX7_fingerprint_118 : decode cX7_fingerprint 118 = .ok (.iadd, 1) := by decide +kernel
theorem dX7_fingerprint_119 : decode cX7_fingerprint 119 = .ok (.iaload, 1) := by decide +kernel
theorem dX7_fingerprint_120 : decode cX7_fingerprint 120 = .ok (.i2l, 1) := by decide +kernel
theorem dX7_fingerprint_121 : decode cX7_fingerprint 121 = .ok (.ladd, 1) := by decide +kernel
theorem dX7_fingerprint_122 : decode cX7_fingerprint 122 = .ok (.lstore_n 1, 1) := by decide +kernel
theorem dX7_fingerprint_123 : decode cX7_fingerprint 123 = .ok (.ldc2_w 148, 3) := by decide +kernel
theorem dX7_fingerprint_126 : decode cX7_fingerprint 126 = .ok (.lload_n 1, 1) := by decide +kernel
theorem dX7_fingerprint_127 : decode cX7_fingerprint 127 = .ok (.lmul, 1) := by decide +kernel
theorem dX7_fingerprint_128 : decode cX7_fingerprint 128 = .ok (.aload_n 0, 1) := by decide +kernel
theorem dX7_fingerprint_129 : decode cX7_fingerprint 129 = .ok (.getfield 19, 3) := by decide +kernel
theorem dX7_fingerprint_132 : decode cX7_fingerprint 132 = .ok (.iload 4, 2) := by decide +kernel
theorem dX7_fingerprint_134 : decode cX7_fingerprint 134 = .ok (.iaload, 1) := by decide +kernel
theorem dX7_fingerprint_135 : decode cX7_fingerprint 135 = .ok (.i2l, 1) := by decide +kernel
theorem dX7_fingerprint_136 : decode cX7_fingerprint 136 = .ok (.ladd, 1) := by decide +kernel
theorem dX7_fingerprint_137 : decode cX7_fingerprint 137 = .ok (.lstore_n 1, 1) := by decide +kernel
theorem dX7_fingerprint_138 : decode cX7_fingerprint 138 = .ok (.ldc2_w 148, 3) := by decide +kernel
theorem dX7_fingerprint_141 : decode cX7_fingerprint 141 = .ok (.lload_n 1, 1) := by decide +kernel
theorem dX7_fingerprint_142 : decode cX7_fingerprint 142 = .ok (.lmul, 1) := by decide +kernel
theorem dX7_fingerprint_143 : decode cX7_fingerprint 143 = .ok (.aload_n 0, 1) := by decide +kernel
theorem dX7_fingerprint_144 : decode cX7_fingerprint 144 = .ok (.getfield 22, 3) := by decide +kernel
theorem dX7_fingerprint_147 : decode cX7_fingerprint 147 = .ok (.iload 4, 2) := by decide +kernel
theorem dX7_fingerprint_149 : decode cX7_fingerprint 149 = .ok (.iaload, 1) := by decide +kernel
theorem dX7_fingerprint_150 : decode cX7_fingerprint 150 = .ok (.i2l, 1) := by decide +kernel
theorem dX7_fingerprint_151 : decode cX7_fingerprint 151 = .ok (.ladd, 1) := by decide +kernel
theorem dX7_fingerprint_152 : decode cX7_fingerprint 152 = .ok (.lstore_n 1, 1) := by decide +kernel
theorem dX7_fingerprint_153 : decode cX7_fingerprint 153 = .ok (.iinc 4 1, 3) := by decide +kernel
theorem dX7_fingerprint_156 : decode cX7_fingerprint 156 = .ok (.goto (-62), 3) := by decide +kernel
theorem dX7_fingerprint_159 : decode cX7_fingerprint 159 = .ok (.ldc2_w 148, 3) := by decide +kernel
theorem dX7_fingerprint_162 : decode cX7_fingerprint 162 = .ok (.lload_n 1, 1) := by decide +kernel
theorem dX7_fingerprint_163 : decode cX7_fingerprint 163 = .ok (.lmul, 1) := by decide +kernel
theorem dX7_fingerprint_164 : decode cX7_fingerprint 164 = .ok (.iload_n 3, 1) := by decide +kernel
theorem dX7_fingerprint_165 : decode cX7_fingerprint 165 = .ok (.i2l, 1) := by decide +kernel
theorem dX7_fingerprint_166 : decode cX7_fingerprint 166 = .ok (.ladd, 1) := by decide +kernel
theorem dX7_fingerprint_167 : decode cX7_fingerprint 167 = .ok (.lstore_n 1, 1) := by decide +kernel
theorem dX7_fingerprint_168 : decode cX7_fingerprint 168 = .ok (.ldc2_w 148, 3) := by decide +kernel
theorem dX7_fingerprint_171 : decode cX7_fingerprint 171 = .ok (.ldc2_w 148, 3) := by decide +kernel
theorem dX7_fingerprint_174 : decode cX7_fingerprint 174 = .ok (.lload_n 1, 1) := by decide +kernel
theorem dX7_fingerprint_175 : decode cX7_fingerprint 175 = .ok (.lmul, 1) := by decide +kernel
theorem dX7_fingerprint_176 : decode cX7_fingerprint 176 = .ok (.aload_n 0, 1) := by decide +kernel
theorem dX7_fingerprint_177 : decode cX7_fingerprint 177 = .ok (.invokevirtual 77, 3) := by decide +kernel
theorem dX7_fingerprint_180 : decode cX7_fingerprint 180 = .ok (.i2l, 1) := by decide +kernel
theorem dX7_fingerprint_181 : decode cX7_fingerprint 181 = .ok (.ladd, 1) := by decide +kernel
theorem dX7_fingerprint_182 : decode cX7_fingerprint 182 = .ok (.lmul, 1) := by decide +kernel
theorem dX7_fingerprint_183 : decode cX7_fingerprint 183 = .ok (.aload_n 0, 1) := by decide +kernel
theorem dX7_fingerprint_184 : decode cX7_fingerprint 184 = .ok (.invokevirtual 80, 3) := by decide +kernel
theorem dX7_fingerprint_187 : decode cX7_fingerprint 187 = .ok (.i2l, 1) := by decide +kernel
theorem dX7_fingerprint_188 : decode cX7_fingerprint 188 = .ok (.ladd, 1) := by decide +kernel
theorem dX7_fingerprint_189 : decode cX7_fingerprint 189 = .ok (.lreturn, 1) := by decide +kernel
theorem dJ9_floorMod_7cf53_0 : decode cJ9_floorMod_7cf53 0 = .ok (.iload_n 0, 1) := by decide +kernel
theorem dJ9_floorMod_7cf53_1 : decode cJ9_floorMod_7cf53 1 = .ok (.iload_n 1, 1) := by decide +kernel
theorem dJ9_floorMod_7cf53_2 : decode cJ9_floorMod_7cf53 2 = .ok (.irem, 1) := by decide +kernel
theorem dJ9_floorMod_7cf53_3 : decode cJ9_floorMod_7cf53 3 = .ok (.istore_n 2, 1) := by decide +kernel
theorem dJ9_floorMod_7cf53_4 : decode cJ9_floorMod_7cf53 4 = .ok (.iload_n 0, 1) := by decide +kernel
theorem dJ9_floorMod_7cf53_5 : decode cJ9_floorMod_7cf53 5 = .ok (.iload_n 1, 1) := by decide +kernel
theorem dJ9_floorMod_7cf53_6 : decode cJ9_floorMod_7cf53 6 = .ok (.ixor, 1) := by decide +kernel
theorem dJ9_floorMod_7cf53_7 : decode cJ9_floorMod_7cf53 7 = .ok (.ifCond .ge 11, 3) := by decide +kernel
theorem dJ9_floorMod_7cf53_10 : decode cJ9_floorMod_7cf53 10 = .ok (.iload_n 2, 1) := by decide +kernel
theorem dJ9_floorMod_7cf53_11 : decode cJ9_floorMod_7cf53 11 = .ok (.ifCond .eq 7, 3) := by decide +kernel
theorem dJ9_floorMod_7cf53_14 : decode cJ9_floorMod_7cf53 14 = .ok (.iload_n 2, 1) := by decide +kernel
theorem dJ9_floorMod_7cf53_15 : decode cJ9_floorMod_7cf53 15 = .ok (.iload_n 1, 1) := by decide +kernel
theorem dJ9_floorMod_7cf53_16 : decode cJ9_floorMod_7cf53 16 = .ok (.iadd, 1) := by decide +kernel
theorem dJ9_floorMod_7cf53_17 : decode cJ9_floorMod_7cf53 17 = .ok (.ireturn, 1) := by decide +kernel
theorem dJ9_floorMod_7cf53_18 : decode cJ9_floorMod_7cf53 18 = .ok (.iload_n 2, 1) := by decide +kernel
theorem dJ9_floorMod_7cf53_19 : decode cJ9_floorMod_7cf53 19 = .ok (.ireturn, 1) := by decide +kernel
theorem dJ9_abs_0f7a4_0 : decode cJ9_abs_0f7a4 0 = .ok (.iload_n 0, 1) := by decide +kernel
theorem dJ9_abs_0f7a4_1 : decode cJ9_abs_0f7a4 1 = .ok (.ifCond .ge 8, 3) := by decide +kernel
theorem dJ9_abs_0f7a4_4 : decode cJ9_abs_0f7a4 4 = .ok (.iload_n 0, 1) := by decide +kernel
theorem dJ9_abs_0f7a4_5 : decode cJ9_abs_0f7a4 5 = .ok (.ineg, 1) := by decide +kernel
theorem dJ9_abs_0f7a4_6 : decode cJ9_abs_0f7a4 6 = .ok (.goto 4, 3) := by decide +kernel
theorem dJ9_abs_0f7a4_9 : decode cJ9_abs_0f7a4 9 = .ok (.iload_n 0, 1) := by decide +kernel
theorem dJ9_abs_0f7a4_10 : decode cJ9_abs_0f7a4 10 = .ok (.ireturn, 1) := by decide +kernel
theorem dJ9_max_7cf53_0 : decode cJ9_max_7cf53 0 = .ok (.iload_n 0, 1) := by decide +kernel
theorem dJ9_max_7cf53_1 : decode cJ9_max_7cf53 1 = .ok (.iload_n 1, 1) := by decide +kernel
theorem dJ9_max_7cf53_2 : decode cJ9_max_7cf53 2 = .ok (.if_icmp .lt 7, 3) := by decide +kernel
theorem dJ9_max_7cf53_5 : decode cJ9_max_7cf53 5 = .ok (.iload_n 0, 1) := by decide +kernel
theorem dJ9_max_7cf53_6 : decode cJ9_max_7cf53 6 = .ok (.goto 4, 3) := by decide +kernel
theorem dJ9_max_7cf53_9 : decode cJ9_max_7cf53 9 = .ok (.iload_n 1, 1) := by decide +kernel
theorem dJ9_max_7cf53_10 : decode cJ9_max_7cf53 10 = .ok (.ireturn, 1) := by decide +kernel
theorem dJ9_min_7cf53_0 : decode cJ9_min_7cf53 0 = .ok (.iload_n 0, 1) := by decide +kernel
theorem dJ9_min_7cf53_1 : decode cJ9_min_7cf53 1 = .ok (.iload_n 1, 1) := by decide +kernel
theorem dJ9_min_7cf53_2 : decode cJ9_min_7cf53 2 = .ok (.if_icmp .gt 7, 3) := by decide +kernel
theorem dJ9_min_7cf53_5 : decode cJ9_min_7cf53 5 = .ok (.iload_n 0, 1) := by decide +kernel
theorem dJ9_min_7cf53_6 : decode cJ9_min_7cf53 6 = .ok (.goto 4, 3) := by decide +kernel
theorem dJ9_min_7cf53_9 : decode cJ9_min_7cf53 9 = .ok (.iload_n 1, 1) := by decide +kernel
theorem dJ9_min_7cf53_10 : decode cJ9_min_7cf53 10 = .ok (.ireturn, 1) := by decide +kernel
theorem dJ7_fill_d0a16_0 : decode cJ7_fill_d0a16 0 = .ok (.iconst 0, 1) := by decide +kernel
theorem dJ7_fill_d0a16_1 : decode cJ7_fill_d0a16 1 = .ok (.istore_n 3, 1) := by decide +kernel
theorem dJ7_fill_d0a16_2 : decode cJ7_fill_d0a16 2 = .ok (.aload_n 0, 1) := by decide +kernel
theorem dJ7_fill_d0a16_3 : decode cJ7_fill_d0a16 3 = .ok (.arraylength, 1) := by decide +kernel
theorem dJ7_fill_d0a16_4 : decode cJ7_fill_d0a16 4 = .ok (.istore 4, 2) := by decide +kernel
theorem dJ7_fill_d0a16_6 : decode cJ7_fill_d0a16 6 = .ok (.iload_n 3, 1) := by decide +kernel
theorem dJ7_fill_d0a16_7 : decode cJ7_fill_d0a16 7 = .ok (.iload 4, 2) := by decide +kernel
theorem dJ7_fill_d0a16_9 : decode cJ7_fill_d0a16 9 = .ok (.if_icmp .ge 13, 3) := by decide +kernel
theorem dJ7_fill_d0a16_12 : decode cJ7_fill_d0a16 12 = .ok (.aload_n 0, 1) := by decide +kernel
theorem dJ7_fill_d0a16_13 : decode cJ7_fill_d0a16 13 = .ok (.iload_n 3, 1) := by decide +kernel
theorem dJ7_fill_d0a16_14 : decode cJ7_fill_d0a16 14 = .ok (.lload_n 1, 1) := by decide +kernel
theorem dJ7_fill_d0a16_15 : decode cJ7_fill_d0a16 15 = .ok (.lastore, 1) := by decide +kernel
theorem dJ7_fill_d0a16_16 : decode cJ7_fill_d0a16 16 = .ok (.iinc 3 1, 3) := by decide +kernel
theorem dJ7_fill_d0a16_19 : decode cJ7_fill_d0a16 19 = .ok (.goto (-13), 3) := by decide +kernel
theorem dJ7_fill_d0a16_22 : decode cJ7_fill_d0a16 22 = .ok (.return_, 1) := by decide +kernel
