theorem dL_cell_0 : decode cL_cell 0 = .ok (.iload_n 1, 1) := by decide +kernel
theorem dL_cell_1 : decode cL_cell 1 = .ok (.aload_n 0, 1) := by decide +kernel
theorem dL_cell_2 : decode cL_cell 2 = .ok (.arraylength, 1) := by decide +kernel
theorem dL_cell_3 : decode cL_cell 3 = .ok (.if_icmp .ge 9, 3) := by decide +kernel
theorem dL_cell_6 : decode cL_cell 6 = .ok (.aload_n 0, 1) := by decide +kernel
theorem dL_cell_7 : decode cL_cell 7 = .ok (.iload_n 1, 1) := by decide +kernel
theorem dL_cell_8 : decode cL_cell 8 = .ok (.iaload, 1) := by decide +kernel
theorem dL_cell_9 : decode cL_cell 9 = .ok (.goto 4, 3) := by decide +kernel
theorem dL_cell_12 : decode cL_cell 12 = .ok (.iconst 0, 1) := by decide +kernel
theorem dL_cell_13 : decode cL_cell 13 = .ok (.ireturn, 1) := by decide +kernel
set_option maxRecDepth 20000 in
theorem ggL_setRule_X6_setRule : GoodIn wsL_setRule wsX6_setRule := goodIn_ca (goodIn_r _ [6, 7, 8, 9, 10, 11, 12, 5, 13, 14, 15, 16, 17, 18, 19, 20, 21, 22, 23, 24, 25, 26, 27, 28, 29, 30, 31, 32, 33, 34, 35, 36, 37, 38, 39, 40, 41, 42, 43, 44, 45, 46, 47, 48, 49, 50, 51, 52, 53, 54, 55, 56, 57, 58, 59, 60, 61, 62, 63, 64] (by decide +kernel) (by decide +kernel)) (goodIn_sub (fun _ h => List.mem_cons_of_mem _ (List.mem_append_right _ h)) (by decide +kernel))
set_option maxRecDepth 20000 in
theorem gL_setRule_X6_setRule : GoodIn wsL_setRule (wsV RL 7 RX6 yX6_setRule wsX6_setRule) := goodIn_app (goodIn_of _ (by decide +kernel)) ggL_setRule_X6_setRule
theorem dL_setRule_0 : decode cL_setRule 0 = .ok (.aload_n 3, 1) := by decide +kernel
theorem dL_setRule_1 : decode cL_setRule 1 = .ok (.iconst 0, 1) := by decide +kernel
theorem dL_setRule_2 : decode cL_setRule 2 = .ok (.aload_n 0, 1) := by decide +kernel
theorem dL_setRule_3 : decode cL_setRule 3 = .ok (.iload_n 1, 1) := by decide +kernel
theorem dL_setRule_4 : decode cL_setRule 4 = .ok (.iload_n 2, 1) := by decide +kernel
theorem dL_setRule_5 : decode cL_setRule 5 = .ok (.invokevirtual 7, 3) := by decide +kernel
theorem dL_setRule_8 : decode cL_setRule 8 = .ok (.i2l, 1) := by decide +kernel
theorem dL_setRule_9 : decode cL_setRule 9 = .ok (.lastore, 1) := by decide +kernel
theorem dL_setRule_10 : decode cL_setRule 10 = .ok (.goto 7, 3) := by decide +kernel
theorem dL_setRule_13 : decode cL_setRule 13 = .ok (.astore 4, 2) := by decide +kernel
theorem dL_setRule_15 : decode cL_setRule 15 = .ok (.iconst 1, 1) := by decide +kernel
theorem dL_setRule_16 : decode cL_setRule 16 = .ok (.ireturn, 1) := by decide +kernel
theorem dL_setRule_17 : decode cL_setRule 17 = .ok (.iconst 0, 1) := by decide +kernel
theorem dL_setRule_18 : decode cL_setRule 18 = .ok (.ireturn, 1) := by decide +kernel
set_option maxRecDepth 20000 in
theorem ggL_setCapacity_X6_setCapacity : GoodIn wsL_setCapacity wsX6_setCapacity := goodIn_ca (goodIn_ca (goodIn_r _ [7, 8, 9, 10, 11, 12, 13, 6, 14, 15, 16, 17, 18, 19, 20, 21, 22, 23, 24, 25, 26, 27, 28, 29, 30, 31, 32, 33, 34, 35, 36, 37, 38, 39, 40, 41, 42, 43, 44, 45, 46, 47, 48, 49, 50, 51, 52, 53, 54, 55, 56, 57, 58, 59, 60, 61, 62, 63, 64, 65, 66] (by decide +kernel) (by decide +kernel)) (goodIn_sub (fun _ h => List.mem_cons_of_mem _ (List.mem_append_left _ (List.mem_append_right _ h))) (by decide +kernel))) (goodIn_sub (fun _ h => List.mem_cons_of_mem _ (List.mem_append_right _ h)) (by decide +kernel))
set_option maxRecDepth 20000 in
theorem gL_setCapacity_X6_setCapacity : GoodIn wsL_setCapacity (wsV RL 15 RX6 yX6_setCapacity wsX6_setCapacity) := goodIn_app (goodIn_of _ (by decide +kernel)) ggL_setCapacity_X6_setCapacity
theorem dL_setCapacity_0 : decode cL_setCapacity 0 = .ok (.aload_n 3, 1) := by decide +kernel
theorem dL_setCapacity_1 : decode cL_setCapacity 1 = .ok (.iconst 0, 1) := by decide +kernel
theorem dL_setCapacity_2 : decode cL_setCapacity 2 = .ok (.aload_n 0, 1) := by decide +kernel
theorem dL_setCapacity_3 : decode cL_setCapacity 3 = .ok (.iload_n 1, 1) := by decide +kernel
theorem dL_setCapacity_4 : decode cL_setCapacity 4 = .ok (.iload_n 2, 1) := by decide +kernel
theorem dL_setCapacity_5 : decode cL_setCapacity 5 = .ok (.invokevirtual 15, 3) := by decide +kernel
theorem dL_setCapacity_8 : decode cL_setCapacity 8 = .ok (.i2l, 1) := by decide +kernel
theorem dL_setCapacity_9 : decode cL_setCapacity 9 = .ok (.lastore, 1) := by decide +kernel
theorem dL_setCapacity_10 : decode cL_setCapacity 10 = .ok (.goto 11, 3) := by decide +kernel
theorem dL_setCapacity_13 : decode cL_setCapacity 13 = .ok (.astore 4, 2) := by decide +kernel
theorem dL_setCapacity_15 : decode cL_setCapacity 15 = .ok (.iconst 1, 1) := by decide +kernel
theorem dL_setCapacity_16 : decode cL_setCapacity 16 = .ok (.ireturn, 1) := by decide +kernel
theorem dL_setCapacity_17 : decode cL_setCapacity 17 = .ok (.astore 4, 2) := by decide +kernel
theorem dL_setCapacity_19 : decode cL_setCapacity 19 = .ok (.iconst 2, 1) := by decide +kernel
theorem dL_setCapacity_20 : decode cL_setCapacity 20 = .ok (.ireturn, 1) := by decide +kernel
theorem dL_setCapacity_21 : decode cL_setCapacity 21 = .ok (.iconst 0, 1) := by decide +kernel
theorem dL_setCapacity_22 : decode cL_setCapacity 22 = .ok (.ireturn, 1) := by decide +kernel
set_option maxRecDepth 20000 in
theorem ggL_addCar_X6_addCar : GoodIn wsL_addCar wsX6_addCar := goodIn_ca (goodIn_ca (goodIn_r _ [7, 8, 9, 10, 11, 12, 13, 14, 6, 15, 16, 17, 18, 19, 20, 21, 22, 23, 24, 25, 26, 27, 28, 29, 30, 31, 32, 33, 34, 35, 36, 37, 38, 39, 40, 41, 42, 43, 44, 45, 46, 47, 48, 49, 50, 51, 52, 53, 54, 55, 56, 57, 58, 59, 60, 61, 62, 63, 64, 65, 66, 67] (by decide +kernel) (by decide +kernel)) (goodIn_sub (fun _ h => List.mem_cons_of_mem _ (List.mem_append_left _ (List.mem_append_right _ h))) (by decide +kernel))) (goodIn_sub (fun _ h => List.mem_cons_of_mem _ (List.mem_append_right _ h)) (by decide +kernel))
set_option maxRecDepth 20000 in
theorem gL_addCar_X6_addCar : GoodIn wsL_addCar (wsV RL 20 RX6 yX6_addCar wsX6_addCar) := goodIn_app (goodIn_of _ (by decide +kernel)) ggL_addCar_X6_addCar
theorem dL_addCar_0 : decode cL_addCar 0 = .ok (.aload_n 2, 1) := by decide +kernel
theorem dL_addCar_1 : decode cL_addCar 1 = .ok (.iconst 0, 1) := by decide +kernel
theorem dL_addCar_2 : decode cL_addCar 2 = .ok (.aload_n 0, 1) := by decide +kernel
theorem dL_addCar_3 : decode cL_addCar 3 = .ok (.iload_n 1, 1) := by decide +kernel
theorem dL_addCar_4 : decode cL_addCar 4 = .ok (.invokevirtual 20, 3) := by decide +kernel
theorem dL_addCar_7 : decode cL_addCar 7 = .ok (.i2l, 1) := by decide +kernel
theorem dL_addCar_8 : decode cL_addCar 8 = .ok (.lastore, 1) := by decide +kernel
theorem dL_addCar_9 : decode cL_addCar 9 = .ok (.goto 9, 3) := by decide +kernel
theorem dL_addCar_12 : decode cL_addCar 12 = .ok (.astore_n 3, 1) := by decide +kernel
theorem dL_addCar_13 : decode cL_addCar 13 = .ok (.iconst 1, 1) := by decide +kernel
theorem dL_addCar_14 : decode cL_addCar 14 = .ok (.ireturn, 1) := by decide +kernel
theorem dL_addCar_15 : decode cL_addCar 15 = .ok (.astore_n 3, 1) := by decide +kernel
theorem dL_addCar_16 : decode cL_addCar 16 = .ok (.iconst 2, 1) := by decide +kernel
theorem dL_addCar_17 : decode cL_addCar 17 = .ok (.ireturn, 1) := by decide +kernel
theorem dL_addCar_18 : decode cL_addCar 18 = .ok (.iconst 0, 1) := by decide +kernel
theorem dL_addCar_19 : decode cL_addCar 19 = .ok (.ireturn, 1) := by decide +kernel
set_option maxRecDepth 20000 in
theorem ggL_setPreference_X6_setPreference : GoodIn wsL_setPreference wsX6_setPreference := goodIn_ca (goodIn_ca (goodIn_r _ [7, 8, 9, 10, 11, 12, 13, 14, 6, 15, 16, 17, 18, 19, 20, 21, 22, 23, 24, 25, 26, 27, 28, 29, 30, 31, 32, 33, 34, 35, 36, 37, 38, 39, 40, 41, 42, 43, 44, 45, 46, 47, 48, 49, 50, 51, 52, 53, 54, 55, 56, 57, 58, 59, 60, 61, 62, 63, 64, 65, 66, 67] (by decide +kernel) (by decide +kernel)) (goodIn_sub (fun _ h => List.mem_cons_of_mem _ (List.mem_append_left _ (List.mem_append_right _ h))) (by decide +kernel))) (goodIn_sub (fun _ h => List.mem_cons_of_mem _ (List.mem_append_right _ h)) (by decide +kernel))
set_option maxRecDepth 20000 in
theorem gL_setPreference_X6_setPreference : GoodIn wsL_setPreference (wsV RL 26 RX6 yX6_setPreference wsX6_setPreference) := goodIn_app (goodIn_of _ (by decide +kernel)) ggL_setPreference_X6_setPreference
theorem dL_setPreference_0 : decode cL_setPreference 0 = .ok (.aload_n 3, 1) := by decide +kernel
theorem dL_setPreference_1 : decode cL_setPreference 1 = .ok (.iconst 0, 1) := by decide +kernel
theorem dL_setPreference_2 : decode cL_setPreference 2 = .ok (.aload_n 0, 1) := by decide +kernel
theorem dL_setPreference_3 : decode cL_setPreference 3 = .ok (.iload_n 1, 1) := by decide +kernel
theorem dL_setPreference_4 : decode cL_setPreference 4 = .ok (.iload_n 2, 1) := by decide +kernel
theorem dL_setPreference_5 : decode cL_setPreference 5 = .ok (.invokevirtual 26, 3) := by decide +kernel
theorem dL_setPreference_8 : decode cL_setPreference 8 = .ok (.i2l, 1) := by decide +kernel
theorem dL_setPreference_9 : decode cL_setPreference 9 = .ok (.lastore, 1) := by decide +kernel
theorem dL_setPreference_10 : decode cL_setPreference 10 = .ok (.goto 11, 3) := by decide +kernel
theorem dL_setPreference_13 : decode cL_setPreference 13 = .ok (.astore 4, 2) := by decide +kernel
theorem dL_setPreference_15 : decode cL_setPreference 15 = .ok (.iconst 1, 1) := by decide +kernel
theorem dL_setPreference_16 : decode cL_setPreference 16 = .ok (.ireturn, 1) := by decide +kernel
theorem dL_setPreference_17 : decode cL_setPreference 17 = .ok (.astore 4, 2) := by decide +kernel
theorem dL_setPreference_19 : decode cL_setPreference 19 = .ok (.iconst 2, 1) := by decide +kernel
theorem dL_setPreference_20 : decode cL_setPreference 20 = .ok (.ireturn, 1) := by decide +kernel
theorem dL_setPreference_21 : decode cL_setPreference 21 = .ok (.iconst 0, 1) := by decide +kernel
theorem dL_setPreference_22 : decode cL_setPreference 22 = .ok (.ireturn, 1) := by decide +kernel
set_option maxRecDepth 20000 in
theorem ggL_removeCar_X6_removeCar : GoodIn wsL_removeCar wsX6_removeCar := goodIn_ca (goodIn_r _ [6, 7, 8, 9, 10, 11, 5, 12, 13, 14, 15, 16, 17, 18, 19, 20, 21, 22, 23, 24, 25, 26, 27, 28, 29, 30, 31, 32, 33, 34, 35, 36, 37, 38, 39, 40, 41, 42, 43, 44, 45, 46, 47, 48, 49, 50, 51, 52, 53, 54, 55, 56] (by decide +kernel) (by decide +kernel)) (goodIn_sub (fun _ h => List.mem_cons_of_mem _ (List.mem_append_right _ h)) (by decide +kernel))
set_option maxRecDepth 20000 in
theorem gL_removeCar_X6_removeCar : GoodIn wsL_removeCar (wsV RL 29 RX6 yX6_removeCar wsX6_removeCar) := goodIn_app (goodIn_of _ (by decide +kernel)) ggL_removeCar_X6_removeCar
theorem dL_removeCar_0 : decode cL_removeCar 0 = .ok (.aload_n 1, 1) := by decide +kernel
theorem dL_removeCar_1 : decode cL_removeCar 1 = .ok (.iconst 0, 1) := by decide +kernel
theorem dL_removeCar_2 : decode cL_removeCar 2 = .ok (.aload_n 0, 1) := by decide +kernel
theorem dL_removeCar_3 : decode cL_removeCar 3 = .ok (.invokevirtual 29, 3) := by decide +kernel
theorem dL_removeCar_6 : decode cL_removeCar 6 = .ok (.i2l, 1) := by decide +kernel
theorem dL_removeCar_7 : decode cL_removeCar 7 = .ok (.lastore, 1) := by decide +kernel
theorem dL_removeCar_8 : decode cL_removeCar 8 = .ok (.goto 6, 3) := by decide +kernel
theorem dL_removeCar_11 : decode cL_removeCar 11 = .ok (.astore_n 2, 1) := by decide +kernel
theorem dL_removeCar_12 : decode cL_removeCar 12 = .ok (.iconst 1, 1) := by decide +kernel
theorem dL_removeCar_13 : decode cL_removeCar 13 = .ok (.ireturn, 1) := by decide +kernel
theorem dL_removeCar_14 : decode cL_removeCar 14 = .ok (.iconst 0, 1) := by decide +kernel
theorem dL_removeCar_15 : decode cL_removeCar 15 = .ok (.ireturn, 1) := by decide +kernel
set_option maxRecDepth 20000 in
theorem ggL_preference_X6_preference : GoodIn wsL_preference wsX6_preference := goodIn_ca (goodIn_r _ [6, 7, 8, 9, 10, 11, 5, 12, 13, 14, 15, 16, 17, 18, 19, 20, 21, 22, 23, 24, 25, 26, 27, 28, 29] (by decide +kernel) (by decide +kernel)) (goodIn_sub (fun _ h => List.mem_cons_of_mem _ (List.mem_append_right _ h)) (by decide +kernel))
set_option maxRecDepth 20000 in
theorem gL_preference_X6_preference : GoodIn wsL_preference (wsV RL 33 RX6 yX6_preference wsX6_preference) := goodIn_app (goodIn_of _ (by decide +kernel)) ggL_preference_X6_preference
theorem dL_preference_0 : decode cL_preference 0 = .ok (.aload_n 2, 1) := by decide +kernel
theorem dL_preference_1 : decode cL_preference 1 = .ok (.iconst 0, 1) := by decide +kernel
theorem dL_preference_2 : decode cL_preference 2 = .ok (.aload_n 0, 1) := by decide +kernel
theorem dL_preference_3 : decode cL_preference 3 = .ok (.iload_n 1, 1) := by decide +kernel
theorem dL_preference_4 : decode cL_preference 4 = .ok (.invokevirtual 33, 3) := by decide +kernel
theorem dL_preference_7 : decode cL_preference 7 = .ok (.i2l, 1) := by decide +kernel
theorem dL_preference_8 : decode cL_preference 8 = .ok (.lastore, 1) := by decide +kernel
theorem dL_preference_9 : decode cL_preference 9 = .ok (.goto 6, 3) := by decide +kernel
theorem dL_preference_12 : decode cL_preference 12 = .ok (.astore_n 3, 1) := by decide +kernel
theorem dL_preference_13 : decode cL_preference 13 = .ok (.iconst 1, 1) := by decide +kernel
theorem dL_preference_14 : decode cL_preference 14 = .ok (.ireturn, 1) := by decide +kernel
theorem dL_preference_15 : decode cL_preference 15 = .ok (.iconst 0, 1) := by decide +kernel
theorem dL_preference_16 : decode cL_preference 16 = .ok (.ireturn, 1) := by decide +kernel
set_option maxRecDepth 20000 in
theorem ggL_spaceOf_X6_spaceOf : GoodIn wsL_spaceOf wsX6_spaceOf := goodIn_ca (goodIn_r _ [6, 7, 8, 9, 10, 11, 12, 5, 13, 14, 15, 16, 17, 18, 19, 20, 21, 22, 23, 24, 25, 26, 27, 28, 29, 30, 31, 32, 33, 34, 35, 36, 37, 38, 39, 40, 41, 42, 43, 44, 45, 46, 47, 48, 49, 50, 51, 52, 53, 54, 55, 56, 57, 58, 59, 60, 61, 62, 63, 64, 65, 66, 67, 68, 69, 70, 71, 72, 73, 74, 75, 76, 77, 78, 79, 80, 81, 82, 83, 84, 85, 86, 87] (by decide +kernel) (by decide +kernel)) (goodIn_sub (fun _ h => List.mem_cons_of_mem _ (List.mem_append_right _ h)) (by decide +kernel))
set_option maxRecDepth 20000 in
theorem gL_spaceOf_X6_spaceOf : GoodIn wsL_spaceOf (wsV RL 36 RX6 yX6_spaceOf wsX6_spaceOf) := goodIn_app (goodIn_of _ (by decide +kernel)) ggL_spaceOf_X6_spaceOf
theorem dL_spaceOf_0 : decode cL_spaceOf 0 = .ok (.aload_n 2, 1) := by decide +kernel
theorem dL_spaceOf_1 : decode cL_spaceOf 1 = .ok (.iconst 0, 1) := by decide +kernel
theorem dL_spaceOf_2 : decode cL_spaceOf 2 = .ok (.aload_n 0, 1) := by decide +kernel
theorem dL_spaceOf_3 : decode cL_spaceOf 3 = .ok (.iload_n 1, 1) := by decide +kernel
theorem dL_spaceOf_4 : decode cL_spaceOf 4 = .ok (.invokevirtual 36, 3) := by decide +kernel
theorem dL_spaceOf_7 : decode cL_spaceOf 7 = .ok (.i2l, 1) := by decide +kernel
theorem dL_spaceOf_8 : decode cL_spaceOf 8 = .ok (.lastore, 1) := by decide +kernel
theorem dL_spaceOf_9 : decode cL_spaceOf 9 = .ok (.goto 6, 3) := by decide +kernel
theorem dL_spaceOf_12 : decode cL_spaceOf 12 = .ok (.astore_n 3, 1) := by decide +kernel
theorem dL_spaceOf_13 : decode cL_spaceOf 13 = .ok (.iconst 1, 1) := by decide +kernel
theorem dL_spaceOf_14 : decode cL_spaceOf 14 = .ok (.ireturn, 1) := by decide +kernel
theorem dL_spaceOf_15 : decode cL_spaceOf 15 = .ok (.iconst 0, 1) := by decide +kernel
theorem dL_spaceOf_16 : decode cL_spaceOf 16 = .ok (.ireturn, 1) := by decide +kernel
set_option maxRecDepth 20000 in
theorem ggL_steps_X6_steps : GoodIn wsL_steps wsX6_steps := goodIn_ca (goodIn_r _ [6, 7, 8, 9, 10, 11, 12, 5, 13, 14, 15, 16, 17, 18, 19, 20, 21, 22, 23, 24, 25, 26, 27, 28, 29, 30, 31, 32, 33, 34, 35, 36, 37, 38, 39, 40, 41, 42, 43, 44, 45, 46, 47, 48, 49, 50, 51, 52, 53, 54, 55, 56, 57, 58, 59, 60, 61, 62, 63, 64, 65, 66, 67, 68, 69, 70, 71, 72, 73, 74, 75, 76, 77, 78, 79, 80, 81, 82, 83, 84, 85, 86, 87] (by decide +kernel) (by decide +kernel)) (goodIn_sub (fun _ h => List.mem_cons_of_mem _ (List.mem_append_right _ h)) (by decide +kernel))
set_option maxRecDepth 20000 in
theorem gL_steps_X6_steps : GoodIn wsL_steps (wsV RL 39 RX6 yX6_steps wsX6_steps) := goodIn_app (goodIn_of _ (by decide +kernel)) ggL_steps_X6_steps
theorem dL_steps_0 : decode cL_steps 0 = .ok (.aload_n 2, 1) := by decide +kernel
theorem dL_steps_1 : decode cL_steps 1 = .ok (.iconst 0, 1) := by decide +kernel
theorem dL_steps_2 : decode cL_steps 2 = .ok (.aload_n 0, 1) := by decide +kernel
theorem dL_steps_3 : decode cL_steps 3 = .ok (.iload_n 1, 1) := by decide +kernel
theorem dL_steps_4 : decode cL_steps 4 = .ok (.invokevirtual 39, 3) := by decide +kernel
theorem dL_steps_7 : decode cL_steps 7 = .ok (.i2l, 1) := by decide +kernel
theorem dL_steps_8 : decode cL_steps 8 = .ok (.lastore, 1) := by decide +kernel
theorem dL_steps_9 : decode cL_steps 9 = .ok (.goto 6, 3) := by decide +kernel
theorem dL_steps_12 : decode cL_steps 12 = .ok (.astore_n 3, 1) := by decide +kernel
theorem dL_steps_13 : decode cL_steps 13 = .ok (.iconst 1, 1) := by decide +kernel
theorem dL_steps_14 : decode cL_steps 14 = .ok (.ireturn, 1) := by decide +kernel
theorem dL_steps_15 : decode cL_steps 15 = .ok (.iconst 0, 1) := by decide +kernel
theorem dL_steps_16 : decode cL_steps 16 = .ok (.ireturn, 1) := by decide +kernel
set_option maxRecDepth 20000 in
theorem ggL_carsIn_X6_carsIn : GoodIn wsL_carsIn wsX6_carsIn := goodIn_ca (goodIn_r _ [6, 7, 8, 9, 10, 5, 11, 12, 13, 14, 15, 16, 17, 18, 19, 20, 21, 22, 23, 24, 25, 26, 27, 28, 29, 30, 31, 32, 33, 34, 35, 36, 37, 38, 39, 40, 41, 42, 43, 44, 45, 46, 47, 48, 49, 50, 51, 52, 53, 54, 55, 56, 57, 58, 59, 60, 61, 62, 63, 64, 65, 66, 67, 68, 69, 70, 71, 72, 73, 74, 75, 76, 77, 78, 79, 80, 81, 82, 83, 84, 85, 86, 87, 88, 89, 90, 91] (by decide +kernel) (by decide +kernel)) (goodIn_sub (fun _ h => List.mem_cons_of_mem _ (List.mem_append_right _ h)) (by decide +kernel))
set_option maxRecDepth 20000 in
theorem gL_carsIn_X6_carsIn : GoodIn wsL_carsIn (wsV RL 42 RX6 yX6_carsIn wsX6_carsIn) := goodIn_app (goodIn_of _ (by decide +kernel)) ggL_carsIn_X6_carsIn
theorem dL_carsIn_0 : decode cL_carsIn 0 = .ok (.aload_n 2, 1) := by decide +kernel
theorem dL_carsIn_1 : decode cL_carsIn 1 = .ok (.iconst 0, 1) := by decide +kernel
theorem dL_carsIn_2 : decode cL_carsIn 2 = .ok (.aload_n 0, 1) := by decide +kernel
theorem dL_carsIn_3 : decode cL_carsIn 3 = .ok (.iload_n 1, 1) := by decide +kernel
theorem dL_carsIn_4 : decode cL_carsIn 4 = .ok (.invokevirtual 42, 3) := by decide +kernel
theorem dL_carsIn_7 : decode cL_carsIn 7 = .ok (.i2l, 1) := by decide +kernel
theorem dL_carsIn_8 : decode cL_carsIn 8 = .ok (.lastore, 1) := by decide +kernel
theorem dL_carsIn_9 : decode cL_carsIn 9 = .ok (.goto 6, 3) := by decide +kernel
theorem dL_carsIn_12 : decode cL_carsIn 12 = .ok (.astore_n 3, 1) := by decide +kernel
theorem dL_carsIn_13 : decode cL_carsIn 13 = .ok (.iconst 1, 1) := by decide +kernel
theorem dL_carsIn_14 : decode cL_carsIn 14 = .ok (.ireturn, 1) := by decide +kernel
theorem dL_carsIn_15 : decode cL_carsIn 15 = .ok (.iconst 0, 1) := by decide +kernel
theorem dL_carsIn_16 : decode cL_carsIn 16 = .ok (.ireturn, 1) := by decide +kernel
set_option maxRecDepth 20000 in
theorem ggL_countDefect_X6_countDefect : GoodIn wsL_countDefect wsX6_countDefect := goodIn_ca (goodIn_ca (goodIn_r _ [7, 8, 9, 6, 10, 11, 12, 13, 14, 15, 16, 17, 18, 19, 20, 21, 22, 23, 24, 25, 26, 27, 28, 29, 30, 31, 32, 33, 34, 35, 36, 37, 38, 39, 40, 41, 42, 43, 44, 45, 46, 47, 48, 49, 50, 51, 52, 53, 54, 55, 56, 57, 58, 59, 60, 61, 62, 63, 64, 65, 66, 67, 68, 69, 70, 71, 72, 73, 74, 75, 76, 77, 78, 79, 80, 81, 82, 83, 84, 85, 86, 87, 88, 89, 90, 91, 92, 93, 94, 95, 96, 97, 98, 99, 100, 101, 102, 103, 104, 105, 106, 107, 108, 109, 110, 111, 112, 113, 114, 115, 116, 117, 118, 119, 120, 121, 122, 123, 124, 125, 126, 127, 128, 129, 130, 131, 132, 133, 134, 135, 136, 137, 138, 139, 140, 141, 142, 143, 144, 145, 146, 147, 148, 149, 150, 151, 152, 153, 154, 155, 156, 157, 158, 159] (by decide +kernel) (by decide +kernel)) (goodIn_sub (fun _ h => List.mem_cons_of_mem _ (List.mem_append_left _ (List.mem_append_right _ h))) (by decide +kernel))) (goodIn_sub (fun _ h => List.mem_cons_of_mem _ (List.mem_append_right _ h)) (by decide +kernel))
set_option maxRecDepth 20000 in
theorem gL_countDefect_X6_countDefect : GoodIn wsL_countDefect (wsV RL 45 RX6 yX6_countDefect wsX6_countDefect) := goodIn_app (goodIn_of _ (by decide +kernel)) ggL_countDefect_X6_countDefect
theorem dL_countDefect_0 : decode cL_countDefect 0 = .ok (.aload_n 3, 1) := by decide +kernel
theorem dL_countDefect_1 : decode cL_countDefect 1 = .ok (.iconst 0, 1) := by decide +kernel
theorem dL_countDefect_2 : decode cL_countDefect 2 = .ok (.aload_n 0, 1) := by decide +kernel
theorem dL_countDefect_3 : decode cL_countDefect 3 = .ok (.iload_n 1, 1) := by decide +kernel
theorem dL_countDefect_4 : decode cL_countDefect 4 = .ok (.iload_n 2, 1) := by decide +kernel
theorem dL_countDefect_5 : decode cL_countDefect 5 = .ok (.invokevirtual 45, 3) := by decide +kernel
theorem dL_countDefect_8 : decode cL_countDefect 8 = .ok (.i2l, 1) := by decide +kernel
theorem dL_countDefect_9 : decode cL_countDefect 9 = .ok (.lastore, 1) := by decide +kernel
theorem dL_countDefect_10 : decode cL_countDefect 10 = .ok (.goto 11, 3) := by decide +kernel
theorem dL_countDefect_13 : decode cL_countDefect 13 = .ok (.astore 4, 2) := by decide +kernel
theorem dL_countDefect_15 : decode cL_countDefect 15 = .ok (.iconst 1, 1) := by decide +kernel
theorem dL_countDefect_16 : decode cL_countDefect 16 = .ok (.ireturn, 1) := by decide +kernel
theorem dL_countDefect_17 : decode cL_countDefect 17 = .ok (.astore 4, 2) := by decide +kernel
theorem dL_countDefect_19 : decode cL_countDefect 19 = .ok (.iconst 2, 1) := by decide +kernel
theorem dL_countDefect_20 : decode cL_countDefect 20 = .ok (.ireturn, 1) := by decide +kernel
theorem dL_countDefect_21 : decode cL_countDefect 21 = .ok (.iconst 0, 1) := by decide +kernel
theorem dL_countDefect_22 : decode cL_countDefect 22 = .ok (.ireturn, 1) := by decide +kernel
set_option maxRecDepth 20000 in
theorem ggL_countLucky_X6_countLucky : GoodIn wsL_countLucky wsX6_countLucky := goodIn_ca (goodIn_ca (goodIn_r _ [7, 8, 9, 6, 10, 11, 12, 13, 14, 15, 16, 17, 18, 19, 20, 21, 22, 23, 24, 25, 26, 27, 28, 29, 30, 31, 32, 33, 34, 35, 36, 37, 38, 39, 40, 41, 42, 43, 44, 45, 46, 47, 48, 49, 50, 51, 52, 53, 54, 55, 56, 57, 58, 59, 60, 61, 62, 63, 64, 65, 66, 67, 68, 69, 70, 71, 72, 73, 74, 75, 76, 77, 78, 79, 80, 81, 82, 83, 84, 85, 86, 87, 88, 89, 90, 91, 92, 93, 94, 95, 96, 97, 98, 99, 100, 101, 102, 103, 104, 105, 106, 107, 108, 109, 110, 111, 112, 113, 114, 115, 116, 117, 118, 119, 120, 121, 122, 123, 124, 125, 126, 127, 128, 129, 130, 131, 132, 133, 134, 135, 136, 137, 138, 139, 140, 141, 142, 143, 144, 145, 146, 147, 148, 149, 150, 151, 152, 153, 154, 155, 156, 157, 158, 159] (by decide +kernel) (by decide +kernel)) (goodIn_sub (fun _ h => List.mem_cons_of_mem _ (List.mem_append_left _ (List.mem_append_right _ h))) (by decide +kernel))) (goodIn_sub (fun _ h => List.mem_cons_of_mem _ (List.mem_append_right _ h)) (by decide +kernel))
set_option maxRecDepth 20000 in
theorem gL_countLucky_X6_countLucky : GoodIn wsL_countLucky (wsV RL 48 RX6 yX6_countLucky wsX6_countLucky) := goodIn_app (goodIn_of _ (by decide +kernel)) ggL_countLucky_X6_countLucky
theorem dL_countLucky_0 : decode cL_countLucky 0 = .ok (.aload_n 3, 1) := by decide +kernel
theorem dL_countLucky_1 : decode cL_countLucky 1 = .ok (.iconst 0, 1) := by decide +kernel
theorem dL_countLucky_2 : decode cL_countLucky 2 = .ok (.aload_n 0, 1) := by decide +kernel
theorem dL_countLucky_3 : decode cL_countLucky 3 = .ok (.iload_n 1, 1) := by decide +kernel
theorem dL_countLucky_4 : decode cL_countLucky 4 = .ok (.iload_n 2, 1) := by decide +kernel
theorem dL_countLucky_5 : decode cL_countLucky 5 = .ok (.invokevirtual 48, 3) := by decide +kernel
theorem dL_countLucky_8 : decode cL_countLucky 8 = .ok (.i2l, 1) := by decide +kernel
theorem dL_countLucky_9 : decode cL_countLucky 9 = .ok (.lastore, 1) := by decide +kernel
theorem dL_countLucky_10 : decode cL_countLucky 10 = .ok (.goto 11, 3) := by decide +kernel
theorem dL_countLucky_13 : decode cL_countLucky 13 = .ok (.astore 4, 2) := by decide +kernel
theorem dL_countLucky_15 : decode cL_countLucky 15 = .ok (.iconst 1, 1) := by decide +kernel
theorem dL_countLucky_16 : decode cL_countLucky 16 = .ok (.ireturn, 1) := by decide +kernel
theorem dL_countLucky_17 : decode cL_countLucky 17 = .ok (.astore 4, 2) := by decide +kernel
theorem dL_countLucky_19 : decode cL_countLucky 19 = .ok (.iconst 2, 1) := by decide +kernel
theorem dL_countLucky_20 : decode cL_countLucky 20 = .ok (.ireturn, 1) := by decide +kernel
theorem dL_countLucky_21 : decode cL_countLucky 21 = .ok (.iconst 0, 1) := by decide +kernel
theorem dL_countLucky_22 : decode cL_countLucky 22 = .ok (.ireturn, 1) := by decide +kernel
set_option maxRecDepth 20000 in
theorem ggL_countSum_X6_countSum : GoodIn wsL_countSum wsX6_countSum := goodIn_ca (goodIn_ca (goodIn_r _ [7, 8, 9, 6, 10, 11, 12, 13, 14, 15, 16, 17, 18, 19, 20, 21, 22, 23, 24, 25, 26, 27, 28, 29, 30, 31, 32, 33, 34, 35, 36, 37, 38, 39, 40, 41, 42, 43, 44, 45, 46, 47, 48, 49, 50, 51, 52, 53, 54, 55, 56, 57, 58, 59, 60, 61, 62, 63, 64, 65, 66, 67, 68, 69, 70, 71, 72, 73, 74, 75, 76, 77, 78, 79, 80, 81, 82, 83, 84, 85, 86, 87, 88, 89, 90, 91, 92, 93, 94, 95, 96, 97, 98, 99, 100, 101, 102, 103, 104, 105, 106, 107, 108, 109, 110, 111, 112, 113, 114, 115, 116, 117, 118, 119, 120, 121, 122, 123, 124, 125, 126, 127, 128, 129, 130, 131, 132, 133, 134, 135, 136, 137, 138, 139, 140, 141, 142, 143, 144, 145, 146, 147, 148, 149, 150, 151, 152, 153, 154, 155, 156, 157, 158, 159] (by decide +kernel) (by decide +kernel)) (goodIn_sub (fun _ h => List.mem_cons_of_mem _ (List.mem_append_left _ (List.mem_append_right _ h))) (by decide +kernel))) (goodIn_sub (fun _ h => List.mem_cons_of_mem _ (List.mem_append_right _ h)) (by decide +kernel))
set_option maxRecDepth 20000 in
theorem gL_countSum_X6_countSum : GoodIn wsL_countSum (wsV RL 51 RX6 yX6_countSum wsX6_countSum) := goodIn_app (goodIn_of _ (by decide +kernel)) ggL_countSum_X6_countSum
theorem dL_countSum_0 : decode cL_countSum 0 = .ok (.aload_n 3, 1) := by decide +kernel
theorem dL_countSum_1 : decode cL_countSum 1 = .ok (.iconst 0, 1) := by decide +kernel
theorem dL_countSum_2 : decode cL_countSum 2 = .ok (.aload_n 0, 1) := by decide +kernel
theorem dL_countSum_3 : decode cL_countSum 3 = .ok (.iload_n 1, 1) := by decide +kernel
theorem dL_countSum_4 : decode cL_countSum 4 = .ok (.iload_n 2, 1) := by decide +kernel
theorem dL_countSum_5 : decode cL_countSum 5 = .ok (.invokevirtual 51, 3) := by decide +kernel
theorem dL_countSum_8 : decode cL_countSum 8 = .ok (.i2l, 1) := by decide +kernel
theorem dL_countSum_9 : decode cL_countSum 9 = .ok (.lastore, 1) := by decide +kernel
theorem dL_countSum_10 : decode cL_countSum 10 = .ok (.goto 11, 3) := by decide +kernel
theorem dL_countSum_13 : decode cL_countSum 13 = .ok (.astore 4, 2) := by decide +kernel
theorem dL_countSum_15 : decode cL_countSum 15 = .ok (.iconst 1, 1) := by decide +kernel
theorem dL_countSum_16 : decode cL_countSum 16 = .ok (.ireturn, 1) := by decide +kernel
theorem dL_countSum_17 : decode cL_countSum 17 = .ok (.astore 4, 2) := by decide +kernel
theorem dL_countSum_19 : decode cL_countSum 19 = .ok (.iconst 2, 1) := by decide +kernel
theorem dL_countSum_20 : decode cL_countSum 20 = .ok (.ireturn, 1) := by decide +kernel
theorem dL_countSum_21 : decode cL_countSum 21 = .ok (.iconst 0, 1) := by decide +kernel
theorem dL_countSum_22 : decode cL_countSum 22 = .ok (.ireturn, 1) := by decide +kernel
set_option maxRecDepth 20000 in
theorem ggL_rank_X6_rank : GoodIn wsL_rank wsX6_rank := goodIn_ca (goodIn_r _ [6, 7, 8, 9, 10, 11, 12, 13, 5, 14, 15, 16, 17, 18, 19, 20, 21, 22, 23, 24, 25, 26, 27, 28, 29, 30, 31, 32, 33, 34, 35, 36, 37, 38, 39, 40, 41, 42, 43, 44, 45, 46, 47, 48, 49, 50, 51, 52, 53, 54, 55, 56, 57, 58, 59, 60, 61, 62, 63, 64, 65, 66, 67, 68, 69, 70, 71, 72, 73, 74, 75, 76, 77, 78, 79, 80, 81, 82, 83, 84, 85, 86, 87, 88, 89, 90, 91, 92, 93, 94, 95, 96, 97, 98, 99, 100, 101, 102, 103, 104, 105, 106, 107, 108, 109, 110, 111, 112, 113, 114, 115, 116, 117, 118, 119, 120, 121, 122, 123, 124, 125, 126, 127, 128, 129, 130, 131, 132, 133, 134, 135, 136, 137, 138, 139, 140, 141, 142, 143, 144, 145, 146, 147, 148, 149, 150, 151, 152] (by decide +kernel) (by decide +kernel)) (goodIn_sub (fun _ h => List.mem_cons_of_mem _ (List.mem_append_right _ h)) (by decide +kernel))
set_option maxRecDepth 20000 in
theorem gL_rank_X6_rank : GoodIn wsL_rank (wsV RL 54 RX6 yX6_rank wsX6_rank) := goodIn_app (goodIn_of _ (by decide +kernel)) ggL_rank_X6_rank
theorem dL_rank_0 : decode cL_rank 0 = .ok (.aload_n 1, 1) := by decide +kernel
theorem dL_rank_1 : decode cL_rank 1 = .ok (.iconst 0, 1) := by decide +kernel
theorem dL_rank_2 : decode cL_rank 2 = .ok (.aload_n 0, 1) := by decide +kernel
theorem dL_rank_3 : decode cL_rank 3 = .ok (.invokevirtual 54, 3) := by decide +kernel
theorem dL_rank_6 : decode cL_rank 6 = .ok (.i2l, 1) := by decide +kernel
theorem dL_rank_7 : decode cL_rank 7 = .ok (.lastore, 1) := by decide +kernel
theorem dL_rank_8 : decode cL_rank 8 = .ok (.goto 6, 3) := by decide +kernel
theorem dL_rank_11 : decode cL_rank 11 = .ok (.astore_n 2, 1) := by decide +kernel
theorem dL_rank_12 : decode cL_rank 12 = .ok (.iconst 1, 1) := by decide +kernel
theorem dL_rank_13 : decode cL_rank 13 = .ok (.ireturn, 1) := by decide +kernel
theorem dL_rank_14 : decode cL_rank 14 = .ok (.iconst 0, 1) := by decide +kernel
theorem dL_rank_15 : decode cL_rank 15 = .ok (.ireturn, 1) := by decide +kernel
set_option maxRecDepth 20000 in
theorem ggL_setRank_X6_setRank : GoodIn wsL_setRank wsX6_setRank := goodIn_ca (goodIn_ca (goodIn_r _ [7, 8, 9, 10, 11, 12, 13, 14, 15, 6, 16, 17, 18, 19, 20, 21, 22, 23, 24, 25, 26, 27, 28, 29, 30, 31, 32, 33, 34, 35, 36, 37, 38, 39, 40, 41, 42, 43, 44, 45, 46, 47, 48, 49, 50, 51, 52, 53, 54, 55, 56, 57, 58, 59, 60, 61, 62, 63, 64, 65, 66, 67, 68, 69, 70, 71, 72, 73, 74, 75, 76, 77, 78, 79, 80, 81, 82, 83, 84, 85, 86, 87, 88, 89, 90, 91, 92, 93, 94, 95, 96, 97, 98, 99, 100, 101, 102, 103, 104, 105, 106, 107, 108, 109, 110, 111, 112, 113, 114, 115, 116, 117, 118, 119, 120, 121, 122, 123, 124, 125, 126, 127, 128, 129, 130, 131, 132, 133, 134, 135, 136, 137, 138, 139, 140, 141, 142, 143, 144, 145, 146, 147, 148, 149, 150, 151, 152, 153, 154, 155, 156, 157, 158, 159, 160, 161, 162, 163, 164, 165, 166, 167, 168, 169, 170, 171, 172, 173, 174, 175, 176, 177, 178, 179, 180, 181, 182, 183, 184, 185, 186, 187, 188, 189, 190, 191, 192, 193, 194] (by decide +kernel) (by decide +kernel)) (goodIn_sub (fun _ h => List.mem_cons_of_mem _ (List.mem_append_left _ (List.mem_append_right _ h))) (by decide +kernel))) (goodIn_sub (fun _ h => List.mem_cons_of_mem _ (List.mem_append_right _ h)) (by decide +kernel))
set_option maxRecDepth 20000 in
theorem gL_setRank_X6_setRank : GoodIn wsL_setRank (wsV RL 57 RX6 yX6_setRank wsX6_setRank) := goodIn_app (goodIn_of _ (by decide +kernel)) ggL_setRank_X6_setRank
theorem dL_setRank_0 : decode cL_setRank 0 = .ok (.aload_n 3, 1) := by decide +kernel
theorem dL_setRank_1 : decode cL_setRank 1 = .ok (.iconst 0, 1) := by decide +kernel
theorem dL_setRank_2 : decode cL_setRank 2 = .ok (.aload_n 0, 1) := by decide +kernel
theorem dL_setRank_3 : decode cL_setRank 3 = .ok (.iload_n 1, 1) := by decide +kernel
theorem dL_setRank_4 : decode cL_setRank 4 = .ok (.iload_n 2, 1) := by decide +kernel
theorem dL_setRank_5 : decode cL_setRank 5 = .ok (.invokevirtual 57, 3) := by decide +kernel
theorem dL_setRank_8 : decode cL_setRank 8 = .ok (.i2l, 1) := by decide +kernel
theorem dL_setRank_9 : decode cL_setRank 9 = .ok (.lastore, 1) := by decide +kernel
theorem dL_setRank_10 : decode cL_setRank 10 = .ok (.goto 11, 3) := by decide +kernel
theorem dL_setRank_13 : decode cL_setRank 13 = .ok (.astore 4, 2) := by decide +kernel
theorem dL_setRank_15 : decode cL_setRank 15 = .ok (.iconst 1, 1) := by decide +kernel
theorem dL_setRank_16 : decode cL_setRank 16 = .ok (.ireturn, 1) := by decide +kernel
theorem dL_setRank_17 : decode cL_setRank 17 = .ok (.astore 4, 2) := by decide +kernel
theorem dL_setRank_19 : decode cL_setRank 19 = .ok (.iconst 2, 1) := by decide +kernel
theorem dL_setRank_20 : decode cL_setRank 20 = .ok (.ireturn, 1) := by decide +kernel
theorem dL_setRank_21 : decode cL_setRank 21 = .ok (.iconst 0, 1) := by decide +kernel
theorem dL_setRank_22 : decode cL_setRank 22 = .ok (.ireturn, 1) := by decide +kernel
set_option maxRecDepth 20000 in
theorem ggL_gap_X6_gap : GoodIn wsL_gap wsX6_gap := goodIn_ca (goodIn_r _ [6, 7, 8, 9, 10, 11, 5, 12, 13, 14, 15, 16, 17, 18, 19, 20, 21, 22, 23, 24, 25, 26, 27, 28, 29, 30, 31, 32, 33, 34, 35, 36, 37, 38] (by decide +kernel) (by decide +kernel)) (goodIn_sub (fun _ h => List.mem_cons_of_mem _ (List.mem_append_right _ h)) (by decide +kernel))
set_option maxRecDepth 20000 in
theorem gL_gap_X6_gap : GoodIn wsL_gap (wsV RL 60 RX6 yX6_gap wsX6_gap) := goodIn_app (goodIn_of _ (by decide +kernel)) ggL_gap_X6_gap
theorem dL_gap_0 : decode cL_gap 0 = .ok (.aload_n 1, 1) := by decide +kernel
theorem dL_gap_1 : decode cL_gap 1 = .ok (.iconst 0, 1) := by decide +kernel
theorem dL_gap_2 : decode cL_gap 2 = .ok (.aload_n 0, 1) := by decide +kernel
theorem dL_gap_3 : decode cL_gap 3 = .ok (.invokevirtual 60, 3) := by decide +kernel
theorem dL_gap_6 : decode cL_gap 6 = .ok (.i2l, 1) := by decide +kernel
theorem dL_gap_7 : decode cL_gap 7 = .ok (.lastore, 1) := by decide +kernel
theorem dL_gap_8 : decode cL_gap 8 = .ok (.goto 6, 3) := by decide +kernel
theorem dL_gap_11 : decode cL_gap 11 = .ok (.astore_n 2, 1) := by decide +kernel
theorem dL_gap_12 : decode cL_gap 12 = .ok (.iconst 1, 1) := by decide +kernel
theorem dL_gap_13 : decode cL_gap 13 = .ok (.ireturn, 1) := by decide +kernel
theorem dL_gap_14 : decode cL_gap 14 = .ok (.iconst 0, 1) := by decide +kernel
theorem dL_gap_15 : decode cL_gap 15 = .ok (.ireturn, 1) := by decide +kernel
set_option maxRecDepth 20000 in
theorem ggL_shift_X6_shift : GoodIn wsL_shift wsX6_shift := goodIn_ca (goodIn_r _ [6, 7, 8, 9, 10, 11, 12, 13, 5, 14, 15, 16, 17, 18, 19, 20, 21, 22, 23, 24, 25, 26, 27, 28, 29, 30, 31, 32, 33, 34, 35, 36, 37, 38, 39, 40, 41, 42, 43, 44, 45, 46, 47, 48, 49, 50, 51, 52, 53, 54, 55, 56, 57, 58, 59, 60, 61, 62, 63, 64, 65, 66, 67, 68, 69, 70] (by decide +kernel) (by decide +kernel)) (goodIn_sub (fun _ h => List.mem_cons_of_mem _ (List.mem_append_right _ h)) (by decide +kernel))
set_option maxRecDepth 20000 in
theorem gL_shift_X6_shift : GoodIn wsL_shift (wsV RL 63 RX6 yX6_shift wsX6_shift) := goodIn_app (goodIn_of _ (by decide +kernel)) ggL_shift_X6_shift
theorem dL_shift_0 : decode cL_shift 0 = .ok (.aload_n 1, 1) := by decide +kernel
theorem dL_shift_1 : decode cL_shift 1 = .ok (.iconst 0, 1) := by decide +kernel
theorem dL_shift_2 : decode cL_shift 2 = .ok (.aload_n 0, 1) := by decide +kernel
theorem dL_shift_3 : decode cL_shift 3 = .ok (.invokevirtual 63, 3) := by decide +kernel
theorem dL_shift_6 : decode cL_shift 6 = .ok (.i2l, 1) := by decide +kernel
theorem dL_shift_7 : decode cL_shift 7 = .ok (.lastore, 1) := by decide +kernel
theorem dL_shift_8 : decode cL_shift 8 = .ok (.goto 6, 3) := by decide +kernel
theorem dL_shift_11 : decode cL_shift 11 = .ok (.astore_n 2, 1) := by decide +kernel
theorem dL_shift_12 : decode cL_shift 12 = .ok (.iconst 1, 1) := by decide +kernel
theorem dL_shift_13 : decode cL_shift 13 = .ok (.ireturn, 1) := by decide +kernel
theorem dL_shift_14 : decode cL_shift 14 = .ok (.iconst 0, 1) := by decide +kernel
theorem dL_shift_15 : decode cL_shift 15 = .ok (.ireturn, 1) := by decide +kernel
set_option maxRecDepth 20000 in
theorem ggL_label_X6_label : GoodIn wsL_label wsX6_label := goodIn_ca (goodIn_ca (goodIn_r _ [7, 8, 9, 10, 11, 12, 6, 13, 14, 15, 16, 17, 18, 19, 20, 21, 22, 23, 24, 25, 26, 27, 28, 29, 30, 31, 32, 33, 34, 35, 36, 37, 38, 39, 40, 41, 42, 43, 44, 45, 46, 47, 48, 49, 50, 51, 52, 53, 54, 55, 56, 57, 58, 59, 60, 61, 62, 63, 64] (by decide +kernel) (by decide +kernel)) (goodIn_sub (fun _ h => List.mem_cons_of_mem _ (List.mem_append_left _ (List.mem_append_right _ h))) (by decide +kernel))) (goodIn_sub (fun _ h => List.mem_cons_of_mem _ (List.mem_append_right _ h)) (by decide +kernel))
set_option maxRecDepth 20000 in
theorem gL_label_X6_label : GoodIn wsL_label (wsV RL 66 RX6 yX6_label wsX6_label) := goodIn_app (goodIn_of _ (by decide +kernel)) ggL_label_X6_label
theorem dL_label_0 : decode cL_label 0 = .ok (.aload_n 2, 1) := by decide +kernel
theorem dL_label_1 : decode cL_label 1 = .ok (.iconst 0, 1) := by decide +kernel
theorem dL_label_2 : decode cL_label 2 = .ok (.aload_n 0, 1) := by decide +kernel
theorem dL_label_3 : decode cL_label 3 = .ok (.iload_n 1, 1) := by decide +kernel
theorem dL_label_4 : decode cL_label 4 = .ok (.invokevirtual 66, 3) := by decide +kernel
theorem dL_label_7 : decode cL_label 7 = .ok (.i2l, 1) := by decide +kernel
theorem dL_label_8 : decode cL_label 8 = .ok (.lastore, 1) := by decide +kernel
theorem dL_label_9 : decode cL_label 9 = .ok (.goto 9, 3) := by decide +kernel
theorem dL_label_12 : decode cL_label 12 = .ok (.astore_n 3, 1) := by decide +kernel
theorem dL_label_13 : decode cL_label 13 = .ok (.iconst 1, 1) := by decide +kernel
theorem dL_label_14 : decode cL_label 14 = .ok (.ireturn, 1) := by decide +kernel
theorem dL_label_15 : decode cL_label 15 = .ok (.astore_n 3, 1) := by decide +kernel
theorem dL_label_16 : decode cL_label 16 = .ok (.iconst 2, 1) := by decide +kernel
theorem dL_label_17 : decode cL_label 17 = .ok (.ireturn, 1) := by decide +kernel
theorem dL_label_18 : decode cL_label 18 = .ok (.iconst 0, 1) := by decide +kernel
theorem dL_label_19 : decode cL_label 19 = .ok (.ireturn, 1) := by decide +kernel
set_option maxRecDepth 20000 in
theorem ggL_areaOf_X6_areaOf : GoodIn wsL_areaOf wsX6_areaOf := goodIn_ca (goodIn_ca (goodIn_r _ [7, 8, 9, 10, 11, 12, 6, 13, 14, 15, 16, 17, 18, 19, 20, 21, 22, 23, 24, 25, 26, 27, 28, 29, 30, 31, 32, 33, 34, 35, 36, 37, 38, 39, 40, 41, 42, 43, 44, 45, 46, 47, 48, 49, 50, 51, 52, 53, 54, 55, 56, 57, 58, 59, 60, 61, 62, 63, 64] (by decide +kernel) (by decide +kernel)) (goodIn_sub (fun _ h => List.mem_cons_of_mem _ (List.mem_append_left _ (List.mem_append_right _ h))) (by decide +kernel))) (goodIn_sub (fun _ h => List.mem_cons_of_mem _ (List.mem_append_right _ h)) (by decide +kernel))
set_option maxRecDepth 20000 in
theorem gL_areaOf_X6_areaOf : GoodIn wsL_areaOf (wsV RL 69 RX6 yX6_areaOf wsX6_areaOf) := goodIn_app (goodIn_of _ (by decide +kernel)) ggL_areaOf_X6_areaOf
theorem dL_areaOf_0 : decode cL_areaOf 0 = .ok (.aload_n 2, 1) := by decide +kernel
theorem dL_areaOf_1 : decode cL_areaOf 1 = .ok (.iconst 0, 1) := by decide +kernel
theorem dL_areaOf_2 : decode cL_areaOf 2 = .ok (.aload_n 0, 1) := by decide +kernel
theorem dL_areaOf_3 : decode cL_areaOf 3 = .ok (.iload_n 1, 1) := by decide +kernel
theorem dL_areaOf_4 : decode cL_areaOf 4 = .ok (.invokevirtual 69, 3) := by decide +kernel
theorem dL_areaOf_7 : decode cL_areaOf 7 = .ok (.i2l, 1) := by decide +kernel
theorem dL_areaOf_8 : decode cL_areaOf 8 = .ok (.lastore, 1) := by decide +kernel
theorem dL_areaOf_9 : decode cL_areaOf 9 = .ok (.goto 9, 3) := by decide +kernel
theorem dL_areaOf_12 : decode cL_areaOf 12 = .ok (.astore_n 3, 1) := by decide +kernel
theorem dL_areaOf_13 : decode cL_areaOf 13 = .ok (.iconst 1, 1) := by decide +kernel
theorem dL_areaOf_14 : decode cL_areaOf 14 = .ok (.ireturn, 1) := by decide +kernel
theorem dL_areaOf_15 : decode cL_areaOf 15 = .ok (.astore_n 3, 1) := by decide +kernel
theorem dL_areaOf_16 : decode cL_areaOf 16 = .ok (.iconst 2, 1) := by decide +kernel
theorem dL_areaOf_17 : decode cL_areaOf 17 = .ok (.ireturn, 1) := by decide +kernel
theorem dL_areaOf_18 : decode cL_areaOf 18 = .ok (.iconst 0, 1) := by decide +kernel
theorem dL_areaOf_19 : decode cL_areaOf 19 = .ok (.ireturn, 1) := by decide +kernel
set_option maxRecDepth 20000 in
theorem ggL_area_X6_area : GoodIn wsL_area wsX6_area := goodIn_ca (goodIn_r _ [6, 7, 8, 9, 10, 5, 11, 12, 13, 14, 15, 16, 17, 18, 19, 20, 21, 22, 23, 24, 25, 26, 27, 28, 29, 30, 31, 32, 33, 34, 35, 36, 37, 38, 39, 40, 41, 42, 43, 44, 45, 46, 47, 48, 49, 50, 51, 52, 53, 54, 55, 56, 57, 58, 59, 60, 61] (by decide +kernel) (by decide +kernel)) (goodIn_sub (fun _ h => List.mem_cons_of_mem _ (List.mem_append_right _ h)) (by decide +kernel))
set_option maxRecDepth 20000 in
theorem gL_area_X6_area : GoodIn wsL_area (wsV RL 72 RX6 yX6_area wsX6_area) := goodIn_app (goodIn_of _ (by decide +kernel)) ggL_area_X6_area
theorem dL_area_0 : decode cL_area 0 = .ok (.aload_n 1, 1) := by decide +kernel
theorem dL_area_1 : decode cL_area 1 = .ok (.iconst 0, 1) := by decide +kernel
theorem dL_area_2 : decode cL_area 2 = .ok (.aload_n 0, 1) := by decide +kernel
theorem dL_area_3 : decode cL_area 3 = .ok (.invokevirtual 72, 3) := by decide +kernel
theorem dL_area_6 : decode cL_area 6 = .ok (.i2l, 1) := by decide +kernel
theorem dL_area_7 : decode cL_area 7 = .ok (.lastore, 1) := by decide +kernel
theorem dL_area_8 : decode cL_area 8 = .ok (.goto 6, 3) := by decide +kernel
theorem dL_area_11 : decode cL_area 11 = .ok (.astore_n 2, 1) := by decide +kernel
theorem dL_area_12 : decode cL_area 12 = .ok (.iconst 1, 1) := by decide +kernel
theorem dL_area_13 : decode cL_area 13 = .ok (.ireturn, 1) := by decide +kernel
theorem dL_area_14 : decode cL_area 14 = .ok (.iconst 0, 1) := by decide +kernel
theorem dL_area_15 : decode cL_area 15 = .ok (.ireturn, 1) := by decide +kernel
set_option maxRecDepth 20000 in
theorem ggL_inversions_X6_inversions : GoodIn wsL_inversions wsX6_inversions := goodIn_ca (goodIn_r _ [6, 7, 8, 9, 10, 5, 11, 12, 13, 14, 15, 16, 17, 18, 19, 20, 21, 22, 23, 24, 25, 26, 27, 28, 29, 30, 31, 32, 33, 34, 35, 36, 37, 38, 39, 40, 41, 42, 43, 44, 45, 46, 47, 48, 49, 50, 51, 52, 53, 54, 55, 56, 57, 58, 59, 60, 61, 62, 63, 64, 65] (by decide +kernel) (by decide +kernel)) (goodIn_sub (fun _ h => List.mem_cons_of_mem _ (List.mem_append_right _ h)) (by decide +kernel))
set_option maxRecDepth 20000 in
theorem gL_inversions_X6_inversions : GoodIn wsL_inversions (wsV RL 75 RX6 yX6_inversions wsX6_inversions) := goodIn_app (goodIn_of _ (by decide +kernel)) ggL_inversions_X6_inversions
theorem dL_inversions_0 : decode cL_inversions 0 = .ok (.aload_n 1, 1) := by decide +kernel
theorem dL_inversions_1 : decode cL_inversions 1 = .ok (.iconst 0, 1) := by decide +kernel
theorem dL_inversions_2 : decode cL_inversions 2 = .ok (.aload_n 0, 1) := by decide +kernel
theorem dL_inversions_3 : decode cL_inversions 3 = .ok (.invokevirtual 75, 3) := by decide +kernel
theorem dL_inversions_6 : decode cL_inversions 6 = .ok (.i2l, 1) := by decide +kernel
theorem dL_inversions_7 : decode cL_inversions 7 = .ok (.lastore, 1) := by decide +kernel
theorem dL_inversions_8 : decode cL_inversions 8 = .ok (.goto 6, 3) := by decide +kernel
theorem dL_inversions_11 : decode cL_inversions 11 = .ok (.astore_n 2, 1) := by decide +kernel
theorem dL_inversions_12 : decode cL_inversions 12 = .ok (.iconst 1, 1) := by decide +kernel
theorem dL_inversions_13 : decode cL_inversions 13 = .ok (.ireturn, 1) := by decide +kernel
theorem dL_inversions_14 : decode cL_inversions 14 = .ok (.iconst 0, 1) := by decide +kernel
theorem dL_inversions_15 : decode cL_inversions 15 = .ok (.ireturn, 1) := by decide +kernel
set_option maxRecDepth 20000 in
theorem ggL_word_X6_word : GoodIn wsL_word wsX6_word := goodIn_ca (goodIn_ca (goodIn_r _ [7, 8, 9, 10, 11, 6, 12, 13, 14, 15, 16, 17, 18, 19, 20, 21, 22, 23, 24, 25, 26, 27, 28, 29, 30, 31, 32, 33, 34, 35, 36, 37, 38, 39, 40, 41, 42, 43, 44, 45, 46, 47, 48, 49, 50, 51, 52, 53, 54, 55, 56, 57, 58, 59, 60, 61, 62, 63, 64, 65, 66, 67] (by decide +kernel) (by decide +kernel)) (goodIn_sub (fun _ h => List.mem_cons_of_mem _ (List.mem_append_left _ (List.mem_append_right _ h))) (by decide +kernel))) (goodIn_sub (fun _ h => List.mem_cons_of_mem _ (List.mem_append_right _ h)) (by decide +kernel))
set_option maxRecDepth 20000 in
theorem gL_word_X6_word : GoodIn wsL_word (wsV RL 78 RX6 yX6_word wsX6_word) := goodIn_app (goodIn_of _ (by decide +kernel)) ggL_word_X6_word
theorem dL_word_0 : decode cL_word 0 = .ok (.aload_n 2, 1) := by decide +kernel
theorem dL_word_1 : decode cL_word 1 = .ok (.iconst 0, 1) := by decide +kernel
theorem dL_word_2 : decode cL_word 2 = .ok (.aload_n 0, 1) := by decide +kernel
theorem dL_word_3 : decode cL_word 3 = .ok (.iload_n 1, 1) := by decide +kernel
theorem dL_word_4 : decode cL_word 4 = .ok (.invokevirtual 78, 3) := by decide +kernel
theorem dL_word_7 : decode cL_word 7 = .ok (.i2l, 1) := by decide +kernel
theorem dL_word_8 : decode cL_word 8 = .ok (.lastore, 1) := by decide +kernel
theorem dL_word_9 : decode cL_word 9 = .ok (.goto 9, 3) := by decide +kernel
theorem dL_word_12 : decode cL_word 12 = .ok (.astore_n 3, 1) := by decide +kernel
theorem dL_word_13 : decode cL_word 13 = .ok (.iconst 1, 1) := by decide +kernel
theorem dL_word_14 : decode cL_word 14 = .ok (.ireturn, 1) := by decide +kernel
theorem dL_word_15 : decode cL_word 15 = .ok (.astore_n 3, 1) := by decide +kernel
theorem dL_word_16 : decode cL_word 16 = .ok (.iconst 2, 1) := by decide +kernel
theorem dL_word_17 : decode cL_word 17 = .ok (.ireturn, 1) := by decide +kernel
theorem dL_word_18 : decode cL_word 18 = .ok (.iconst 0, 1) := by decide +kernel
theorem dL_word_19 : decode cL_word 19 = .ok (.ireturn, 1) := by decide +kernel
set_option maxRecDepth 20000 in
theorem ggL_pathChar_X6_pathChar : GoodIn wsL_pathChar wsX6_pathChar := goodIn_ca (goodIn_ca (goodIn_r _ [7, 8, 9, 10, 11, 6, 12, 13, 14, 15, 16, 17, 18, 19, 20, 21, 22, 23, 24, 25, 26, 27, 28, 29, 30, 31, 32, 33, 34, 35, 36, 37, 38, 39, 40, 41, 42, 43, 44, 45, 46, 47, 48, 49, 50, 51, 52, 53, 54, 55, 56, 57, 58, 59, 60, 61, 62, 63, 64, 65, 66, 67] (by decide +kernel) (by decide +kernel)) (goodIn_sub (fun _ h => List.mem_cons_of_mem _ (List.mem_append_left _ (List.mem_append_right _ h))) (by decide +kernel))) (goodIn_sub (fun _ h => List.mem_cons_of_mem _ (List.mem_append_right _ h)) (by decide +kernel))
set_option maxRecDepth 20000 in
theorem gL_pathChar_X6_pathChar : GoodIn wsL_pathChar (wsV RL 81 RX6 yX6_pathChar wsX6_pathChar) := goodIn_app (goodIn_of _ (by decide +kernel)) ggL_pathChar_X6_pathChar
theorem dL_pathChar_0 : decode cL_pathChar 0 = .ok (.aload_n 2, 1) := by decide +kernel
theorem dL_pathChar_1 : decode cL_pathChar 1 = .ok (.iconst 0, 1) := by decide +kernel
theorem dL_pathChar_2 : decode cL_pathChar 2 = .ok (.aload_n 0, 1) := by decide +kernel
theorem dL_pathChar_3 : decode cL_pathChar 3 = .ok (.iload_n 1, 1) := by decide +kernel
theorem dL_pathChar_4 : decode cL_pathChar 4 = .ok (.invokevirtual 81, 3) := by decide +kernel
theorem dL_pathChar_7 : decode cL_pathChar 7 = .ok (.i2l, 1) := by decide +kernel
theorem dL_pathChar_8 : decode cL_pathChar 8 = .ok (.lastore, 1) := by decide +kernel
theorem dL_pathChar_9 : decode cL_pathChar 9 = .ok (.goto 9, 3) := by decide +kernel
theorem dL_pathChar_12 : decode cL_pathChar 12 = .ok (.astore_n 3, 1) := by decide +kernel
theorem dL_pathChar_13 : decode cL_pathChar 13 = .ok (.iconst 1, 1) := by decide +kernel
theorem dL_pathChar_14 : decode cL_pathChar 14 = .ok (.ireturn, 1) := by decide +kernel
theorem dL_pathChar_15 : decode cL_pathChar 15 = .ok (.astore_n 3, 1) := by decide +kernel
theorem dL_pathChar_16 : decode cL_pathChar 16 = .ok (.iconst 2, 1) := by decide +kernel
theorem dL_pathChar_17 : decode cL_pathChar 17 = .ok (.ireturn, 1) := by decide +kernel
theorem dL_pathChar_18 : decode cL_pathChar 18 = .ok (.iconst 0, 1) := by decide +kernel
theorem dL_pathChar_19 : decode cL_pathChar 19 = .ok (.ireturn, 1) := by decide +kernel
set_option maxRecDepth 20000 in
theorem ggL_type_X6_type : GoodIn wsL_type wsX6_type := goodIn_ca (goodIn_ca (goodIn_r _ [7, 8, 9, 10, 11, 6, 12, 13, 14, 15, 16, 17, 18, 19, 20, 21, 22, 23, 24, 25, 26, 27, 28, 29] (by decide +kernel) (by decide +kernel)) (goodIn_sub (fun _ h => List.mem_cons_of_mem _ (List.mem_append_left _ (List.mem_append_right _ h))) (by decide +kernel))) (goodIn_sub (fun _ h => List.mem_cons_of_mem _ (List.mem_append_right _ h)) (by decide +kernel))
set_option maxRecDepth 20000 in
theorem gL_type_X6_type : GoodIn wsL_type (wsV RL 84 RX6 yX6_type wsX6_type) := goodIn_app (goodIn_of _ (by decide +kernel)) ggL_type_X6_type
theorem dL_type_0 : decode cL_type 0 = .ok (.aload_n 2, 1) := by decide +kernel
theorem dL_type_1 : decode cL_type 1 = .ok (.iconst 0, 1) := by decide +kernel
theorem dL_type_2 : decode cL_type 2 = .ok (.aload_n 0, 1) := by decide +kernel
theorem dL_type_3 : decode cL_type 3 = .ok (.iload_n 1, 1) := by decide +kernel
theorem dL_type_4 : decode cL_type 4 = .ok (.invokevirtual 84, 3) := by decide +kernel
theorem dL_type_7 : decode cL_type 7 = .ok (.i2l, 1) := by decide +kernel
theorem dL_type_8 : decode cL_type 8 = .ok (.lastore, 1) := by decide +kernel
theorem dL_type_9 : decode cL_type 9 = .ok (.goto 9, 3) := by decide +kernel
theorem dL_type_12 : decode cL_type 12 = .ok (.astore_n 3, 1) := by decide +kernel
theorem dL_type_13 : decode cL_type 13 = .ok (.iconst 1, 1) := by decide +kernel
theorem dL_type_14 : decode cL_type 14 = .ok (.ireturn, 1) := by decide +kernel
theorem dL_type_15 : decode cL_type 15 = .ok (.astore_n 3, 1) := by decide +kernel
theorem dL_type_16 : decode cL_type 16 = .ok (.iconst 2, 1) := by decide +kernel
theorem dL_type_17 : decode cL_type 17 = .ok (.ireturn, 1) := by decide +kernel
theorem dL_type_18 : decode cL_type 18 = .ok (.iconst 0, 1) := by decide +kernel
theorem dL_type_19 : decode cL_type 19 = .ok (.ireturn, 1) := by decide +kernel
set_option maxRecDepth 20000 in
theorem ggL_undo_X6_undo : GoodIn wsL_undo wsX6_undo := goodIn_ca (goodIn_r _ [6, 7, 8, 9, 10, 11, 5, 12, 13, 14, 15, 16, 17, 18, 19, 20, 21, 22, 23, 24, 25, 26, 27, 28, 29, 30, 31, 32, 33, 34, 35, 36, 37, 38, 39, 40, 41, 42, 43, 44, 45, 46, 47, 48, 49, 50, 51, 52] (by decide +kernel) (by decide +kernel)) (goodIn_sub (fun _ h => List.mem_cons_of_mem _ (List.mem_append_right _ h)) (by decide +kernel))
set_option maxRecDepth 20000 in
theorem gL_undo_X6_undo : GoodIn wsL_undo (wsV RL 87 RX6 yX6_undo wsX6_undo) := goodIn_app (goodIn_of _ (by decide +kernel)) ggL_undo_X6_undo
theorem dL_undo_0 : decode cL_undo 0 = .ok (.aload_n 1, 1) := by decide +kernel
theorem dL_undo_1 : decode cL_undo 1 = .ok (.iconst 0, 1) := by decide +kernel
theorem dL_undo_2 : decode cL_undo 2 = .ok (.aload_n 0, 1) := by decide +kernel
theorem dL_undo_3 : decode cL_undo 3 = .ok (.invokevirtual 87, 3) := by decide +kernel
theorem dL_undo_6 : decode cL_undo 6 = .ok (.i2l, 1) := by decide +kernel
theorem dL_undo_7 : decode cL_undo 7 = .ok (.lastore, 1) := by decide +kernel
theorem dL_undo_8 : decode cL_undo 8 = .ok (.goto 6, 3) := by decide +kernel
theorem dL_undo_11 : decode cL_undo 11 = .ok (.astore_n 2, 1) := by decide +kernel
theorem dL_undo_12 : decode cL_undo 12 = .ok (.iconst 1, 1) := by decide +kernel
theorem dL_undo_13 : decode cL_undo 13 = .ok (.ireturn, 1) := by decide +kernel
theorem dL_undo_14 : decode cL_undo 14 = .ok (.iconst 0, 1) := by decide +kernel
theorem dL_undo_15 : decode cL_undo 15 = .ok (.ireturn, 1) := by decide +kernel
