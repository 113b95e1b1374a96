theorem dL_cell_0 : decode cL_cell 0 = .ok (.iload_n 1, 1) := by decide +kernel
theorem dL_cell_1 : decode cL_cell 1 = .ok (.aload_n 0, 1) := by decide +kernel
theorem dL_cell_2 : decode cL_cell 2 = .ok (.arraylength, 1) := by decide +kernel
theorem dL_cell_3 : decode cL_cell 3 = .ok (.if_icmp .ge 9, 3) := by decide +kernel
theorem dL_cell_6 : decode cL_cell 6 = .ok (.aload_n 0, 1) := by decide +kernel
theorem dL_cell_7 : decode cL_cell 7 = .ok (.iload_n 1, 1) := by decide +kernel
theorem dL_cell_8 : decode cL_cell 8 = .ok (.iaload, 1) := by decide +kernel
theorem dL_cell_9 : decode cL_cell 9 = .ok (.goto 9, 3) := by decide +kernel
theorem dL_cell_12 : decode cL_cell 12 = .ok (.ldc 7, 2) := by decide +kernel
theorem dL_cell_14 : decode cL_cell 14 = .ok (.iload_n 1, 1) := by decide +kernel
theorem dL_cell_15 : decode cL_cell 15 = .ok (.iconst 3, 1) := by decide +kernel
theorem dL_cell_16 : decode cL_cell 16 = .ok (.iadd, 1) := by decide +kernel
theorem dL_cell_17 : decode cL_cell 17 = .ok (.imul, 1) := by decide +kernel
theorem dL_cell_18 : decode cL_cell 18 = .ok (.ireturn, 1) := by decide +kernel
theorem dL_up_0 : decode cL_up 0 = .ok (.iload_n 0, 1) := by decide +kernel
theorem dL_up_1 : decode cL_up 1 = .ok (.ldc 8, 2) := by decide +kernel
theorem dL_up_3 : decode cL_up 3 = .ok (.iand, 1) := by decide +kernel
theorem dL_up_4 : decode cL_up 4 = .ok (.iload_n 1, 1) := by decide +kernel
theorem dL_up_5 : decode cL_up 5 = .ok (.irem, 1) := by decide +kernel
theorem dL_up_6 : decode cL_up 6 = .ok (.ireturn, 1) := by decide +kernel
set_option maxRecDepth 20000 in
theorem ggL_added_X6_addCar : GoodIn wsL_added wsX6_addCar := goodIn_ca (goodIn_ca (goodIn_r _ [7, 8, 9, 10, 11, 12, 13, 14, 6, 15, 16, 17, 18, 19, 20, 21, 22, 23, 24, 25, 26, 27, 28, 29, 30, 31, 32, 33, 34, 35, 36, 37, 38, 39, 40, 41, 42, 43, 44, 45, 46, 47, 48, 49, 50, 51, 52, 53, 54, 55, 56, 57, 58, 59, 60, 61, 62, 63, 64, 65, 66, 67] (by decide +kernel) (by decide +kernel)) (goodIn_sub (fun _ h => List.mem_cons_of_mem _ (List.mem_append_left _ (List.mem_append_right _ h))) (by decide +kernel))) (goodIn_sub (fun _ h => List.mem_cons_of_mem _ (List.mem_append_right _ h)) (by decide +kernel))
set_option maxRecDepth 20000 in
theorem gL_added_X6_addCar : GoodIn wsL_added (wsV RL 9 RX6 yX6_addCar wsX6_addCar) := goodIn_app (goodIn_of _ (by decide +kernel)) ggL_added_X6_addCar
theorem dL_added_0 : decode cL_added 0 = .ok (.aload_n 0, 1) := by decide +kernel
theorem dL_added_1 : decode cL_added 1 = .ok (.iload_n 1, 1) := by decide +kernel
theorem dL_added_2 : decode cL_added 2 = .ok (.invokevirtual 9, 3) := by decide +kernel
theorem dL_added_5 : decode cL_added 5 = .ok (.ireturn, 1) := by decide +kernel
theorem dL_added_6 : decode cL_added 6 = .ok (.astore_n 2, 1) := by decide +kernel
theorem dL_added_7 : decode cL_added 7 = .ok (.iconst (-1), 1) := by decide +kernel
theorem dL_added_8 : decode cL_added 8 = .ok (.ireturn, 1) := by decide +kernel
theorem dL_added_9 : decode cL_added 9 = .ok (.astore_n 2, 1) := by decide +kernel
theorem dL_added_10 : decode cL_added 10 = .ok (.bipush (-2), 2) := by decide +kernel
theorem dL_added_12 : decode cL_added 12 = .ok (.ireturn, 1) := by decide +kernel
set_option maxRecDepth 20000 in
theorem ggL_ranked_X6_setRank : GoodIn wsL_ranked wsX6_setRank := goodIn_ca (goodIn_ca (goodIn_r _ [7, 8, 9, 10, 11, 12, 13, 14, 15, 6, 16, 17, 18, 19, 20, 21, 22, 23, 24, 25, 26, 27, 28, 29, 30, 31, 32, 33, 34, 35, 36, 37, 38, 39, 40, 41, 42, 43, 44, 45, 46, 47, 48, 49, 50, 51, 52, 53, 54, 55, 56, 57, 58, 59, 60, 61, 62, 63, 64, 65, 66, 67, 68, 69, 70, 71, 72, 73, 74, 75, 76, 77, 78, 79, 80, 81, 82, 83, 84, 85, 86, 87, 88, 89, 90, 91, 92, 93, 94, 95, 96, 97, 98, 99, 100, 101, 102, 103, 104, 105, 106, 107, 108, 109, 110, 111, 112, 113, 114, 115, 116, 117, 118, 119, 120, 121, 122, 123, 124, 125, 126, 127, 128, 129, 130, 131, 132, 133, 134, 135, 136, 137, 138, 139, 140, 141, 142, 143, 144, 145, 146, 147, 148, 149, 150, 151, 152, 153, 154, 155, 156, 157, 158, 159, 160, 161, 162, 163, 164, 165, 166, 167, 168, 169, 170, 171, 172, 173, 174, 175, 176, 177, 178, 179, 180, 181, 182, 183, 184, 185, 186, 187, 188, 189, 190, 191, 192, 193, 194] (by decide +kernel) (by decide +kernel)) (goodIn_sub (fun _ h => List.mem_cons_of_mem _ (List.mem_append_left _ (List.mem_append_right _ h))) (by decide +kernel))) (goodIn_sub (fun _ h => List.mem_cons_of_mem _ (List.mem_append_right _ h)) (by decide +kernel))
set_option maxRecDepth 20000 in
theorem gL_ranked_X6_setRank : GoodIn wsL_ranked (wsV RL 19 RX6 yX6_setRank wsX6_setRank) := goodIn_app (goodIn_of _ (by decide +kernel)) ggL_ranked_X6_setRank
theorem dL_ranked_0 : decode cL_ranked 0 = .ok (.aload_n 0, 1) := by decide +kernel
theorem dL_ranked_1 : decode cL_ranked 1 = .ok (.iload_n 1, 1) := by decide +kernel
theorem dL_ranked_2 : decode cL_ranked 2 = .ok (.iload_n 2, 1) := by decide +kernel
theorem dL_ranked_3 : decode cL_ranked 3 = .ok (.invokevirtual 19, 3) := by decide +kernel
theorem dL_ranked_6 : decode cL_ranked 6 = .ok (.ireturn, 1) := by decide +kernel
theorem dL_ranked_7 : decode cL_ranked 7 = .ok (.astore_n 3, 1) := by decide +kernel
theorem dL_ranked_8 : decode cL_ranked 8 = .ok (.iconst (-1), 1) := by decide +kernel
theorem dL_ranked_9 : decode cL_ranked 9 = .ok (.ireturn, 1) := by decide +kernel
theorem dL_ranked_10 : decode cL_ranked 10 = .ok (.astore_n 3, 1) := by decide +kernel
theorem dL_ranked_11 : decode cL_ranked 11 = .ok (.bipush (-2), 2) := by decide +kernel
theorem dL_ranked_13 : decode cL_ranked 13 = .ok (.ireturn, 1) := by decide +kernel
set_option maxRecDepth 20000 in
theorem ggL_rank_X6_rank : GoodIn wsL_rank wsX6_rank := goodIn_ca (goodIn_r _ [6, 7, 8, 9, 10, 11, 12, 13, 5, 14, 15, 16, 17, 18, 19, 20, 21, 22, 23, 24, 25, 26, 27, 28, 29, 30, 31, 32, 33, 34, 35, 36, 37, 38, 39, 40, 41, 42, 43, 44, 45, 46, 47, 48, 49, 50, 51, 52, 53, 54, 55, 56, 57, 58, 59, 60, 61, 62, 63, 64, 65, 66, 67, 68, 69, 70, 71, 72, 73, 74, 75, 76, 77, 78, 79, 80, 81, 82, 83, 84, 85, 86, 87, 88, 89, 90, 91, 92, 93, 94, 95, 96, 97, 98, 99, 100, 101, 102, 103, 104, 105, 106, 107, 108, 109, 110, 111, 112, 113, 114, 115, 116, 117, 118, 119, 120, 121, 122, 123, 124, 125, 126, 127, 128, 129, 130, 131, 132, 133, 134, 135, 136, 137, 138, 139, 140, 141, 142, 143, 144, 145, 146, 147, 148, 149, 150, 151, 152] (by decide +kernel) (by decide +kernel)) (goodIn_sub (fun _ h => List.mem_cons_of_mem _ (List.mem_append_right _ h)) (by decide +kernel))
set_option maxRecDepth 20000 in
theorem gL_rank_X6_rank : GoodIn wsL_rank (wsV RL 23 RX6 yX6_rank wsX6_rank) := goodIn_app (goodIn_of _ (by decide +kernel)) ggL_rank_X6_rank
theorem dL_rank_0 : decode cL_rank 0 = .ok (.aload_n 0, 1) := by decide +kernel
theorem dL_rank_1 : decode cL_rank 1 = .ok (.invokevirtual 23, 3) := by decide +kernel
theorem dL_rank_4 : decode cL_rank 4 = .ok (.ireturn, 1) := by decide +kernel
theorem dL_rank_5 : decode cL_rank 5 = .ok (.astore_n 1, 1) := by decide +kernel
theorem dL_rank_6 : decode cL_rank 6 = .ok (.bipush (-2), 2) := by decide +kernel
theorem dL_rank_8 : decode cL_rank 8 = .ok (.ireturn, 1) := by decide +kernel
set_option maxRecDepth 20000 in
theorem ggL_counted_X6_countDefect : GoodIn wsL_counted wsX6_countDefect := goodIn_ca (goodIn_ca (goodIn_r _ [7, 8, 9, 6, 10, 11, 12, 13, 14, 15, 16, 17, 18, 19, 20, 21, 22, 23, 24, 25, 26, 27, 28, 29, 30, 31, 32, 33, 34, 35, 36, 37, 38, 39, 40, 41, 42, 43, 44, 45, 46, 47, 48, 49, 50, 51, 52, 53, 54, 55, 56, 57, 58, 59, 60, 61, 62, 63, 64, 65, 66, 67, 68, 69, 70, 71, 72, 73, 74, 75, 76, 77, 78, 79, 80, 81, 82, 83, 84, 85, 86, 87, 88, 89, 90, 91, 92, 93, 94, 95, 96, 97, 98, 99, 100, 101, 102, 103, 104, 105, 106, 107, 108, 109, 110, 111, 112, 113, 114, 115, 116, 117, 118, 119, 120, 121, 122, 123, 124, 125, 126, 127, 128, 129, 130, 131, 132, 133, 134, 135, 136, 137, 138, 139, 140, 141, 142, 143, 144, 145, 146, 147, 148, 149, 150, 151, 152, 153, 154, 155, 156, 157, 158, 159] (by decide +kernel) (by decide +kernel)) (goodIn_sub (fun _ h => List.mem_cons_of_mem _ (List.mem_append_left _ (List.mem_append_right _ h))) (by decide +kernel))) (goodIn_sub (fun _ h => List.mem_cons_of_mem _ (List.mem_append_right _ h)) (by decide +kernel))
set_option maxRecDepth 20000 in
theorem gL_counted_X6_countDefect : GoodIn wsL_counted (wsV RL 27 RX6 yX6_countDefect wsX6_countDefect) := goodIn_app (goodIn_of _ (by decide +kernel)) ggL_counted_X6_countDefect
theorem dL_counted_0 : decode cL_counted 0 = .ok (.aload_n 0, 1) := by decide +kernel
theorem dL_counted_1 : decode cL_counted 1 = .ok (.iload_n 1, 1) := by decide +kernel
theorem dL_counted_2 : decode cL_counted 2 = .ok (.iload_n 2, 1) := by decide +kernel
theorem dL_counted_3 : decode cL_counted 3 = .ok (.invokevirtual 27, 3) := by decide +kernel
theorem dL_counted_6 : decode cL_counted 6 = .ok (.ireturn, 1) := by decide +kernel
theorem dL_counted_7 : decode cL_counted 7 = .ok (.astore_n 3, 1) := by decide +kernel
theorem dL_counted_8 : decode cL_counted 8 = .ok (.iconst (-1), 1) := by decide +kernel
theorem dL_counted_9 : decode cL_counted 9 = .ok (.ireturn, 1) := by decide +kernel
theorem dL_counted_10 : decode cL_counted 10 = .ok (.astore_n 3, 1) := by decide +kernel
theorem dL_counted_11 : decode cL_counted 11 = .ok (.bipush (-2), 2) := by decide +kernel
theorem dL_counted_13 : decode cL_counted 13 = .ok (.ireturn, 1) := by decide +kernel
set_option maxRecDepth 20000 in
theorem ggL_capacity_X6_setCapacity : GoodIn wsL_capacity wsX6_setCapacity := goodIn_ca (goodIn_ca (goodIn_r _ [7, 8, 9, 10, 11, 12, 13, 6, 14, 15, 16, 17, 18, 19, 20, 21, 22, 23, 24, 25, 26, 27, 28, 29, 30, 31, 32, 33, 34, 35, 36, 37, 38, 39, 40, 41, 42, 43, 44, 45, 46, 47, 48, 49, 50, 51, 52, 53, 54, 55, 56, 57, 58, 59, 60, 61, 62, 63, 64, 65, 66] (by decide +kernel) (by decide +kernel)) (goodIn_sub (fun _ h => List.mem_cons_of_mem _ (List.mem_append_left _ (List.mem_append_right _ h))) (by decide +kernel))) (goodIn_sub (fun _ h => List.mem_cons_of_mem _ (List.mem_append_right _ h)) (by decide +kernel))
set_option maxRecDepth 20000 in
theorem gL_capacity_X6_setCapacity : GoodIn wsL_capacity (wsV RL 30 RX6 yX6_setCapacity wsX6_setCapacity) := goodIn_app (goodIn_of _ (by decide +kernel)) ggL_capacity_X6_setCapacity
theorem dL_capacity_0 : decode cL_capacity 0 = .ok (.aload_n 0, 1) := by decide +kernel
theorem dL_capacity_1 : decode cL_capacity 1 = .ok (.iload_n 1, 1) := by decide +kernel
theorem dL_capacity_2 : decode cL_capacity 2 = .ok (.iload_n 2, 1) := by decide +kernel
theorem dL_capacity_3 : decode cL_capacity 3 = .ok (.invokevirtual 30, 3) := by decide +kernel
theorem dL_capacity_6 : decode cL_capacity 6 = .ok (.ireturn, 1) := by decide +kernel
theorem dL_capacity_7 : decode cL_capacity 7 = .ok (.astore_n 3, 1) := by decide +kernel
theorem dL_capacity_8 : decode cL_capacity 8 = .ok (.iconst (-1), 1) := by decide +kernel
theorem dL_capacity_9 : decode cL_capacity 9 = .ok (.ireturn, 1) := by decide +kernel
theorem dL_capacity_10 : decode cL_capacity 10 = .ok (.astore_n 3, 1) := by decide +kernel
theorem dL_capacity_11 : decode cL_capacity 11 = .ok (.bipush (-2), 2) := by decide +kernel
theorem dL_capacity_13 : decode cL_capacity 13 = .ok (.ireturn, 1) := by decide +kernel
set_option maxRecDepth 20000 in
theorem ggL_shifted_X6_shift : GoodIn wsL_shifted wsX6_shift := goodIn_ca (goodIn_r _ [6, 7, 8, 9, 10, 11, 12, 13, 5, 14, 15, 16, 17, 18, 19, 20, 21, 22, 23, 24, 25, 26, 27, 28, 29, 30, 31, 32, 33, 34, 35, 36, 37, 38, 39, 40, 41, 42, 43, 44, 45, 46, 47, 48, 49, 50, 51, 52, 53, 54, 55, 56, 57, 58, 59, 60, 61, 62, 63, 64, 65, 66, 67, 68, 69, 70] (by decide +kernel) (by decide +kernel)) (goodIn_sub (fun _ h => List.mem_cons_of_mem _ (List.mem_append_right _ h)) (by decide +kernel))
set_option maxRecDepth 20000 in
theorem gL_shifted_X6_shift : GoodIn wsL_shifted (wsV RL 35 RX6 yX6_shift wsX6_shift) := goodIn_app (goodIn_of _ (by decide +kernel)) ggL_shifted_X6_shift
theorem dL_shifted_0 : decode cL_shifted 0 = .ok (.aload_n 0, 1) := by decide +kernel
theorem dL_shifted_1 : decode cL_shifted 1 = .ok (.invokevirtual 35, 3) := by decide +kernel
theorem dL_shifted_4 : decode cL_shifted 4 = .ok (.ireturn, 1) := by decide +kernel
theorem dL_shifted_5 : decode cL_shifted 5 = .ok (.astore_n 1, 1) := by decide +kernel
theorem dL_shifted_6 : decode cL_shifted 6 = .ok (.bipush (-2), 2) := by decide +kernel
theorem dL_shifted_8 : decode cL_shifted 8 = .ok (.ireturn, 1) := by decide +kernel
set_option maxRecDepth 20000 in
theorem ggL_removed_X6_removeCar : GoodIn wsL_removed wsX6_removeCar := goodIn_ca (goodIn_r _ [6, 7, 8, 9, 10, 11, 5, 12, 13, 14, 15, 16, 17, 18, 19, 20, 21, 22, 23, 24, 25, 26, 27, 28, 29, 30, 31, 32, 33, 34, 35, 36, 37, 38, 39, 40, 41, 42, 43, 44, 45, 46, 47, 48, 49, 50, 51, 52, 53, 54, 55, 56] (by decide +kernel) (by decide +kernel)) (goodIn_sub (fun _ h => List.mem_cons_of_mem _ (List.mem_append_right _ h)) (by decide +kernel))
set_option maxRecDepth 20000 in
theorem gL_removed_X6_removeCar : GoodIn wsL_removed (wsV RL 38 RX6 yX6_removeCar wsX6_removeCar) := goodIn_app (goodIn_of _ (by decide +kernel)) ggL_removed_X6_removeCar
theorem dL_removed_0 : decode cL_removed 0 = .ok (.aload_n 0, 1) := by decide +kernel
theorem dL_removed_1 : decode cL_removed 1 = .ok (.invokevirtual 38, 3) := by decide +kernel
theorem dL_removed_4 : decode cL_removed 4 = .ok (.ireturn, 1) := by decide +kernel
theorem dL_removed_5 : decode cL_removed 5 = .ok (.astore_n 1, 1) := by decide +kernel
theorem dL_removed_6 : decode cL_removed 6 = .ok (.bipush (-2), 2) := by decide +kernel
theorem dL_removed_8 : decode cL_removed 8 = .ok (.ireturn, 1) := by decide +kernel
set_option maxRecDepth 20000 in
theorem ggL_undone_X6_undo : GoodIn wsL_undone wsX6_undo := goodIn_ca (goodIn_r _ [6, 7, 8, 9, 10, 11, 5, 12, 13, 14, 15, 16, 17, 18, 19, 20, 21, 22, 23, 24, 25, 26, 27, 28, 29, 30, 31, 32, 33, 34, 35, 36, 37, 38, 39, 40, 41, 42, 43, 44, 45, 46, 47, 48, 49, 50, 51, 52] (by decide +kernel) (by decide +kernel)) (goodIn_sub (fun _ h => List.mem_cons_of_mem _ (List.mem_append_right _ h)) (by decide +kernel))
set_option maxRecDepth 20000 in
theorem gL_undone_X6_undo : GoodIn wsL_undone (wsV RL 41 RX6 yX6_undo wsX6_undo) := goodIn_app (goodIn_of _ (by decide +kernel)) ggL_undone_X6_undo
theorem dL_undone_0 : decode cL_undone 0 = .ok (.aload_n 0, 1) := by decide +kernel
theorem dL_undone_1 : decode cL_undone 1 = .ok (.invokevirtual 41, 3) := by decide +kernel
theorem dL_undone_4 : decode cL_undone 4 = .ok (.ireturn, 1) := by decide +kernel
theorem dL_undone_5 : decode cL_undone 5 = .ok (.astore_n 1, 1) := by decide +kernel
theorem dL_undone_6 : decode cL_undone 6 = .ok (.bipush (-2), 2) := by decide +kernel
theorem dL_undone_8 : decode cL_undone 8 = .ok (.ireturn, 1) := by decide +kernel
set_option maxRecDepth 20000 in
theorem ggL_fails_X6_fingerprint : GoodIn wsL_fails wsX6_fingerprint := goodIn_r _ [5, 6, 7, 8, 9, 10, 11, 12, 13, 14, 15, 16, 17, 4, 18, 19, 20, 21, 22, 23, 24, 25, 26, 27, 28, 29, 30, 31, 32, 33, 34, 35, 36, 37, 38, 39, 40, 41, 42, 43, 44, 45, 46, 47, 48, 49, 50, 51, 52, 53, 54, 55, 56, 57, 58, 59, 60, 61, 62, 63, 64, 65, 66, 67, 68, 69, 70, 71, 72, 73, 74, 75, 76, 77, 78, 79, 80, 81, 82, 83, 84, 85, 86, 87, 256, 257, 258, 259, 260, 261, 262, 263, 264, 265, 266, 267, 268, 269, 270, 271, 272, 273, 274, 275, 276, 277, 278, 279, 280] (by decide +kernel) (by decide +kernel)
set_option maxRecDepth 20000 in
theorem gL_fails_X6_fingerprint : GoodIn wsL_fails (wsV RL 44 RX6 yX6_fingerprint wsX6_fingerprint) := goodIn_app (goodIn_of _ (by decide +kernel)) ggL_fails_X6_fingerprint
set_option maxRecDepth 20000 in
theorem ggL_fails_L_added : GoodIn wsL_fails wsL_added := goodIn_ca (goodIn_ca (goodIn_r _ [91, 92, 93, 94, 95, 96, 4, 97, 7, 8, 10, 98, 11, 99, 100, 101, 102, 103, 104, 105, 106, 107, 108, 109, 110, 111, 112, 113, 114, 115, 116, 117, 118, 119, 120, 121, 122, 123, 124, 125, 68, 126, 127, 128, 129, 130, 131, 132, 133, 70, 71, 256, 257, 258, 259, 260, 261, 262, 263, 264, 265, 266, 267, 268, 269, 270, 281, 282] (by decide +kernel) (by decide +kernel)) (goodIn_sub (fun _ h => List.mem_cons_of_mem _ (List.mem_append_left _ (List.mem_append_left _ (List.mem_append_right _ h)))) (by decide +kernel))) (goodIn_sub (fun _ h => List.mem_cons_of_mem _ (List.mem_append_left _ (List.mem_append_right _ h))) (by decide +kernel))
set_option maxRecDepth 20000 in
theorem gL_fails_L_added : GoodIn wsL_fails (va_wsS RL 48 yL_added wsL_added) := goodIn_app (goodIn_of _ (by decide +kernel)) ggL_fails_L_added
set_option maxRecDepth 20000 in
theorem ggL_fails_L_ranked : GoodIn wsL_fails wsL_ranked := goodIn_ca (goodIn_ca (goodIn_r _ [136, 92, 93, 137, 138, 139, 4, 140, 12, 8, 98, 11, 141, 10, 99, 100, 101, 102, 103, 104, 105, 106, 142, 143, 144, 145, 146, 147, 148, 149, 150, 7, 151, 107, 108, 109, 110, 111, 152, 153, 154, 155, 19, 20, 21, 22, 23, 24, 25, 26, 27, 28, 29, 30, 31, 32, 33, 156, 157, 158, 159, 160, 161, 162, 163, 164, 165, 166, 167, 168, 169, 170, 171, 172, 173, 174, 175, 176, 177, 178, 179, 180, 34, 35, 36, 37, 38, 39, 40, 41, 42, 43, 44, 45, 46, 47, 48, 49, 50, 51, 52, 53, 54, 55, 56, 57, 58, 59, 60, 181, 182, 183, 184, 185, 186, 187, 188, 189, 190, 191, 192, 193, 194, 195, 196, 197, 198, 199, 200, 201, 202, 203, 204, 205, 206, 207, 208, 209, 210, 211, 212, 112, 113, 114, 115, 116, 117, 118, 119, 120, 121, 122, 123, 124, 125, 68, 126, 127, 128, 129, 130, 131, 132, 133, 70, 71, 256, 257, 258, 259, 260, 261, 262, 263, 264, 265, 266, 267, 268, 269, 270, 271, 272, 273, 274, 275, 276, 277, 278, 279, 280, 283, 284, 281, 282] (by decide +kernel) (by decide +kernel)) (goodIn_sub (fun _ h => List.mem_cons_of_mem _ (List.mem_append_left _ (List.mem_append_left _ (List.mem_append_right _ h)))) (by decide +kernel))) (goodIn_sub (fun _ h => List.mem_cons_of_mem _ (List.mem_append_left _ (List.mem_append_right _ h))) (by decide +kernel))
set_option maxRecDepth 20000 in
theorem gL_fails_L_ranked : GoodIn wsL_fails (va_wsS RL 54 yL_ranked wsL_ranked) := goodIn_app (goodIn_of _ (by decide +kernel)) ggL_fails_L_ranked
set_option maxRecDepth 20000 in
theorem ggL_fails_L_counted : GoodIn wsL_fails wsL_counted := goodIn_ca (goodIn_ca (goodIn_r _ [215, 92, 93, 216, 217, 218, 4, 219, 99, 100, 101, 102, 103, 104, 105, 106, 142, 143, 144, 145, 12, 146, 147, 148, 149, 150, 7, 151, 107, 108, 109, 110, 111, 152, 153, 154, 155, 8, 19, 20, 21, 22, 23, 24, 25, 26, 27, 28, 29, 30, 31, 32, 33, 156, 157, 158, 159, 160, 161, 162, 163, 164, 165, 166, 167, 168, 169, 170, 171, 172, 173, 174, 175, 176, 177, 178, 179, 180, 34, 35, 36, 37, 38, 39, 40, 41, 42, 43, 44, 45, 46, 47, 48, 49, 50, 51, 52, 53, 54, 55, 56, 57, 58, 59, 60, 181, 182, 183, 184, 185, 186, 187, 188, 189, 190, 191, 192, 193, 194, 195, 196, 197, 198, 199, 200, 201, 202, 203, 204, 205, 206, 207, 208, 256, 257, 258, 259, 260, 261, 262, 263, 264, 265, 271, 272, 273, 274, 275, 276, 277, 278, 279, 280, 266, 267, 268, 269, 270, 283, 284] (by decide +kernel) (by decide +kernel)) (goodIn_sub (fun _ h => List.mem_cons_of_mem _ (List.mem_append_left _ (List.mem_append_left _ (List.mem_append_right _ h)))) (by decide +kernel))) (goodIn_sub (fun _ h => List.mem_cons_of_mem _ (List.mem_append_left _ (List.mem_append_right _ h))) (by decide +kernel))
set_option maxRecDepth 20000 in
theorem gL_fails_L_counted : GoodIn wsL_fails (va_wsS RL 58 yL_counted wsL_counted) := goodIn_app (goodIn_of _ (by decide +kernel)) ggL_fails_L_counted
set_option maxRecDepth 20000 in
theorem ggL_fails_L_capacity : GoodIn wsL_fails wsL_capacity := goodIn_ca (goodIn_ca (goodIn_r _ [222, 223, 92, 224, 225, 226, 4, 227, 7, 98, 8, 9, 228, 229, 230, 231, 232, 99, 100, 101, 102, 103, 104, 105, 106, 112, 113, 114, 115, 116, 117, 118, 119, 120, 121, 122, 123, 124, 125, 68, 126, 127, 128, 129, 130, 131, 132, 133, 70, 71, 256, 257, 258, 259, 260, 261, 262, 263, 264, 265, 266, 267, 268, 269, 270, 281, 282] (by decide +kernel) (by decide +kernel)) (goodIn_sub (fun _ h => List.mem_cons_of_mem _ (List.mem_append_right _ h)) (by decide +kernel))) (goodIn_sub (fun _ h => List.mem_cons_of_mem _ (List.mem_append_left _ (List.mem_append_left _ (List.mem_append_right _ h)))) (by decide +kernel))
set_option maxRecDepth 20000 in
theorem gL_fails_L_capacity : GoodIn wsL_fails (va_wsS RL 61 yL_capacity wsL_capacity) := goodIn_app (goodIn_of _ (by decide +kernel)) ggL_fails_L_capacity
set_option maxRecDepth 20000 in
theorem ggL_fails_X6_cars : GoodIn wsL_fails wsX6_cars := goodIn_r _ [236, 8, 10, 256, 257, 258, 259, 260, 261, 262, 263, 264, 265, 266, 267, 268, 269, 270] (by decide +kernel) (by decide +kernel)
set_option maxRecDepth 20000 in
theorem gL_fails_X6_cars : GoodIn wsL_fails (wsV RL 64 RX6 yX6_cars wsX6_cars) := goodIn_app (goodIn_of _ (by decide +kernel)) ggL_fails_X6_cars
set_option maxRecDepth 20000 in
theorem ggL_fails_L_shifted : GoodIn wsL_fails wsL_shifted := goodIn_ca (goodIn_r _ [239, 93, 240, 241, 242, 4, 243, 8, 10, 7, 98, 11, 107, 108, 109, 110, 111, 244, 245, 246, 247, 248, 249, 250, 251, 112, 113, 114, 115, 116, 117, 118, 119, 120, 121, 122, 123, 124, 125, 68, 126, 127, 128, 129, 130, 131, 132, 133, 70, 71, 252, 253, 254, 255, 256, 257, 258, 259, 260, 261, 262, 263, 264, 265, 266, 267, 268, 269, 270, 281, 282] (by decide +kernel) (by decide +kernel)) (goodIn_sub (fun _ h => List.mem_cons_of_mem _ (List.mem_append_left _ (List.mem_append_right _ h))) (by decide +kernel))
set_option maxRecDepth 20000 in
theorem gL_fails_L_shifted : GoodIn wsL_fails (va_wsS RL 67 yL_shifted wsL_shifted) := goodIn_app (goodIn_of _ (by decide +kernel)) ggL_fails_L_shifted
theorem dL_fails_0 : decode cL_fails 0 = .ok (.aload_n 0, 1) := by decide +kernel
theorem dL_fails_1 : decode cL_fails 1 = .ok (.invokevirtual 44, 3) := by decide +kernel
theorem dL_fails_4 : decode cL_fails 4 = .ok (.lstore_n 2, 1) := by decide +kernel
theorem dL_fails_5 : decode cL_fails 5 = .ok (.aload_n 0, 1) := by decide +kernel
theorem dL_fails_6 : decode cL_fails 6 = .ok (.iload_n 1, 1) := by decide +kernel
theorem dL_fails_7 : decode cL_fails 7 = .ok (.invokestatic 48, 3) := by decide +kernel
theorem dL_fails_10 : decode cL_fails 10 = .ok (.iconst (-1), 1) := by decide +kernel
theorem dL_fails_11 : decode cL_fails 11 = .ok (.if_icmp .ne 91, 3) := by decide +kernel
theorem dL_fails_14 : decode cL_fails 14 = .ok (.aload_n 0, 1) := by decide +kernel
theorem dL_fails_15 : decode cL_fails 15 = .ok (.iconst (-1), 1) := by decide +kernel
theorem dL_fails_16 : decode cL_fails 16 = .ok (.invokestatic 48, 3) := by decide +kernel
theorem dL_fails_19 : decode cL_fails 19 = .ok (.iconst (-1), 1) := by decide +kernel
theorem dL_fails_20 : decode cL_fails 20 = .ok (.if_icmp .ne 82, 3) := by decide +kernel
theorem dL_fails_23 : decode cL_fails 23 = .ok (.aload_n 0, 1) := by decide +kernel
theorem dL_fails_24 : decode cL_fails 24 = .ok (.bipush 10, 2) := by decide +kernel
theorem dL_fails_26 : decode cL_fails 26 = .ok (.iconst 0, 1) := by decide +kernel
theorem dL_fails_27 : decode cL_fails 27 = .ok (.invokestatic 54, 3) := by decide +kernel
theorem dL_fails_30 : decode cL_fails 30 = .ok (.iconst (-1), 1) := by decide +kernel
theorem dL_fails_31 : decode cL_fails 31 = .ok (.if_icmp .ne 71, 3) := by decide +kernel
theorem dL_fails_34 : decode cL_fails 34 = .ok (.aload_n 0, 1) := by decide +kernel
theorem dL_fails_35 : decode cL_fails 35 = .ok (.iconst 0, 1) := by decide +kernel
theorem dL_fails_36 : decode cL_fails 36 = .ok (.iconst (-1), 1) := by decide +kernel
theorem dL_fails_37 : decode cL_fails 37 = .ok (.invokestatic 54, 3) := by decide +kernel
theorem dL_fails_40 : decode cL_fails 40 = .ok (.iconst (-1), 1) := by decide +kernel
theorem dL_fails_41 : decode cL_fails 41 = .ok (.if_icmp .ne 61, 3) := by decide +kernel
theorem dL_fails_44 : decode cL_fails 44 = .ok (.aload_n 0, 1) := by decide +kernel
theorem dL_fails_45 : decode cL_fails 45 = .ok (.iconst 0, 1) := by decide +kernel
theorem dL_fails_46 : decode cL_fails 46 = .ok (.iconst 1, 1) := by decide +kernel
theorem dL_fails_47 : decode cL_fails 47 = .ok (.invokestatic 54, 3) := by decide +kernel
theorem dL_fails_50 : decode cL_fails 50 = .ok (.bipush (-2), 2) := by decide +kernel
theorem dL_fails_52 : decode cL_fails 52 = .ok (.if_icmp .ne 50, 3) := by decide +kernel
theorem dL_fails_55 : decode cL_fails 55 = .ok (.aload_n 0, 1) := by decide +kernel
theorem dL_fails_56 : decode cL_fails 56 = .ok (.iconst (-1), 1) := by decide +kernel
theorem dL_fails_57 : decode cL_fails 57 = .ok (.iconst 0, 1) := by decide +kernel
theorem dL_fails_58 : decode cL_fails 58 = .ok (.invokestatic 58, 3) := by decide +kernel
theorem dL_fails_61 : decode cL_fails 61 = .ok (.iconst (-1), 1) := by decide +kernel
theorem dL_fails_62 : decode cL_fails 62 = .ok (.if_icmp .ne 40, 3) := by decide +kernel
theorem dL_fails_65 : decode cL_fails 65 = .ok (.aload_n 0, 1) := by decide +kernel
theorem dL_fails_66 : decode cL_fails 66 = .ok (.iconst 0, 1) := by decide +kernel
theorem dL_fails_67 : decode cL_fails 67 = .ok (.bipush 10, 2) := by decide +kernel
theorem dL_fails_69 : decode cL_fails 69 = .ok (.invokestatic 58, 3) := by decide +kernel
theorem dL_fails_72 : decode cL_fails 72 = .ok (.iconst (-1), 1) := by decide +kernel
theorem dL_fails_73 : decode cL_fails 73 = .ok (.if_icmp .ne 29, 3) := by decide +kernel
theorem dL_fails_76 : decode cL_fails 76 = .ok (.aload_n 0, 1) := by decide +kernel
theorem dL_fails_77 : decode cL_fails 77 = .ok (.iload_n 1, 1) := by decide +kernel
theorem dL_fails_78 : decode cL_fails 78 = .ok (.bipush 9, 2) := by decide +kernel
theorem dL_fails_80 : decode cL_fails 80 = .ok (.invokestatic 61, 3) := by decide +kernel
theorem dL_fails_83 : decode cL_fails 83 = .ok (.iconst (-1), 1) := by decide +kernel
theorem dL_fails_84 : decode cL_fails 84 = .ok (.if_icmp .ne 18, 3) := by decide +kernel
theorem dL_fails_87 : decode cL_fails 87 = .ok (.aload_n 0, 1) := by decide +kernel
theorem dL_fails_88 : decode cL_fails 88 = .ok (.iconst 0, 1) := by decide +kernel
theorem dL_fails_89 : decode cL_fails 89 = .ok (.iconst 4, 1) := by decide +kernel
theorem dL_fails_90 : decode cL_fails 90 = .ok (.invokestatic 61, 3) := by decide +kernel
theorem dL_fails_93 : decode cL_fails 93 = .ok (.bipush (-2), 2) := by decide +kernel
theorem dL_fails_95 : decode cL_fails 95 = .ok (.if_icmp .ne 7, 3) := by decide +kernel
theorem dL_fails_98 : decode cL_fails 98 = .ok (.iconst 1, 1) := by decide +kernel
theorem dL_fails_99 : decode cL_fails 99 = .ok (.goto 4, 3) := by decide +kernel
theorem dL_fails_102 : decode cL_fails 102 = .ok (.iconst 0, 1) := by decide +kernel
theorem dL_fails_103 : decode cL_fails 103 = .ok (.istore 4, 2) := by decide +kernel
theorem dL_fails_105 : decode cL_fails 105 = .ok (.iload 4, 2) := by decide +kernel
theorem dL_fails_107 : decode cL_fails 107 = .ok (.ifCond .eq 42, 3) := by decide +kernel
theorem dL_fails_110 : decode cL_fails 110 = .ok (.aload_n 0, 1) := by decide +kernel
theorem dL_fails_111 : decode cL_fails 111 = .ok (.invokevirtual 64, 3) := by decide +kernel
theorem dL_fails_114 : decode cL_fails 114 = .ok (.iload_n 1, 1) := by decide +kernel
theorem dL_fails_115 : decode cL_fails 115 = .ok (.if_icmp .eq 12, 3) := by decide +kernel
theorem dL_fails_118 : decode cL_fails 118 = .ok (.aload_n 0, 1) := by decide +kernel
theorem dL_fails_119 : decode cL_fails 119 = .ok (.invokestatic 67, 3) := by decide +kernel
theorem dL_fails_122 : decode cL_fails 122 = .ok (.bipush (-2), 2) := by decide +kernel
theorem dL_fails_124 : decode cL_fails 124 = .ok (.if_icmp .ne 25, 3) := by decide +kernel
theorem dL_fails_127 : decode cL_fails 127 = .ok (.iload_n 1, 1) := by decide +kernel
theorem dL_fails_128 : decode cL_fails 128 = .ok (.bipush 8, 2) := by decide +kernel
theorem dL_fails_130 : decode cL_fails 130 = .ok (.if_icmp .lt 15, 3) := by decide +kernel
theorem dL_fails_133 : decode cL_fails 133 = .ok (.aload_n 0, 1) := by decide +kernel
theorem dL_fails_134 : decode cL_fails 134 = .ok (.bipush 9, 2) := by decide +kernel
theorem dL_fails_136 : decode cL_fails 136 = .ok (.iconst 0, 1) := by decide +kernel
theorem dL_fails_137 : decode cL_fails 137 = .ok (.invokestatic 58, 3) := by decide +kernel
theorem dL_fails_140 : decode cL_fails 140 = .ok (.bipush (-2), 2) := by decide +kernel
theorem dL_fails_142 : decode cL_fails 142 = .ok (.if_icmp .ne 7, 3) := by decide +kernel
theorem dL_fails_145 : decode cL_fails 145 = .ok (.iconst 1, 1) := by decide +kernel
theorem dL_fails_146 : decode cL_fails 146 = .ok (.goto 4, 3) := by decide +kernel
theorem dL_fails_149 : decode cL_fails 149 = .ok (.iconst 0, 1) := by decide +kernel
theorem dL_fails_150 : decode cL_fails 150 = .ok (.istore 4, 2) := by decide +kernel
theorem dL_fails_152 : decode cL_fails 152 = .ok (.iload 4, 2) := by decide +kernel
theorem dL_fails_154 : decode cL_fails 154 = .ok (.ifCond .eq 16, 3) := by decide +kernel
theorem dL_fails_157 : decode cL_fails 157 = .ok (.aload_n 0, 1) := by decide +kernel
theorem dL_fails_158 : decode cL_fails 158 = .ok (.invokevirtual 44, 3) := by decide +kernel
theorem dL_fails_161 : decode cL_fails 161 = .ok (.lload_n 2, 1) := by decide +kernel
theorem dL_fails_162 : decode cL_fails 162 = .ok (.lcmp, 1) := by decide +kernel
theorem dL_fails_163 : decode cL_fails 163 = .ok (.ifCond .ne 7, 3) := by decide +kernel
theorem dL_fails_166 : decode cL_fails 166 = .ok (.iconst 1, 1) := by decide +kernel
theorem dL_fails_167 : decode cL_fails 167 = .ok (.goto 4, 3) := by decide +kernel
theorem dL_fails_170 : decode cL_fails 170 = .ok (.iconst 0, 1) := by decide +kernel
theorem dL_fails_171 : decode cL_fails 171 = .ok (.ireturn, 1) := by decide +kernel
theorem dL_countOf_0 : decode cL_countOf 0 = .ok (.iconst 0, 1) := by decide +kernel
theorem dL_countOf_1 : decode cL_countOf 1 = .ok (.istore_n 1, 1) := by decide +kernel
theorem dL_countOf_2 : decode cL_countOf 2 = .ok (.iconst 0, 1) := by decide +kernel
theorem dL_countOf_3 : decode cL_countOf 3 = .ok (.istore_n 2, 1) := by decide +kernel
theorem dL_countOf_4 : decode cL_countOf 4 = .ok (.iload_n 2, 1) := by decide +kernel
theorem dL_countOf_5 : decode cL_countOf 5 = .ok (.bipush 9, 2) := by decide +kernel
theorem dL_countOf_7 : decode cL_countOf 7 = .ok (.if_icmp .ge 17, 3) := by decide +kernel
theorem dL_countOf_10 : decode cL_countOf 10 = .ok (.iload_n 1, 1) := by decide +kernel
theorem dL_countOf_11 : decode cL_countOf 11 = .ok (.iload_n 0, 1) := by decide +kernel
theorem dL_countOf_12 : decode cL_countOf 12 = .ok (.iload_n 2, 1) := by decide +kernel
theorem dL_countOf_13 : decode cL_countOf 13 = .ok (.ishr, 1) := by decide +kernel
theorem dL_countOf_14 : decode cL_countOf 14 = .ok (.iconst 1, 1) := by decide +kernel
theorem dL_countOf_15 : decode cL_countOf 15 = .ok (.iand, 1) := by decide +kernel
theorem dL_countOf_16 : decode cL_countOf 16 = .ok (.iadd, 1) := by decide +kernel
theorem dL_countOf_17 : decode cL_countOf 17 = .ok (.istore_n 1, 1) := by decide +kernel
theorem dL_countOf_18 : decode cL_countOf 18 = .ok (.iinc 2 1, 3) := by decide +kernel
theorem dL_countOf_21 : decode cL_countOf 21 = .ok (.goto (-17), 3) := by decide +kernel
theorem dL_countOf_24 : decode cL_countOf 24 = .ok (.iload_n 1, 1) := by decide +kernel
theorem dL_countOf_25 : decode cL_countOf 25 = .ok (.ireturn, 1) := by decide +kernel
set_option maxRecDepth 20000 in
theorem ggL_agrees_X6_cars : GoodIn wsL_agrees wsX6_cars := goodIn_r _ [5, 6, 7, 124, 125, 126, 127, 128, 129, 130, 131, 132, 133, 134, 135, 136, 137, 138] (by decide +kernel) (by decide +kernel)
set_option maxRecDepth 20000 in
theorem gL_agrees_X6_cars : GoodIn wsL_agrees (wsV RL 64 RX6 yX6_cars wsX6_cars) := goodIn_app (goodIn_of _ (by decide +kernel)) ggL_agrees_X6_cars
set_option maxRecDepth 20000 in
theorem ggL_agrees_X6_carsIn : GoodIn wsL_agrees wsX6_carsIn := goodIn_ca (goodIn_r _ [11, 12, 13, 14, 15, 4, 16, 17, 18, 19, 20, 21, 22, 6, 7, 23, 24, 25, 26, 27, 28, 29, 30, 31, 32, 33, 34, 35, 36, 37, 38, 39, 40, 41, 42, 43, 44, 45, 46, 47, 48, 49, 50, 51, 52, 53, 54, 55, 56, 57, 58, 59, 60, 61, 62, 63, 64, 65, 66, 67, 68, 69, 124, 125, 126, 127, 128, 129, 130, 131, 132, 133, 134, 135, 136, 137, 138, 139, 140, 141, 142, 143, 144, 145, 146, 147, 148] (by decide +kernel) (by decide +kernel)) (goodIn_sub (fun _ h => List.mem_cons_of_mem _ (List.mem_append_right _ h)) (by decide +kernel))
set_option maxRecDepth 20000 in
theorem gL_agrees_X6_carsIn : GoodIn wsL_agrees (wsV RL 71 RX6 yX6_carsIn wsX6_carsIn) := goodIn_app (goodIn_of _ (by decide +kernel)) ggL_agrees_X6_carsIn
set_option maxRecDepth 20000 in
theorem ggL_agrees_L_countOf : GoodIn wsL_agrees wsL_countOf := goodIn_r _ [73] (by decide +kernel) (by decide +kernel)
set_option maxRecDepth 20000 in
theorem gL_agrees_L_countOf : GoodIn wsL_agrees (va_wsS RL 74 yL_countOf wsL_countOf) := goodIn_app (goodIn_of _ (by decide +kernel)) ggL_agrees_L_countOf
set_option maxRecDepth 20000 in
theorem ggL_agrees_X6_spaceOf : GoodIn wsL_agrees wsX6_spaceOf := goodIn_ca (goodIn_r _ [77, 6, 7, 13, 78, 14, 15, 4, 16, 17, 18, 19, 20, 21, 22, 23, 24, 25, 26, 27, 28, 29, 30, 31, 32, 33, 34, 35, 36, 37, 38, 39, 40, 41, 42, 43, 44, 45, 46, 47, 48, 49, 50, 51, 52, 53, 54, 55, 56, 57, 58, 59, 60, 61, 62, 63, 64, 65, 124, 125, 126, 127, 128, 129, 130, 131, 132, 133, 134, 135, 136, 137, 138, 139, 140, 141, 142, 143, 144, 145, 146, 147, 148] (by decide +kernel) (by decide +kernel)) (goodIn_sub (fun _ h => List.mem_cons_of_mem _ (List.mem_append_right _ h)) (by decide +kernel))
set_option maxRecDepth 20000 in
theorem gL_agrees_X6_spaceOf : GoodIn wsL_agrees (wsV RL 77 RX6 yX6_spaceOf wsX6_spaceOf) := goodIn_app (goodIn_of _ (by decide +kernel)) ggL_agrees_X6_spaceOf
set_option maxRecDepth 20000 in
theorem ggL_agrees_X6_preference : GoodIn wsL_agrees wsX6_preference := goodIn_ca (goodIn_r _ [82, 6, 7, 23, 14, 15, 4, 16, 17, 18, 124, 125, 126, 127, 128, 129, 130, 131, 132, 133, 134, 135, 136, 137, 138] (by decide +kernel) (by decide +kernel)) (goodIn_sub (fun _ h => List.mem_cons_of_mem _ (List.mem_append_right _ h)) (by decide +kernel))
set_option maxRecDepth 20000 in
theorem gL_agrees_X6_preference : GoodIn wsL_agrees (wsV RL 80 RX6 yX6_preference wsX6_preference) := goodIn_app (goodIn_of _ (by decide +kernel)) ggL_agrees_X6_preference
set_option maxRecDepth 20000 in
theorem ggL_agrees_X6_steps : GoodIn wsL_agrees wsX6_steps := goodIn_ca (goodIn_r _ [86, 6, 7, 13, 87, 14, 15, 4, 16, 17, 18, 19, 20, 21, 22, 23, 24, 25, 26, 27, 28, 29, 30, 31, 32, 33, 34, 35, 36, 37, 38, 39, 40, 41, 42, 43, 44, 45, 46, 47, 48, 49, 50, 51, 52, 53, 54, 55, 56, 57, 58, 59, 60, 61, 62, 63, 64, 65, 124, 125, 126, 127, 128, 129, 130, 131, 132, 133, 134, 135, 136, 137, 138, 139, 140, 141, 142, 143, 144, 145, 146, 147, 148] (by decide +kernel) (by decide +kernel)) (goodIn_sub (fun _ h => List.mem_cons_of_mem _ (List.mem_append_right _ h)) (by decide +kernel))
set_option maxRecDepth 20000 in
theorem gL_agrees_X6_steps : GoodIn wsL_agrees (wsV RL 83 RX6 yX6_steps wsX6_steps) := goodIn_app (goodIn_of _ (by decide +kernel)) ggL_agrees_X6_steps
set_option maxRecDepth 20000 in
theorem ggL_agrees_X6_defect : GoodIn wsL_agrees wsX6_defect := goodIn_r _ [91, 13, 19, 20, 21, 4, 22, 6, 7, 23, 24, 25, 26, 27, 28, 29, 30, 31, 32, 33, 34, 35, 36, 37, 38, 39, 40, 41, 42, 43, 44, 45, 46, 47, 48, 49, 50, 51, 52, 53, 54, 55, 56, 57, 58, 59, 60, 61, 62, 63, 64, 65, 92, 93, 94, 95, 124, 125, 126, 127, 128, 129, 130, 131, 132, 133, 134, 135, 136, 137, 138, 139, 140, 141, 142, 143, 144, 145, 146, 147, 148] (by decide +kernel) (by decide +kernel)
set_option maxRecDepth 20000 in
theorem gL_agrees_X6_defect : GoodIn wsL_agrees (wsV RL 86 RX6 yX6_defect wsX6_defect) := goodIn_app (goodIn_of _ (by decide +kernel)) ggL_agrees_X6_defect
set_option maxRecDepth 20000 in
theorem ggL_agrees_X6_firstLeaving : GoodIn wsL_agrees wsX6_firstLeaving := goodIn_r _ [99, 13, 19, 20, 21, 4, 22, 6, 7, 23, 24, 25, 26, 27, 28, 29, 30, 31, 32, 33, 34, 35, 36, 37, 38, 39, 40, 41, 42, 43, 44, 45, 46, 47, 48, 49, 50, 51, 52, 53, 54, 55, 56, 57, 58, 59, 60, 61, 62, 63, 64, 65, 100, 101, 102, 103, 124, 125, 126, 127, 128, 129, 130, 131, 132, 133, 134, 135, 136, 137, 138, 139, 140, 141, 142, 143, 144, 145, 146, 147, 148] (by decide +kernel) (by decide +kernel)
set_option maxRecDepth 20000 in
theorem gL_agrees_X6_firstLeaving : GoodIn wsL_agrees (wsV RL 89 RX6 yX6_firstLeaving wsX6_firstLeaving) := goodIn_app (goodIn_of _ (by decide +kernel)) ggL_agrees_X6_firstLeaving
set_option maxRecDepth 20000 in
theorem ggL_agrees_X6_lucky : GoodIn wsL_agrees wsX6_lucky := goodIn_r _ [107, 13, 19, 20, 21, 4, 22, 6, 7, 23, 24, 25, 26, 27, 28, 29, 30, 31, 32, 33, 34, 35, 36, 37, 38, 39, 40, 41, 42, 43, 44, 45, 46, 47, 48, 49, 50, 51, 52, 53, 54, 55, 56, 57, 58, 59, 60, 61, 62, 63, 64, 65, 108, 109, 110, 111, 124, 125, 126, 127, 128, 129, 130, 131, 132, 133, 134, 135, 136, 137, 138, 139, 140, 141, 142, 143, 144, 145, 146, 147, 148] (by decide +kernel) (by decide +kernel)
set_option maxRecDepth 20000 in
theorem gL_agrees_X6_lucky : GoodIn wsL_agrees (wsV RL 92 RX6 yX6_lucky wsX6_lucky) := goodIn_app (goodIn_of _ (by decide +kernel)) ggL_agrees_X6_lucky
set_option maxRecDepth 20000 in
theorem ggL_agrees_X6_displacement : GoodIn wsL_agrees wsX6_displacement := goodIn_r _ [115, 13, 19, 20, 21, 4, 22, 6, 7, 23, 24, 25, 26, 27, 28, 29, 30, 31, 32, 33, 34, 35, 36, 37, 38, 39, 40, 41, 42, 43, 44, 45, 46, 47, 48, 49, 50, 51, 52, 53, 54, 55, 56, 57, 58, 59, 60, 61, 62, 63, 64, 65, 116, 117, 118, 119, 120, 121, 122, 123, 124, 125, 126, 127, 128, 129, 130, 131, 132, 133, 134, 135, 136, 137, 138, 139, 140, 141, 142, 143, 144, 145, 146, 147, 148] (by decide +kernel) (by decide +kernel)
set_option maxRecDepth 20000 in
theorem gL_agrees_X6_displacement : GoodIn wsL_agrees (wsV RL 95 RX6 yX6_displacement wsX6_displacement) := goodIn_app (goodIn_of _ (by decide +kernel)) ggL_agrees_X6_displacement
theorem dL_agrees_0 : decode cL_agrees 0 = .ok (.aload_n 0, 1) := by decide +kernel
theorem dL_agrees_1 : decode cL_agrees 1 = .ok (.invokevirtual 64, 3) := by decide +kernel
theorem dL_agrees_4 : decode cL_agrees 4 = .ok (.istore_n 3, 1) := by decide +kernel
theorem dL_agrees_5 : decode cL_agrees 5 = .ok (.iconst 0, 1) := by decide +kernel
theorem dL_agrees_6 : decode cL_agrees 6 = .ok (.istore 4, 2) := by decide +kernel
theorem dL_agrees_8 : decode cL_agrees 8 = .ok (.iconst 0, 1) := by decide +kernel
theorem dL_agrees_9 : decode cL_agrees 9 = .ok (.istore 5, 2) := by decide +kernel
theorem dL_agrees_11 : decode cL_agrees 11 = .ok (.iload 5, 2) := by decide +kernel
theorem dL_agrees_13 : decode cL_agrees 13 = .ok (.iload_n 1, 1) := by decide +kernel
theorem dL_agrees_14 : decode cL_agrees 14 = .ok (.if_icmp .ge 46, 3) := by decide +kernel
theorem dL_agrees_17 : decode cL_agrees 17 = .ok (.aload_n 0, 1) := by decide +kernel
theorem dL_agrees_18 : decode cL_agrees 18 = .ok (.iload 5, 2) := by decide +kernel
theorem dL_agrees_20 : decode cL_agrees 20 = .ok (.invokevirtual 71, 3) := by decide +kernel
theorem dL_agrees_23 : decode cL_agrees 23 = .ok (.istore 6, 2) := by decide +kernel
theorem dL_agrees_25 : decode cL_agrees 25 = .ok (.iload 6, 2) := by decide +kernel
theorem dL_agrees_27 : decode cL_agrees 27 = .ok (.iload 4, 2) := by decide +kernel
theorem dL_agrees_29 : decode cL_agrees 29 = .ok (.iand, 1) := by decide +kernel
theorem dL_agrees_30 : decode cL_agrees 30 = .ok (.ifCond .ne 15, 3) := by decide +kernel
theorem dL_agrees_33 : decode cL_agrees 33 = .ok (.iload 6, 2) := by decide +kernel
theorem dL_agrees_35 : decode cL_agrees 35 = .ok (.invokestatic 74, 3) := by decide +kernel
theorem dL_agrees_38 : decode cL_agrees 38 = .ok (.aload_n 2, 1) := by decide +kernel
theorem dL_agrees_39 : decode cL_agrees 39 = .ok (.iload 5, 2) := by decide +kernel
theorem dL_agrees_41 : decode cL_agrees 41 = .ok (.iaload, 1) := by decide +kernel
theorem dL_agrees_42 : decode cL_agrees 42 = .ok (.if_icmp .le 5, 3) := by decide +kernel
theorem dL_agrees_45 : decode cL_agrees 45 = .ok (.iconst 0, 1) := by decide +kernel
theorem dL_agrees_46 : decode cL_agrees 46 = .ok (.ireturn, 1) := by decide +kernel
theorem dL_agrees_47 : decode cL_agrees 47 = .ok (.iload 4, 2) := by decide +kernel
theorem dL_agrees_49 : decode cL_agrees 49 = .ok (.iload 6, 2) := by decide +kernel
theorem dL_agrees_51 : decode cL_agrees 51 = .ok (.ior, 1) := by decide +kernel
theorem dL_agrees_52 : decode cL_agrees 52 = .ok (.istore 4, 2) := by decide +kernel
theorem dL_agrees_54 : decode cL_agrees 54 = .ok (.iinc 5 1, 3) := by decide +kernel
theorem dL_agrees_57 : decode cL_agrees 57 = .ok (.goto (-46), 3) := by decide +kernel
theorem dL_agrees_60 : decode cL_agrees 60 = .ok (.iconst 0, 1) := by decide +kernel
theorem dL_agrees_61 : decode cL_agrees 61 = .ok (.istore 5, 2) := by decide +kernel
theorem dL_agrees_63 : decode cL_agrees 63 = .ok (.iconst (-1), 1) := by decide +kernel
theorem dL_agrees_64 : decode cL_agrees 64 = .ok (.istore 6, 2) := by decide +kernel
theorem dL_agrees_66 : decode cL_agrees 66 = .ok (.iconst 0, 1) := by decide +kernel
theorem dL_agrees_67 : decode cL_agrees 67 = .ok (.istore 7, 2) := by decide +kernel
theorem dL_agrees_69 : decode cL_agrees 69 = .ok (.iconst 0, 1) := by decide +kernel
theorem dL_agrees_70 : decode cL_agrees 70 = .ok (.istore 8, 2) := by decide +kernel
theorem dL_agrees_72 : decode cL_agrees 72 = .ok (.iload 8, 2) := by decide +kernel
theorem dL_agrees_74 : decode cL_agrees 74 = .ok (.iload_n 3, 1) := by decide +kernel
theorem dL_agrees_75 : decode cL_agrees 75 = .ok (.if_icmp .ge 197, 3) := by decide +kernel
theorem dL_agrees_78 : decode cL_agrees 78 = .ok (.aload_n 0, 1) := by decide +kernel
theorem dL_agrees_79 : decode cL_agrees 79 = .ok (.iload 8, 2) := by decide +kernel
theorem dL_agrees_81 : decode cL_agrees 81 = .ok (.invokevirtual 77, 3) := by decide +kernel
theorem dL_agrees_84 : decode cL_agrees 84 = .ok (.istore 9, 2) := by decide +kernel
theorem dL_agrees_86 : decode cL_agrees 86 = .ok (.aload_n 0, 1) := by decide +kernel
theorem dL_agrees_87 : decode cL_agrees 87 = .ok (.iload 8, 2) := by decide +kernel
theorem dL_agrees_89 : decode cL_agrees 89 = .ok (.invokevirtual 80, 3) := by decide +kernel
theorem dL_agrees_92 : decode cL_agrees 92 = .ok (.istore 10, 2) := by decide +kernel
theorem dL_agrees_94 : decode cL_agrees 94 = .ok (.iload 9, 2) := by decide +kernel
theorem dL_agrees_96 : decode cL_agrees 96 = .ok (.iconst (-1), 1) := by decide +kernel
theorem dL_agrees_97 : decode cL_agrees 97 = .ok (.if_icmp .lt 94, 3) := by decide +kernel
theorem dL_agrees_100 : decode cL_agrees 100 = .ok (.iload 9, 2) := by decide +kernel
theorem dL_agrees_102 : decode cL_agrees 102 = .ok (.iload_n 1, 1) := by decide +kernel
theorem dL_agrees_103 : decode cL_agrees 103 = .ok (.if_icmp .ge 88, 3) := by decide +kernel
theorem dL_agrees_106 : decode cL_agrees 106 = .ok (.iload 9, 2) := by decide +kernel
theorem dL_agrees_108 : decode cL_agrees 108 = .ok (.ifCond .lt 7, 3) := by decide +kernel
theorem dL_agrees_111 : decode cL_agrees 111 = .ok (.iconst 1, 1) := by decide +kernel
theorem dL_agrees_112 : decode cL_agrees 112 = .ok (.goto 4, 3) := by decide +kernel
theorem dL_agrees_115 : decode cL_agrees 115 = .ok (.iconst 0, 1) := by decide +kernel
theorem dL_agrees_116 : decode cL_agrees 116 = .ok (.iload 4, 2) := by decide +kernel
theorem dL_agrees_118 : decode cL_agrees 118 = .ok (.iload 8, 2) := by decide +kernel
theorem dL_agrees_120 : decode cL_agrees 120 = .ok (.ishr, 1) := by decide +kernel
theorem dL_agrees_121 : decode cL_agrees 121 = .ok (.iconst 1, 1) := by decide +kernel
theorem dL_agrees_122 : decode cL_agrees 122 = .ok (.iand, 1) := by decide +kernel
theorem dL_agrees_123 : decode cL_agrees 123 = .ok (.iconst 1, 1) := by decide +kernel
theorem dL_agrees_124 : decode cL_agrees 124 = .ok (.if_icmp .ne 7, 3) := by decide +kernel
theorem dL_agrees_127 : decode cL_agrees 127 = .ok (.iconst 1, 1) := by decide +kernel
theorem dL_agrees_128 : decode cL_agrees 128 = .ok (.goto 4, 3) := by decide +kernel
theorem dL_agrees_131 : decode cL_agrees 131 = .ok (.iconst 0, 1) := by decide +kernel
theorem dL_agrees_132 : decode cL_agrees 132 = .ok (.if_icmp .ne 59, 3) := by decide +kernel
theorem dL_agrees_135 : decode cL_agrees 135 = .ok (.iload 9, 2) := by decide +kernel
theorem dL_agrees_137 : decode cL_agrees 137 = .ok (.ifCond .lt 17, 3) := by decide +kernel
theorem dL_agrees_140 : decode cL_agrees 140 = .ok (.aload_n 0, 1) := by decide +kernel
theorem dL_agrees_141 : decode cL_agrees 141 = .ok (.iload 9, 2) := by decide +kernel
theorem dL_agrees_143 : decode cL_agrees 143 = .ok (.invokevirtual 71, 3) := by decide +kernel
theorem dL_agrees_146 : decode cL_agrees 146 = .ok (.iload 8, 2) := by decide +kernel
theorem dL_agrees_148 : decode cL_agrees 148 = .ok (.ishr, 1) := by decide +kernel
theorem dL_agrees_149 : decode cL_agrees 149 = .ok (.iconst 1, 1) := by decide +kernel
theorem dL_agrees_150 : decode cL_agrees 150 = .ok (.iand, 1) := by decide +kernel
theorem dL_agrees_151 : decode cL_agrees 151 = .ok (.ifCond .eq 40, 3) := by decide +kernel
theorem dL_agrees_154 : decode cL_agrees 154 = .ok (.aload_n 0, 1) := by decide +kernel
theorem dL_agrees_155 : decode cL_agrees 155 = .ok (.iload 8, 2) := by decide +kernel
theorem dL_agrees_157 : decode cL_agrees 157 = .ok (.invokevirtual 83, 3) := by decide +kernel
theorem dL_agrees_160 : decode cL_agrees 160 = .ok (.iconst 1, 1) := by decide +kernel
theorem dL_agrees_161 : decode cL_agrees 161 = .ok (.if_icmp .lt 30, 3) := by decide +kernel
theorem dL_agrees_164 : decode cL_agrees 164 = .ok (.aload_n 0, 1) := by decide +kernel
theorem dL_agrees_165 : decode cL_agrees 165 = .ok (.iload 8, 2) := by decide +kernel
theorem dL_agrees_167 : decode cL_agrees 167 = .ok (.invokevirtual 83, 3) := by decide +kernel
theorem dL_agrees_170 : decode cL_agrees 170 = .ok (.iload_n 1, 1) := by decide +kernel
theorem dL_agrees_171 : decode cL_agrees 171 = .ok (.if_icmp .gt 20, 3) := by decide +kernel
theorem dL_agrees_174 : decode cL_agrees 174 = .ok (.iload 9, 2) := by decide +kernel
theorem dL_agrees_176 : decode cL_agrees 176 = .ok (.iload 10, 2) := by decide +kernel
theorem dL_agrees_178 : decode cL_agrees 178 = .ok (.if_icmp .ne 15, 3) := by decide +kernel
theorem dL_agrees_181 : decode cL_agrees 181 = .ok (.aload_n 0, 1) := by decide +kernel
theorem dL_agrees_182 : decode cL_agrees 182 = .ok (.iload 8, 2) := by decide +kernel
theorem dL_agrees_184 : decode cL_agrees 184 = .ok (.invokevirtual 83, 3) := by decide +kernel
theorem dL_agrees_187 : decode cL_agrees 187 = .ok (.iconst 1, 1) := by decide +kernel
theorem dL_agrees_188 : decode cL_agrees 188 = .ok (.if_icmp .eq 5, 3) := by decide +kernel
theorem dL_agrees_191 : decode cL_agrees 191 = .ok (.iconst 0, 1) := by decide +kernel
theorem dL_agrees_192 : decode cL_agrees 192 = .ok (.ireturn, 1) := by decide +kernel
theorem dL_agrees_193 : decode cL_agrees 193 = .ok (.iload 5, 2) := by decide +kernel
theorem dL_agrees_195 : decode cL_agrees 195 = .ok (.iload 9, 2) := by decide +kernel
theorem dL_agrees_197 : decode cL_agrees 197 = .ok (.ifCond .ge 7, 3) := by decide +kernel
theorem dL_agrees_200 : decode cL_agrees 200 = .ok (.iconst 0, 1) := by decide +kernel
theorem dL_agrees_201 : decode cL_agrees 201 = .ok (.goto 23, 3) := by decide +kernel
theorem dL_agrees_204 : decode cL_agrees 204 = .ok (.iload 9, 2) := by decide +kernel
theorem dL_agrees_206 : decode cL_agrees 206 = .ok (.iload 10, 2) := by decide +kernel
theorem dL_agrees_208 : decode cL_agrees 208 = .ok (.if_icmp .ge 11, 3) := by decide +kernel
theorem dL_agrees_211 : decode cL_agrees 211 = .ok (.iload 10, 2) := by decide +kernel
theorem dL_agrees_213 : decode cL_agrees 213 = .ok (.iload 9, 2) := by decide +kernel
theorem dL_agrees_215 : decode cL_agrees 215 = .ok (.isub, 1) := by decide +kernel
theorem dL_agrees_216 : decode cL_agrees 216 = .ok (.goto 8, 3) := by decide +kernel
theorem dL_agrees_219 : decode cL_agrees 219 = .ok (.iload 9, 2) := by decide +kernel
theorem dL_agrees_221 : decode cL_agrees 221 = .ok (.iload 10, 2) := by decide +kernel
theorem dL_agrees_223 : decode cL_agrees 223 = .ok (.isub, 1) := by decide +kernel
theorem dL_agrees_224 : decode cL_agrees 224 = .ok (.iadd, 1) := by decide +kernel
theorem dL_agrees_225 : decode cL_agrees 225 = .ok (.istore 5, 2) := by decide +kernel
theorem dL_agrees_227 : decode cL_agrees 227 = .ok (.iload 9, 2) := by decide +kernel
theorem dL_agrees_229 : decode cL_agrees 229 = .ok (.ifCond .ge 13, 3) := by decide +kernel
theorem dL_agrees_232 : decode cL_agrees 232 = .ok (.iload 6, 2) := by decide +kernel
theorem dL_agrees_234 : decode cL_agrees 234 = .ok (.ifCond .ge 8, 3) := by decide +kernel
theorem dL_agrees_237 : decode cL_agrees 237 = .ok (.iload 8, 2) := by decide +kernel
theorem dL_agrees_239 : decode cL_agrees 239 = .ok (.goto 5, 3) := by decide +kernel
theorem dL_agrees_242 : decode cL_agrees 242 = .ok (.iload 6, 2) := by decide +kernel
theorem dL_agrees_244 : decode cL_agrees 244 = .ok (.istore 6, 2) := by decide +kernel
theorem dL_agrees_246 : decode cL_agrees 246 = .ok (.iload 7, 2) := by decide +kernel
theorem dL_agrees_248 : decode cL_agrees 248 = .ok (.iload 9, 2) := by decide +kernel
theorem dL_agrees_250 : decode cL_agrees 250 = .ok (.iload 10, 2) := by decide +kernel
theorem dL_agrees_252 : decode cL_agrees 252 = .ok (.if_icmp .ne 10, 3) := by decide +kernel
theorem dL_agrees_255 : decode cL_agrees 255 = .ok (.iconst 1, 1) := by decide +kernel
theorem dL_agrees_256 : decode cL_agrees 256 = .ok (.iload 8, 2) := by decide +kernel
theorem dL_agrees_258 : decode cL_agrees 258 = .ok (.ishl, 1) := by decide +kernel
theorem dL_agrees_259 : decode cL_agrees 259 = .ok (.goto 4, 3) := by decide +kernel
theorem dL_agrees_262 : decode cL_agrees 262 = .ok (.iconst 0, 1) := by decide +kernel
theorem dL_agrees_263 : decode cL_agrees 263 = .ok (.ior, 1) := by decide +kernel
theorem dL_agrees_264 : decode cL_agrees 264 = .ok (.istore 7, 2) := by decide +kernel
theorem dL_agrees_266 : decode cL_agrees 266 = .ok (.iinc 8 1, 3) := by decide +kernel
theorem dL_agrees_269 : decode cL_agrees 269 = .ok (.goto (-197), 3) := by decide +kernel
theorem dL_agrees_272 : decode cL_agrees 272 = .ok (.iload 4, 2) := by decide +kernel
theorem dL_agrees_274 : decode cL_agrees 274 = .ok (.iload_n 3, 1) := by decide +kernel
theorem dL_agrees_275 : decode cL_agrees 275 = .ok (.ishr, 1) := by decide +kernel
theorem dL_agrees_276 : decode cL_agrees 276 = .ok (.ifCond .ne 48, 3) := by decide +kernel
theorem dL_agrees_279 : decode cL_agrees 279 = .ok (.aload_n 0, 1) := by decide +kernel
theorem dL_agrees_280 : decode cL_agrees 280 = .ok (.invokevirtual 86, 3) := by decide +kernel
theorem dL_agrees_283 : decode cL_agrees 283 = .ok (.iload_n 3, 1) := by decide +kernel
theorem dL_agrees_284 : decode cL_agrees 284 = .ok (.iload 4, 2) := by decide +kernel
theorem dL_agrees_286 : decode cL_agrees 286 = .ok (.invokestatic 74, 3) := by decide +kernel
theorem dL_agrees_289 : decode cL_agrees 289 = .ok (.isub, 1) := by decide +kernel
theorem dL_agrees_290 : decode cL_agrees 290 = .ok (.if_icmp .ne 34, 3) := by decide +kernel
theorem dL_agrees_293 : decode cL_agrees 293 = .ok (.aload_n 0, 1) := by decide +kernel
theorem dL_agrees_294 : decode cL_agrees 294 = .ok (.invokevirtual 89, 3) := by decide +kernel
theorem dL_agrees_297 : decode cL_agrees 297 = .ok (.iload 6, 2) := by decide +kernel
theorem dL_agrees_299 : decode cL_agrees 299 = .ok (.if_icmp .ne 25, 3) := by decide +kernel
theorem dL_agrees_302 : decode cL_agrees 302 = .ok (.aload_n 0, 1) := by decide +kernel
theorem dL_agrees_303 : decode cL_agrees 303 = .ok (.invokevirtual 92, 3) := by decide +kernel
theorem dL_agrees_306 : decode cL_agrees 306 = .ok (.iload 7, 2) := by decide +kernel
theorem dL_agrees_308 : decode cL_agrees 308 = .ok (.if_icmp .ne 16, 3) := by decide +kernel
theorem dL_agrees_311 : decode cL_agrees 311 = .ok (.aload_n 0, 1) := by decide +kernel
theorem dL_agrees_312 : decode cL_agrees 312 = .ok (.invokevirtual 95, 3) := by decide +kernel
theorem dL_agrees_315 : decode cL_agrees 315 = .ok (.iload 5, 2) := by decide +kernel
theorem dL_agrees_317 : decode cL_agrees 317 = .ok (.if_icmp .ne 7, 3) := by decide +kernel
theorem dL_agrees_320 : decode cL_agrees 320 = .ok (.iconst 1, 1) := by decide +kernel
theorem dL_agrees_321 : decode cL_agrees 321 = .ok (.goto 4, 3) := by decide +kernel
theorem dL_agrees_324 : decode cL_agrees 324 = .ok (.iconst 0, 1) := by decide +kernel
theorem dL_agrees_325 : decode cL_agrees 325 = .ok (.ireturn, 1) := by decide +kernel
set_option maxRecDepth 20000 in
theorem ggL_counts_L_counted : GoodIn wsL_counts wsL_counted := goodIn_ca (goodIn_ca (goodIn_r _ [4, 5, 6, 7, 8, 9, 10, 11, 12, 13, 14, 15, 16, 17, 18, 19, 20, 21, 22, 23, 24, 25, 26, 27, 28, 29, 30, 31, 32, 33, 34, 35, 36, 37, 38, 39, 40, 41, 42, 43, 44, 45, 46, 47, 48, 49, 50, 51, 52, 53, 54, 55, 56, 57, 58, 59, 60, 61, 62, 63, 64, 65, 66, 67, 68, 69, 70, 71, 72, 73, 74, 75, 76, 77, 78, 79, 80, 81, 82, 83, 84, 85, 86, 87, 88, 89, 90, 91, 92, 93, 94, 95, 96, 97, 98, 99, 100, 101, 102, 103, 104, 105, 106, 107, 108, 109, 110, 111, 112, 113, 114, 115, 116, 117, 118, 119, 120, 121, 122, 123, 124, 125, 126, 127, 128, 129, 130, 131, 132, 133, 134, 135, 136, 145, 146, 147, 148, 149, 150, 151, 152, 153, 154, 155, 156, 157, 158, 159, 160, 161, 162, 163, 164, 165, 166, 167, 168, 169, 170, 171] (by decide +kernel) (by decide +kernel)) (goodIn_sub (fun _ h => List.mem_cons_of_mem _ (List.mem_append_left _ (List.mem_append_right _ h))) (by decide +kernel))) (goodIn_sub (fun _ h => List.mem_cons_of_mem _ (List.mem_append_right _ h)) (by decide +kernel))
set_option maxRecDepth 20000 in
theorem gL_counts_L_counted : GoodIn wsL_counts (va_wsS RL 58 yL_counted wsL_counted) := goodIn_app (goodIn_of _ (by decide +kernel)) ggL_counts_L_counted
set_option maxRecDepth 20000 in
theorem ggL_counts_X6_countLucky : GoodIn wsL_counts wsX6_countLucky := goodIn_ca (goodIn_ca (goodIn_r _ [140, 12, 13, 10, 14, 15, 16, 17, 18, 19, 20, 21, 22, 23, 24, 25, 26, 27, 28, 29, 30, 31, 32, 33, 34, 35, 36, 37, 38, 39, 40, 41, 42, 43, 44, 45, 46, 47, 48, 49, 50, 51, 52, 53, 54, 55, 56, 57, 58, 59, 60, 61, 62, 63, 64, 65, 66, 67, 68, 69, 70, 71, 72, 73, 74, 75, 76, 77, 78, 79, 80, 81, 82, 83, 84, 85, 86, 87, 88, 89, 90, 91, 92, 93, 94, 95, 96, 97, 98, 99, 100, 101, 102, 103, 104, 105, 106, 107, 108, 109, 110, 111, 112, 113, 114, 115, 116, 117, 118, 119, 120, 121, 122, 123, 124, 125, 126, 127, 128, 129, 130, 131, 132, 133, 134, 135, 136, 145, 146, 147, 148, 149, 150, 151, 152, 153, 154, 155, 156, 157, 158, 159, 160, 161, 162, 163, 164, 165, 166, 167, 168, 169, 170, 171] (by decide +kernel) (by decide +kernel)) (goodIn_sub (fun _ h => List.mem_cons_of_mem _ (List.mem_append_left _ (List.mem_append_right _ h))) (by decide +kernel))) (goodIn_sub (fun _ h => List.mem_cons_of_mem _ (List.mem_append_right _ h)) (by decide +kernel))
set_option maxRecDepth 20000 in
theorem gL_counts_X6_countLucky : GoodIn wsL_counts (wsV RL 98 RX6 yX6_countLucky wsX6_countLucky) := goodIn_app (goodIn_of _ (by decide +kernel)) ggL_counts_X6_countLucky
set_option maxRecDepth 20000 in
theorem ggL_counts_X6_countSum : GoodIn wsL_counts wsX6_countSum := goodIn_ca (goodIn_ca (goodIn_r _ [144, 12, 13, 10, 14, 15, 16, 17, 18, 19, 20, 21, 22, 23, 24, 25, 26, 27, 28, 29, 30, 31, 32, 33, 34, 35, 36, 37, 38, 39, 40, 41, 42, 43, 44, 45, 46, 47, 48, 49, 50, 51, 52, 53, 54, 55, 56, 57, 58, 59, 60, 61, 62, 63, 64, 65, 66, 67, 68, 69, 70, 71, 72, 73, 74, 75, 76, 77, 78, 79, 80, 81, 82, 83, 84, 85, 86, 87, 88, 89, 90, 91, 92, 93, 94, 95, 96, 97, 98, 99, 100, 101, 102, 103, 104, 105, 106, 107, 108, 109, 110, 111, 112, 113, 114, 115, 116, 117, 118, 119, 120, 121, 122, 123, 124, 125, 126, 127, 128, 129, 130, 131, 132, 133, 134, 135, 136, 145, 146, 147, 148, 149, 150, 151, 152, 153, 154, 155, 156, 157, 158, 159, 160, 161, 162, 163, 164, 165, 166, 167, 168, 169, 170, 171] (by decide +kernel) (by decide +kernel)) (goodIn_sub (fun _ h => List.mem_cons_of_mem _ (List.mem_append_left _ (List.mem_append_right _ h))) (by decide +kernel))) (goodIn_sub (fun _ h => List.mem_cons_of_mem _ (List.mem_append_right _ h)) (by decide +kernel))
set_option maxRecDepth 20000 in
theorem gL_counts_X6_countSum : GoodIn wsL_counts (wsV RL 101 RX6 yX6_countSum wsX6_countSum) := goodIn_app (goodIn_of _ (by decide +kernel)) ggL_counts_X6_countSum
theorem dL_counts_0 : decode cL_counts 0 = .ok (.iconst 0, 1) := by decide +kernel
theorem dL_counts_1 : decode cL_counts 1 = .ok (.istore_n 3, 1) := by decide +kernel
theorem dL_counts_2 : decode cL_counts 2 = .ok (.aload_n 0, 1) := by decide +kernel
theorem dL_counts_3 : decode cL_counts 3 = .ok (.iload_n 2, 1) := by decide +kernel
theorem dL_counts_4 : decode cL_counts 4 = .ok (.iconst 0, 1) := by decide +kernel
theorem dL_counts_5 : decode cL_counts 5 = .ok (.invokestatic 58, 3) := by decide +kernel
theorem dL_counts_8 : decode cL_counts 8 = .ok (.istore 4, 2) := by decide +kernel
theorem dL_counts_10 : decode cL_counts 10 = .ok (.iconst 0, 1) := by decide +kernel
theorem dL_counts_11 : decode cL_counts 11 = .ok (.istore 5, 2) := by decide +kernel
theorem dL_counts_13 : decode cL_counts 13 = .ok (.iload 5, 2) := by decide +kernel
theorem dL_counts_15 : decode cL_counts 15 = .ok (.bipush 10, 2) := by decide +kernel
theorem dL_counts_17 : decode cL_counts 17 = .ok (.if_icmp .ge 19, 3) := by decide +kernel
theorem dL_counts_20 : decode cL_counts 20 = .ok (.iload_n 3, 1) := by decide +kernel
theorem dL_counts_21 : decode cL_counts 21 = .ok (.aload_n 0, 1) := by decide +kernel
theorem dL_counts_22 : decode cL_counts 22 = .ok (.iload_n 2, 1) := by decide +kernel
theorem dL_counts_23 : decode cL_counts 23 = .ok (.iload 5, 2) := by decide +kernel
theorem dL_counts_25 : decode cL_counts 25 = .ok (.invokestatic 58, 3) := by decide +kernel
theorem dL_counts_28 : decode cL_counts 28 = .ok (.iadd, 1) := by decide +kernel
theorem dL_counts_29 : decode cL_counts 29 = .ok (.istore_n 3, 1) := by decide +kernel
theorem dL_counts_30 : decode cL_counts 30 = .ok (.iinc 5 1, 3) := by decide +kernel
theorem dL_counts_33 : decode cL_counts 33 = .ok (.goto (-20), 3) := by decide +kernel
theorem dL_counts_36 : decode cL_counts 36 = .ok (.iconst 0, 1) := by decide +kernel
theorem dL_counts_37 : decode cL_counts 37 = .ok (.istore 5, 2) := by decide +kernel
theorem dL_counts_39 : decode cL_counts 39 = .ok (.iconst 0, 1) := by decide +kernel
theorem dL_counts_40 : decode cL_counts 40 = .ok (.istore 6, 2) := by decide +kernel
theorem dL_counts_42 : decode cL_counts 42 = .ok (.iconst 0, 1) := by decide +kernel
theorem dL_counts_43 : decode cL_counts 43 = .ok (.istore 7, 2) := by decide +kernel
theorem dL_counts_45 : decode cL_counts 45 = .ok (.iload 7, 2) := by decide +kernel
theorem dL_counts_47 : decode cL_counts 47 = .ok (.bipush 10, 2) := by decide +kernel
theorem dL_counts_49 : decode cL_counts 49 = .ok (.if_icmp .ge 21, 3) := by decide +kernel
theorem dL_counts_52 : decode cL_counts 52 = .ok (.iload 5, 2) := by decide +kernel
theorem dL_counts_54 : decode cL_counts 54 = .ok (.aload_n 0, 1) := by decide +kernel
theorem dL_counts_55 : decode cL_counts 55 = .ok (.iload_n 2, 1) := by decide +kernel
theorem dL_counts_56 : decode cL_counts 56 = .ok (.iload 7, 2) := by decide +kernel
theorem dL_counts_58 : decode cL_counts 58 = .ok (.invokevirtual 98, 3) := by decide +kernel
theorem dL_counts_61 : decode cL_counts 61 = .ok (.iadd, 1) := by decide +kernel
theorem dL_counts_62 : decode cL_counts 62 = .ok (.istore 5, 2) := by decide +kernel
theorem dL_counts_64 : decode cL_counts 64 = .ok (.iinc 7 1, 3) := by decide +kernel
theorem dL_counts_67 : decode cL_counts 67 = .ok (.goto (-22), 3) := by decide +kernel
theorem dL_counts_70 : decode cL_counts 70 = .ok (.iconst 0, 1) := by decide +kernel
theorem dL_counts_71 : decode cL_counts 71 = .ok (.istore 7, 2) := by decide +kernel
theorem dL_counts_73 : decode cL_counts 73 = .ok (.iload 7, 2) := by decide +kernel
theorem dL_counts_75 : decode cL_counts 75 = .ok (.bipush 64, 2) := by decide +kernel
theorem dL_counts_77 : decode cL_counts 77 = .ok (.if_icmp .ge 21, 3) := by decide +kernel
theorem dL_counts_80 : decode cL_counts 80 = .ok (.iload 6, 2) := by decide +kernel
theorem dL_counts_82 : decode cL_counts 82 = .ok (.aload_n 0, 1) := by decide +kernel
theorem dL_counts_83 : decode cL_counts 83 = .ok (.iload_n 2, 1) := by decide +kernel
theorem dL_counts_84 : decode cL_counts 84 = .ok (.iload 7, 2) := by decide +kernel
theorem dL_counts_86 : decode cL_counts 86 = .ok (.invokevirtual 101, 3) := by decide +kernel
theorem dL_counts_89 : decode cL_counts 89 = .ok (.iadd, 1) := by decide +kernel
theorem dL_counts_90 : decode cL_counts 90 = .ok (.istore 6, 2) := by decide +kernel
theorem dL_counts_92 : decode cL_counts 92 = .ok (.iinc 7 1, 3) := by decide +kernel
theorem dL_counts_95 : decode cL_counts 95 = .ok (.goto (-22), 3) := by decide +kernel
theorem dL_counts_98 : decode cL_counts 98 = .ok (.iconst 1, 1) := by decide +kernel
theorem dL_counts_99 : decode cL_counts 99 = .ok (.istore 7, 2) := by decide +kernel
theorem dL_counts_101 : decode cL_counts 101 = .ok (.iconst 0, 1) := by decide +kernel
theorem dL_counts_102 : decode cL_counts 102 = .ok (.istore 8, 2) := by decide +kernel
theorem dL_counts_104 : decode cL_counts 104 = .ok (.iload 8, 2) := by decide +kernel
theorem dL_counts_106 : decode cL_counts 106 = .ok (.iload_n 2, 1) := by decide +kernel
theorem dL_counts_107 : decode cL_counts 107 = .ok (.if_icmp .ge 15, 3) := by decide +kernel
theorem dL_counts_110 : decode cL_counts 110 = .ok (.iload 7, 2) := by decide +kernel
theorem dL_counts_112 : decode cL_counts 112 = .ok (.iload_n 1, 1) := by decide +kernel
theorem dL_counts_113 : decode cL_counts 113 = .ok (.imul, 1) := by decide +kernel
theorem dL_counts_114 : decode cL_counts 114 = .ok (.istore 7, 2) := by decide +kernel
theorem dL_counts_116 : decode cL_counts 116 = .ok (.iinc 8 1, 3) := by decide +kernel
theorem dL_counts_119 : decode cL_counts 119 = .ok (.goto (-15), 3) := by decide +kernel
theorem dL_counts_122 : decode cL_counts 122 = .ok (.iload_n 3, 1) := by decide +kernel
theorem dL_counts_123 : decode cL_counts 123 = .ok (.iload 7, 2) := by decide +kernel
theorem dL_counts_125 : decode cL_counts 125 = .ok (.if_icmp .ne 21, 3) := by decide +kernel
theorem dL_counts_128 : decode cL_counts 128 = .ok (.iload 5, 2) := by decide +kernel
theorem dL_counts_130 : decode cL_counts 130 = .ok (.iload 4, 2) := by decide +kernel
theorem dL_counts_132 : decode cL_counts 132 = .ok (.if_icmp .ne 14, 3) := by decide +kernel
theorem dL_counts_135 : decode cL_counts 135 = .ok (.iload 6, 2) := by decide +kernel
theorem dL_counts_137 : decode cL_counts 137 = .ok (.iload 4, 2) := by decide +kernel
theorem dL_counts_139 : decode cL_counts 139 = .ok (.if_icmp .ne 7, 3) := by decide +kernel
theorem dL_counts_142 : decode cL_counts 142 = .ok (.iconst 1, 1) := by decide +kernel
theorem dL_counts_143 : decode cL_counts 143 = .ok (.goto 4, 3) := by decide +kernel
theorem dL_counts_146 : decode cL_counts 146 = .ok (.iconst 0, 1) := by decide +kernel
theorem dL_counts_147 : decode cL_counts 147 = .ok (.ireturn, 1) := by decide +kernel
set_option maxRecDepth 20000 in
theorem ggL_ranks_X6_fingerprint : GoodIn wsL_ranks wsX6_fingerprint := goodIn_r _ [5, 6, 7, 8, 9, 10, 11, 12, 13, 14, 15, 16, 17, 4, 18, 19, 20, 21, 22, 23, 24, 25, 26, 27, 28, 29, 30, 31, 32, 33, 34, 35, 36, 37, 38, 39, 40, 41, 42, 43, 44, 45, 46, 47, 48, 49, 50, 51, 52, 53, 54, 55, 56, 57, 58, 59, 60, 61, 62, 63, 64, 65, 66, 67, 68, 69, 70, 71, 72, 73, 74, 75, 76, 77, 78, 79, 80, 81, 82, 83, 84, 85, 86, 87, 253, 254, 255, 256, 257, 258, 259, 260, 261, 262, 263, 264, 265, 266, 267, 268, 269, 270, 271, 272, 273, 274, 275, 276, 277] (by decide +kernel) (by decide +kernel)
set_option maxRecDepth 20000 in
theorem gL_ranks_X6_fingerprint : GoodIn wsL_ranks (wsV RL 44 RX6 yX6_fingerprint wsX6_fingerprint) := goodIn_app (goodIn_of _ (by decide +kernel)) ggL_ranks_X6_fingerprint
set_option maxRecDepth 20000 in
theorem ggL_ranks_L_counted : GoodIn wsL_ranks wsL_counted := goodIn_ca (goodIn_ca (goodIn_r _ [91, 92, 93, 94, 95, 96, 4, 97, 98, 99, 100, 101, 102, 103, 104, 105, 106, 107, 108, 109, 12, 110, 111, 112, 113, 114, 7, 115, 116, 117, 118, 119, 120, 121, 122, 123, 124, 8, 19, 20, 21, 22, 23, 24, 25, 26, 27, 28, 29, 30, 31, 32, 33, 125, 126, 127, 128, 129, 130, 131, 132, 133, 134, 135, 136, 137, 138, 139, 140, 141, 142, 143, 144, 145, 146, 147, 148, 149, 34, 35, 36, 37, 38, 39, 40, 41, 42, 43, 44, 45, 46, 47, 48, 49, 50, 51, 52, 53, 54, 55, 56, 57, 58, 59, 60, 150, 151, 152, 153, 154, 155, 156, 157, 158, 159, 160, 161, 162, 163, 164, 165, 166, 167, 168, 169, 170, 171, 172, 173, 174, 175, 176, 177, 253, 254, 255, 256, 257, 258, 259, 260, 261, 262, 268, 269, 270, 271, 272, 273, 274, 275, 276, 277, 263, 264, 265, 266, 267, 278, 279] (by decide +kernel) (by decide +kernel)) (goodIn_sub (fun _ h => List.mem_cons_of_mem _ (List.mem_append_left _ (List.mem_append_left _ (List.mem_append_right _ h)))) (by decide +kernel))) (goodIn_sub (fun _ h => List.mem_cons_of_mem _ (List.mem_append_left _ (List.mem_append_right _ h))) (by decide +kernel))
set_option maxRecDepth 20000 in
theorem gL_ranks_L_counted : GoodIn wsL_ranks (va_wsS RL 58 yL_counted wsL_counted) := goodIn_app (goodIn_of _ (by decide +kernel)) ggL_ranks_L_counted
set_option maxRecDepth 20000 in
theorem ggL_ranks_L_ranked : GoodIn wsL_ranks wsL_ranked := goodIn_ca (goodIn_ca (goodIn_r _ [180, 92, 93, 181, 182, 183, 4, 184, 12, 8, 185, 11, 186, 10, 98, 99, 100, 101, 102, 103, 104, 105, 106, 107, 108, 109, 110, 111, 112, 113, 114, 7, 115, 116, 117, 118, 119, 120, 121, 122, 123, 124, 19, 20, 21, 22, 23, 24, 25, 26, 27, 28, 29, 30, 31, 32, 33, 125, 126, 127, 128, 129, 130, 131, 132, 133, 134, 135, 136, 137, 138, 139, 140, 141, 142, 143, 144, 145, 146, 147, 148, 149, 34, 35, 36, 37, 38, 39, 40, 41, 42, 43, 44, 45, 46, 47, 48, 49, 50, 51, 52, 53, 54, 55, 56, 57, 58, 59, 60, 150, 151, 152, 153, 154, 155, 156, 157, 158, 159, 160, 161, 162, 163, 164, 165, 166, 167, 168, 169, 170, 171, 172, 173, 174, 175, 176, 177, 187, 188, 189, 190, 191, 192, 193, 194, 195, 196, 197, 198, 199, 200, 201, 202, 203, 204, 68, 205, 206, 207, 208, 209, 210, 211, 212, 70, 71, 253, 254, 255, 256, 257, 258, 259, 260, 261, 262, 263, 264, 265, 266, 267, 268, 269, 270, 271, 272, 273, 274, 275, 276, 277, 278, 279, 280, 281] (by decide +kernel) (by decide +kernel)) (goodIn_sub (fun _ h => List.mem_cons_of_mem _ (List.mem_append_left _ (List.mem_append_left _ (List.mem_append_right _ h)))) (by decide +kernel))) (goodIn_sub (fun _ h => List.mem_cons_of_mem _ (List.mem_append_left _ (List.mem_append_right _ h))) (by decide +kernel))
set_option maxRecDepth 20000 in
theorem gL_ranks_L_ranked : GoodIn wsL_ranks (va_wsS RL 54 yL_ranked wsL_ranked) := goodIn_app (goodIn_of _ (by decide +kernel)) ggL_ranks_L_ranked
set_option maxRecDepth 20000 in
theorem ggL_ranks_X6_preference : GoodIn wsL_ranks wsX6_preference := goodIn_ca (goodIn_r _ [216, 8, 10, 11, 217, 218, 4, 219, 220, 221, 253, 254, 255, 256, 257, 258, 259, 260, 261, 262, 263, 264, 265, 266, 267] (by decide +kernel) (by decide +kernel)) (goodIn_sub (fun _ h => List.mem_cons_of_mem _ (List.mem_append_right _ h)) (by decide +kernel))
set_option maxRecDepth 20000 in
theorem gL_ranks_X6_preference : GoodIn wsL_ranks (wsV RL 80 RX6 yX6_preference wsX6_preference) := goodIn_app (goodIn_of _ (by decide +kernel)) ggL_ranks_X6_preference
set_option maxRecDepth 20000 in
theorem ggL_ranks_X6_cars : GoodIn wsL_ranks wsX6_cars := goodIn_r _ [225, 8, 10, 253, 254, 255, 256, 257, 258, 259, 260, 261, 262, 263, 264, 265, 266, 267] (by decide +kernel) (by decide +kernel)
set_option maxRecDepth 20000 in
theorem gL_ranks_X6_cars : GoodIn wsL_ranks (wsV RL 64 RX6 yX6_cars wsX6_cars) := goodIn_app (goodIn_of _ (by decide +kernel)) ggL_ranks_X6_cars
set_option maxRecDepth 20000 in
theorem ggL_ranks_X6_defect : GoodIn wsL_ranks wsX6_defect := goodIn_r _ [229, 12, 15, 16, 17, 4, 18, 8, 10, 11, 19, 20, 21, 22, 23, 24, 25, 26, 27, 28, 29, 30, 31, 32, 33, 34, 35, 36, 37, 38, 39, 40, 41, 42, 43, 44, 45, 46, 47, 48, 49, 50, 51, 52, 53, 54, 55, 56, 57, 58, 59, 60, 72, 73, 74, 75, 253, 254, 255, 256, 257, 258, 259, 260, 261, 262, 263, 264, 265, 266, 267, 268, 269, 270, 271, 272, 273, 274, 275, 276, 277] (by decide +kernel) (by decide +kernel)
set_option maxRecDepth 20000 in
theorem gL_ranks_X6_defect : GoodIn wsL_ranks (wsV RL 86 RX6 yX6_defect wsX6_defect) := goodIn_app (goodIn_of _ (by decide +kernel)) ggL_ranks_X6_defect
set_option maxRecDepth 20000 in
theorem ggL_ranks_L_rank : GoodIn wsL_ranks wsL_rank := goodIn_ca (goodIn_r _ [232, 93, 233, 234, 235, 4, 236, 8, 10, 11, 12, 111, 112, 113, 114, 7, 115, 116, 117, 118, 119, 120, 121, 122, 123, 124, 110, 19, 20, 21, 22, 23, 24, 25, 26, 27, 28, 29, 30, 31, 32, 33, 125, 126, 127, 128, 129, 130, 131, 132, 133, 134, 135, 237, 238, 239, 240, 34, 35, 36, 37, 38, 39, 40, 41, 42, 43, 44, 45, 46, 47, 48, 49, 50, 51, 52, 53, 54, 55, 56, 57, 58, 59, 60, 136, 137, 138, 139, 140, 141, 142, 143, 144, 145, 146, 147, 148, 149, 150, 151, 152, 153, 154, 155, 156, 157, 158, 159, 160, 161, 162, 163, 164, 165, 166, 167, 168, 169, 170, 171, 172, 173, 174, 175, 176, 177, 253, 254, 255, 256, 257, 258, 259, 260, 261, 262, 263, 264, 265, 266, 267, 268, 269, 270, 271, 272, 273, 274, 275, 276, 277, 278, 279] (by decide +kernel) (by decide +kernel)) (goodIn_sub (fun _ h => List.mem_cons_of_mem _ (List.mem_append_left _ (List.mem_append_right _ h))) (by decide +kernel))
set_option maxRecDepth 20000 in
theorem gL_ranks_L_rank : GoodIn wsL_ranks (va_wsS RL 104 yL_rank wsL_rank) := goodIn_app (goodIn_of _ (by decide +kernel)) ggL_ranks_L_rank
set_option maxRecDepth 20000 in
theorem ggL_ranks_L_undone : GoodIn wsL_ranks wsL_undone := goodIn_ca (goodIn_r _ [243, 93, 244, 245, 246, 4, 247, 185, 248, 8, 116, 117, 118, 119, 120, 249, 250, 251, 194, 252, 196, 197, 202, 203, 204, 68, 205, 206, 207, 208, 209, 210, 211, 212, 70, 71, 253, 254, 255, 256, 257, 258, 259, 260, 261, 262, 280, 281, 263, 264, 265, 266, 267] (by decide +kernel) (by decide +kernel)) (goodIn_sub (fun _ h => List.mem_cons_of_mem _ (List.mem_append_left _ (List.mem_append_right _ h))) (by decide +kernel))
set_option maxRecDepth 20000 in
theorem gL_ranks_L_undone : GoodIn wsL_ranks (va_wsS RL 106 yL_undone wsL_undone) := goodIn_app (goodIn_of _ (by decide +kernel)) ggL_ranks_L_undone
theorem dL_ranks_0 : decode cL_ranks 0 = .ok (.aload_n 0, 1) := by decide +kernel
theorem dL_ranks_1 : decode cL_ranks 1 = .ok (.invokevirtual 44, 3) := by decide +kernel
theorem dL_ranks_4 : decode cL_ranks 4 = .ok (.lstore_n 3, 1) := by decide +kernel
theorem dL_ranks_5 : decode cL_ranks 5 = .ok (.aload_n 0, 1) := by decide +kernel
theorem dL_ranks_6 : decode cL_ranks 6 = .ok (.iload_n 1, 1) := by decide +kernel
theorem dL_ranks_7 : decode cL_ranks 7 = .ok (.iconst 0, 1) := by decide +kernel
theorem dL_ranks_8 : decode cL_ranks 8 = .ok (.invokestatic 58, 3) := by decide +kernel
theorem dL_ranks_11 : decode cL_ranks 11 = .ok (.istore 5, 2) := by decide +kernel
theorem dL_ranks_13 : decode cL_ranks 13 = .ok (.iload 5, 2) := by decide +kernel
theorem dL_ranks_15 : decode cL_ranks 15 = .ok (.iload_n 2, 1) := by decide +kernel
theorem dL_ranks_16 : decode cL_ranks 16 = .ok (.if_icmp .gt 29, 3) := by decide +kernel
theorem dL_ranks_19 : decode cL_ranks 19 = .ok (.aload_n 0, 1) := by decide +kernel
theorem dL_ranks_20 : decode cL_ranks 20 = .ok (.iload_n 1, 1) := by decide +kernel
theorem dL_ranks_21 : decode cL_ranks 21 = .ok (.iload_n 2, 1) := by decide +kernel
theorem dL_ranks_22 : decode cL_ranks 22 = .ok (.invokestatic 54, 3) := by decide +kernel
theorem dL_ranks_25 : decode cL_ranks 25 = .ok (.bipush (-2), 2) := by decide +kernel
theorem dL_ranks_27 : decode cL_ranks 27 = .ok (.if_icmp .ne 16, 3) := by decide +kernel
theorem dL_ranks_30 : decode cL_ranks 30 = .ok (.aload_n 0, 1) := by decide +kernel
theorem dL_ranks_31 : decode cL_ranks 31 = .ok (.invokevirtual 44, 3) := by decide +kernel
theorem dL_ranks_34 : decode cL_ranks 34 = .ok (.lload_n 3, 1) := by decide +kernel
theorem dL_ranks_35 : decode cL_ranks 35 = .ok (.lcmp, 1) := by decide +kernel
theorem dL_ranks_36 : decode cL_ranks 36 = .ok (.ifCond .ne 7, 3) := by decide +kernel
theorem dL_ranks_39 : decode cL_ranks 39 = .ok (.iconst 1, 1) := by decide +kernel
theorem dL_ranks_40 : decode cL_ranks 40 = .ok (.goto 4, 3) := by decide +kernel
theorem dL_ranks_43 : decode cL_ranks 43 = .ok (.iconst 0, 1) := by decide +kernel
theorem dL_ranks_44 : decode cL_ranks 44 = .ok (.ireturn, 1) := by decide +kernel
theorem dL_ranks_45 : decode cL_ranks 45 = .ok (.aload_n 0, 1) := by decide +kernel
theorem dL_ranks_46 : decode cL_ranks 46 = .ok (.iload_n 1, 1) := by decide +kernel
theorem dL_ranks_47 : decode cL_ranks 47 = .ok (.iload_n 2, 1) := by decide +kernel
theorem dL_ranks_48 : decode cL_ranks 48 = .ok (.invokestatic 54, 3) := by decide +kernel
theorem dL_ranks_51 : decode cL_ranks 51 = .ok (.istore 6, 2) := by decide +kernel
theorem dL_ranks_53 : decode cL_ranks 53 = .ok (.iconst 0, 1) := by decide +kernel
theorem dL_ranks_54 : decode cL_ranks 54 = .ok (.istore 7, 2) := by decide +kernel
theorem dL_ranks_56 : decode cL_ranks 56 = .ok (.iconst 0, 1) := by decide +kernel
theorem dL_ranks_57 : decode cL_ranks 57 = .ok (.istore 8, 2) := by decide +kernel
theorem dL_ranks_59 : decode cL_ranks 59 = .ok (.iload 8, 2) := by decide +kernel
theorem dL_ranks_61 : decode cL_ranks 61 = .ok (.iload_n 1, 1) := by decide +kernel
theorem dL_ranks_62 : decode cL_ranks 62 = .ok (.if_icmp .ge 20, 3) := by decide +kernel
theorem dL_ranks_65 : decode cL_ranks 65 = .ok (.iload 7, 2) := by decide +kernel
theorem dL_ranks_67 : decode cL_ranks 67 = .ok (.aload_n 0, 1) := by decide +kernel
theorem dL_ranks_68 : decode cL_ranks 68 = .ok (.iload 8, 2) := by decide +kernel
theorem dL_ranks_70 : decode cL_ranks 70 = .ok (.invokevirtual 80, 3) := by decide +kernel
theorem dL_ranks_73 : decode cL_ranks 73 = .ok (.iadd, 1) := by decide +kernel
theorem dL_ranks_74 : decode cL_ranks 74 = .ok (.istore 7, 2) := by decide +kernel
theorem dL_ranks_76 : decode cL_ranks 76 = .ok (.iinc 8 1, 3) := by decide +kernel
theorem dL_ranks_79 : decode cL_ranks 79 = .ok (.goto (-20), 3) := by decide +kernel
theorem dL_ranks_82 : decode cL_ranks 82 = .ok (.iload 6, 2) := by decide +kernel
theorem dL_ranks_84 : decode cL_ranks 84 = .ok (.iload 7, 2) := by decide +kernel
theorem dL_ranks_86 : decode cL_ranks 86 = .ok (.if_icmp .ne 46, 3) := by decide +kernel
theorem dL_ranks_89 : decode cL_ranks 89 = .ok (.aload_n 0, 1) := by decide +kernel
theorem dL_ranks_90 : decode cL_ranks 90 = .ok (.invokevirtual 64, 3) := by decide +kernel
theorem dL_ranks_93 : decode cL_ranks 93 = .ok (.iload_n 1, 1) := by decide +kernel
theorem dL_ranks_94 : decode cL_ranks 94 = .ok (.if_icmp .ne 38, 3) := by decide +kernel
theorem dL_ranks_97 : decode cL_ranks 97 = .ok (.aload_n 0, 1) := by decide +kernel
theorem dL_ranks_98 : decode cL_ranks 98 = .ok (.invokevirtual 86, 3) := by decide +kernel
theorem dL_ranks_101 : decode cL_ranks 101 = .ok (.ifCond .ne 31, 3) := by decide +kernel
theorem dL_ranks_104 : decode cL_ranks 104 = .ok (.aload_n 0, 1) := by decide +kernel
theorem dL_ranks_105 : decode cL_ranks 105 = .ok (.invokestatic 104, 3) := by decide +kernel
theorem dL_ranks_108 : decode cL_ranks 108 = .ok (.iload_n 2, 1) := by decide +kernel
theorem dL_ranks_109 : decode cL_ranks 109 = .ok (.if_icmp .ne 23, 3) := by decide +kernel
theorem dL_ranks_112 : decode cL_ranks 112 = .ok (.aload_n 0, 1) := by decide +kernel
theorem dL_ranks_113 : decode cL_ranks 113 = .ok (.invokestatic 106, 3) := by decide +kernel
theorem dL_ranks_116 : decode cL_ranks 116 = .ok (.ifCond .lt 16, 3) := by decide +kernel
theorem dL_ranks_119 : decode cL_ranks 119 = .ok (.aload_n 0, 1) := by decide +kernel
theorem dL_ranks_120 : decode cL_ranks 120 = .ok (.invokevirtual 44, 3) := by decide +kernel
theorem dL_ranks_123 : decode cL_ranks 123 = .ok (.lload_n 3, 1) := by decide +kernel
theorem dL_ranks_124 : decode cL_ranks 124 = .ok (.lcmp, 1) := by decide +kernel
theorem dL_ranks_125 : decode cL_ranks 125 = .ok (.ifCond .ne 7, 3) := by decide +kernel
theorem dL_ranks_128 : decode cL_ranks 128 = .ok (.iconst 1, 1) := by decide +kernel
theorem dL_ranks_129 : decode cL_ranks 129 = .ok (.goto 4, 3) := by decide +kernel
theorem dL_ranks_132 : decode cL_ranks 132 = .ok (.iconst 0, 1) := by decide +kernel
theorem dL_ranks_133 : decode cL_ranks 133 = .ok (.ireturn, 1) := by decide +kernel
set_option maxRecDepth 20000 in
theorem ggL_arranges_X6_cars : GoodIn wsL_arranges wsX6_cars := goodIn_r _ [5, 6, 7, 201, 202, 203, 204, 205, 206, 207, 208, 209, 210, 211, 212, 213, 214, 215] (by decide +kernel) (by decide +kernel)
set_option maxRecDepth 20000 in
theorem gL_arranges_X6_cars : GoodIn wsL_arranges (wsV RL 64 RX6 yX6_cars wsX6_cars) := goodIn_app (goodIn_of _ (by decide +kernel)) ggL_arranges_X6_cars
set_option maxRecDepth 20000 in
theorem ggL_arranges_L_removed : GoodIn wsL_arranges wsL_removed := goodIn_ca (goodIn_r _ [11, 12, 13, 14, 15, 4, 16, 6, 7, 17, 18, 19, 20, 21, 22, 23, 24, 25, 26, 27, 28, 29, 30, 31, 32, 33, 34, 35, 36, 37, 38, 39, 40, 41, 42, 43, 44, 45, 46, 47, 201, 202, 203, 204, 205, 206, 207, 208, 209, 210, 211, 212, 213, 214, 215, 216, 217] (by decide +kernel) (by decide +kernel)) (goodIn_sub (fun _ h => List.mem_cons_of_mem _ (List.mem_append_right _ h)) (by decide +kernel))
set_option maxRecDepth 20000 in
theorem gL_arranges_L_removed : GoodIn wsL_arranges (va_wsS RL 109 yL_removed wsL_removed) := goodIn_app (goodIn_of _ (by decide +kernel)) ggL_arranges_L_removed
set_option maxRecDepth 20000 in
theorem ggL_arranges_X6_arrangements : GoodIn wsL_arranges wsX6_arrangements := goodIn_r _ [51, 52, 6, 53, 54, 55, 37, 56, 57, 58, 59, 60, 45, 44, 201, 202, 203, 204, 205, 206, 207, 208, 209, 210, 211, 212, 213, 214, 215] (by decide +kernel) (by decide +kernel)
set_option maxRecDepth 20000 in
theorem gL_arranges_X6_arrangements : GoodIn wsL_arranges (wsV RL 112 RX6 yX6_arrangements wsX6_arrangements) := goodIn_app (goodIn_of _ (by decide +kernel)) ggL_arranges_X6_arrangements
set_option maxRecDepth 20000 in
theorem ggL_arranges_X6_parkingArrangements : GoodIn wsL_arranges wsX6_parkingArrangements := goodIn_r _ [64, 52, 65, 6, 66, 67, 7, 53, 54, 55, 37, 56, 57, 58, 59, 60, 45, 44, 68, 69, 70, 4, 71, 72, 73, 74, 75, 76, 77, 78, 79, 80, 81, 82, 83, 84, 85, 86, 87, 88, 89, 90, 91, 92, 93, 94, 95, 96, 97, 98, 99, 100, 101, 102, 103, 104, 105, 106, 107, 108, 109, 110, 111, 112, 113, 114, 115, 116, 117, 118, 119, 120, 121, 122, 123, 124, 125, 126, 127, 128, 129, 130, 131, 132, 133, 134, 135, 136, 137, 138, 139, 140, 141, 142, 143, 144, 145, 146, 147, 148, 149, 201, 202, 203, 204, 205, 206, 207, 208, 209, 210, 211, 212, 213, 214, 215, 218, 219, 220, 221, 222, 223, 224, 225, 226, 227, 228, 229] (by decide +kernel) (by decide +kernel)
set_option maxRecDepth 20000 in
theorem gL_arranges_X6_parkingArrangements : GoodIn wsL_arranges (wsV RL 115 RX6 yX6_parkingArrangements wsX6_parkingArrangements) := goodIn_app (goodIn_of _ (by decide +kernel)) ggL_arranges_X6_parkingArrangements
set_option maxRecDepth 20000 in
theorem ggL_arranges_X6_fingerprint : GoodIn wsL_arranges wsX6_fingerprint := goodIn_r _ [153, 154, 52, 6, 155, 7, 156, 66, 157, 158, 159, 160, 161, 4, 162, 72, 73, 74, 75, 76, 77, 78, 79, 80, 81, 82, 83, 84, 85, 86, 115, 116, 117, 118, 119, 120, 121, 122, 123, 124, 125, 126, 127, 128, 129, 130, 131, 132, 133, 134, 135, 136, 137, 138, 139, 140, 141, 163, 164, 165, 166, 167, 168, 169, 37, 170, 46, 47, 171, 172, 173, 174, 175, 176, 177, 178, 179, 180, 181, 182, 183, 184, 185, 186, 201, 202, 203, 204, 205, 206, 207, 208, 209, 210, 211, 212, 213, 214, 215, 218, 219, 220, 221, 222, 223, 224, 225, 226, 227] (by decide +kernel) (by decide +kernel)
set_option maxRecDepth 20000 in
theorem gL_arranges_X6_fingerprint : GoodIn wsL_arranges (wsV RL 44 RX6 yX6_fingerprint wsX6_fingerprint) := goodIn_app (goodIn_of _ (by decide +kernel)) ggL_arranges_X6_fingerprint
set_option maxRecDepth 20000 in
theorem ggL_arranges_X6_defect : GoodIn wsL_arranges wsX6_defect := goodIn_r _ [190, 66, 159, 160, 161, 4, 162, 6, 7, 156, 72, 73, 74, 75, 76, 77, 78, 79, 80, 81, 82, 83, 84, 85, 86, 115, 116, 117, 118, 119, 120, 121, 122, 123, 124, 125, 126, 127, 128, 129, 130, 131, 132, 133, 134, 135, 136, 137, 138, 139, 140, 141, 171, 172, 173, 174, 201, 202, 203, 204, 205, 206, 207, 208, 209, 210, 211, 212, 213, 214, 215, 218, 219, 220, 221, 222, 223, 224, 225, 226, 227] (by decide +kernel) (by decide +kernel)
set_option maxRecDepth 20000 in
theorem gL_arranges_X6_defect : GoodIn wsL_arranges (wsV RL 86 RX6 yX6_defect wsX6_defect) := goodIn_app (goodIn_of _ (by decide +kernel)) ggL_arranges_X6_defect
set_option maxRecDepth 20000 in
theorem ggL_arranges_X6_nextArrangement : GoodIn wsL_arranges wsX6_nextArrangement := goodIn_r _ [194, 17, 6, 156, 7, 23, 24, 25, 26, 27, 28, 29, 30, 31, 32, 33, 34, 35, 36, 37, 38, 39, 40, 41, 42, 43, 44, 45, 46, 47, 195, 196, 4, 197, 198, 199, 200, 201, 202, 203, 204, 205, 206, 207, 208, 209, 210, 211, 212, 213, 214, 215, 216, 217] (by decide +kernel) (by decide +kernel)
set_option maxRecDepth 20000 in
theorem gL_arranges_X6_nextArrangement : GoodIn wsL_arranges (wsV RL 118 RX6 yX6_nextArrangement wsX6_nextArrangement) := goodIn_app (goodIn_of _ (by decide +kernel)) ggL_arranges_X6_nextArrangement
theorem dL_arranges_0 : decode cL_arranges 0 = .ok (.aload_n 0, 1) := by decide +kernel
theorem dL_arranges_1 : decode cL_arranges 1 = .ok (.invokevirtual 64, 3) := by decide +kernel
theorem dL_arranges_4 : decode cL_arranges 4 = .ok (.iconst 5, 1) := by decide +kernel
theorem dL_arranges_5 : decode cL_arranges 5 = .ok (.if_icmp .le 12, 3) := by decide +kernel
theorem dL_arranges_8 : decode cL_arranges 8 = .ok (.aload_n 0, 1) := by decide +kernel
theorem dL_arranges_9 : decode cL_arranges 9 = .ok (.invokestatic 109, 3) := by decide +kernel
theorem dL_arranges_12 : decode cL_arranges 12 = .ok (.ifCond .ge (-12), 3) := by decide +kernel
theorem dL_arranges_15 : decode cL_arranges 15 = .ok (.iconst 0, 1) := by decide +kernel
theorem dL_arranges_16 : decode cL_arranges 16 = .ok (.ireturn, 1) := by decide +kernel
theorem dL_arranges_17 : decode cL_arranges 17 = .ok (.aload_n 0, 1) := by decide +kernel
theorem dL_arranges_18 : decode cL_arranges 18 = .ok (.invokevirtual 112, 3) := by decide +kernel
theorem dL_arranges_21 : decode cL_arranges 21 = .ok (.istore_n 1, 1) := by decide +kernel
theorem dL_arranges_22 : decode cL_arranges 22 = .ok (.aload_n 0, 1) := by decide +kernel
theorem dL_arranges_23 : decode cL_arranges 23 = .ok (.invokevirtual 115, 3) := by decide +kernel
theorem dL_arranges_26 : decode cL_arranges 26 = .ok (.istore_n 2, 1) := by decide +kernel
theorem dL_arranges_27 : decode cL_arranges 27 = .ok (.iconst 0, 1) := by decide +kernel
theorem dL_arranges_28 : decode cL_arranges 28 = .ok (.istore_n 3, 1) := by decide +kernel
theorem dL_arranges_29 : decode cL_arranges 29 = .ok (.iconst 0, 1) := by decide +kernel
theorem dL_arranges_30 : decode cL_arranges 30 = .ok (.istore 4, 2) := by decide +kernel
theorem dL_arranges_32 : decode cL_arranges 32 = .ok (.aload_n 0, 1) := by decide +kernel
theorem dL_arranges_33 : decode cL_arranges 33 = .ok (.invokevirtual 44, 3) := by decide +kernel
theorem dL_arranges_36 : decode cL_arranges 36 = .ok (.lstore 5, 2) := by decide +kernel
theorem dL_arranges_38 : decode cL_arranges 38 = .ok (.iconst 0, 1) := by decide +kernel
theorem dL_arranges_39 : decode cL_arranges 39 = .ok (.istore 7, 2) := by decide +kernel
theorem dL_arranges_41 : decode cL_arranges 41 = .ok (.iload 7, 2) := by decide +kernel
theorem dL_arranges_43 : decode cL_arranges 43 = .ok (.iload_n 1, 1) := by decide +kernel
theorem dL_arranges_44 : decode cL_arranges 44 = .ok (.if_icmp .ge 41, 3) := by decide +kernel
theorem dL_arranges_47 : decode cL_arranges 47 = .ok (.iload_n 3, 1) := by decide +kernel
theorem dL_arranges_48 : decode cL_arranges 48 = .ok (.aload_n 0, 1) := by decide +kernel
theorem dL_arranges_49 : decode cL_arranges 49 = .ok (.invokevirtual 86, 3) := by decide +kernel
theorem dL_arranges_52 : decode cL_arranges 52 = .ok (.ifCond .ne 7, 3) := by decide +kernel
theorem dL_arranges_55 : decode cL_arranges 55 = .ok (.iconst 1, 1) := by decide +kernel
theorem dL_arranges_56 : decode cL_arranges 56 = .ok (.goto 4, 3) := by decide +kernel
theorem dL_arranges_59 : decode cL_arranges 59 = .ok (.iconst 0, 1) := by decide +kernel
theorem dL_arranges_60 : decode cL_arranges 60 = .ok (.iadd, 1) := by decide +kernel
theorem dL_arranges_61 : decode cL_arranges 61 = .ok (.istore_n 3, 1) := by decide +kernel
theorem dL_arranges_62 : decode cL_arranges 62 = .ok (.iload 4, 2) := by decide +kernel
theorem dL_arranges_64 : decode cL_arranges 64 = .ok (.aload_n 0, 1) := by decide +kernel
theorem dL_arranges_65 : decode cL_arranges 65 = .ok (.invokevirtual 118, 3) := by decide +kernel
theorem dL_arranges_68 : decode cL_arranges 68 = .ok (.ifCond .eq 7, 3) := by decide +kernel
theorem dL_arranges_71 : decode cL_arranges 71 = .ok (.iconst 1, 1) := by decide +kernel
theorem dL_arranges_72 : decode cL_arranges 72 = .ok (.goto 4, 3) := by decide +kernel
theorem dL_arranges_75 : decode cL_arranges 75 = .ok (.iconst 0, 1) := by decide +kernel
theorem dL_arranges_76 : decode cL_arranges 76 = .ok (.iadd, 1) := by decide +kernel
theorem dL_arranges_77 : decode cL_arranges 77 = .ok (.istore 4, 2) := by decide +kernel
theorem dL_arranges_79 : decode cL_arranges 79 = .ok (.iinc 7 1, 3) := by decide +kernel
theorem dL_arranges_82 : decode cL_arranges 82 = .ok (.goto (-41), 3) := by decide +kernel
theorem dL_arranges_85 : decode cL_arranges 85 = .ok (.iload_n 3, 1) := by decide +kernel
theorem dL_arranges_86 : decode cL_arranges 86 = .ok (.iload_n 2, 1) := by decide +kernel
theorem dL_arranges_87 : decode cL_arranges 87 = .ok (.if_icmp .ne 33, 3) := by decide +kernel
theorem dL_arranges_90 : decode cL_arranges 90 = .ok (.iload 4, 2) := by decide +kernel
theorem dL_arranges_92 : decode cL_arranges 92 = .ok (.iload_n 1, 1) := by decide +kernel
theorem dL_arranges_93 : decode cL_arranges 93 = .ok (.iconst 1, 1) := by decide +kernel
theorem dL_arranges_94 : decode cL_arranges 94 = .ok (.isub, 1) := by decide +kernel
theorem dL_arranges_95 : decode cL_arranges 95 = .ok (.if_icmp .ne 25, 3) := by decide +kernel
theorem dL_arranges_98 : decode cL_arranges 98 = .ok (.aload_n 0, 1) := by decide +kernel
theorem dL_arranges_99 : decode cL_arranges 99 = .ok (.invokevirtual 44, 3) := by decide +kernel
theorem dL_arranges_102 : decode cL_arranges 102 = .ok (.lload 5, 2) := by decide +kernel
theorem dL_arranges_104 : decode cL_arranges 104 = .ok (.lcmp, 1) := by decide +kernel
theorem dL_arranges_105 : decode cL_arranges 105 = .ok (.ifCond .ne 15, 3) := by decide +kernel
theorem dL_arranges_108 : decode cL_arranges 108 = .ok (.aload_n 0, 1) := by decide +kernel
theorem dL_arranges_109 : decode cL_arranges 109 = .ok (.invokevirtual 112, 3) := by decide +kernel
theorem dL_arranges_112 : decode cL_arranges 112 = .ok (.iload_n 1, 1) := by decide +kernel
theorem dL_arranges_113 : decode cL_arranges 113 = .ok (.if_icmp .ne 7, 3) := by decide +kernel
theorem dL_arranges_116 : decode cL_arranges 116 = .ok (.iconst 1, 1) := by decide +kernel
theorem dL_arranges_117 : decode cL_arranges 117 = .ok (.goto 4, 3) := by decide +kernel
theorem dL_arranges_120 : decode cL_arranges 120 = .ok (.iconst 0, 1) := by decide +kernel
theorem dL_arranges_121 : decode cL_arranges 121 = .ok (.ireturn, 1) := by decide +kernel
