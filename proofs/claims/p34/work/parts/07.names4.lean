set_option maxRecDepth 20000 in
theorem ggL_tables_X9_addTable : GoodIn wsL_tables wsX9_addTable := goodIn_ca (goodIn_ca (goodIn_r _ [9, 10, 11, 12, 13, 14, 15, 16, 17, 8, 18, 19, 20, 21, 22, 23, 24, 25, 26, 27, 28, 29, 30, 31, 32, 33, 34, 35, 36, 37, 38, 39, 40, 41, 42, 43, 44, 45, 46, 47, 48, 49, 50, 51, 52, 53, 54, 55, 56, 57, 58, 59, 60, 61, 62, 63, 64, 65, 66, 67, 68, 69, 70, 71, 72, 73, 74, 75, 76, 77, 78, 79, 80, 81, 82, 83, 84, 85, 86, 87, 88, 89, 90, 91, 92, 93, 94, 95, 96, 97, 98, 99, 100, 101, 102, 103, 104, 105, 106, 107, 108, 109, 110, 111, 112, 113, 114, 115, 116, 117, 118, 119, 120, 121, 122, 123, 124, 125, 126, 127, 128, 129, 130, 131, 132, 133, 134, 135, 136, 137, 138, 139, 140, 141] (by decide +kernel) (by decide +kernel)) (goodIn_sub (fun _ h => List.mem_cons_of_mem _ (List.mem_append_left _ (List.mem_append_right _ h))) (by decide +kernel))) (goodIn_sub (fun _ h => List.mem_cons_of_mem _ (List.mem_append_right _ h)) (by decide +kernel))
set_option maxRecDepth 20000 in
theorem gL_tables_X9_addTable : GoodIn wsL_tables (wsV RL 7 RX9 yX9_addTable wsX9_addTable) := goodIn_app (goodIn_of _ (by decide +kernel)) ggL_tables_X9_addTable
theorem dL_tables_0 : decode cL_tables 0 = .ok (.aload_n 0, 1) := by decide +kernel
theorem dL_tables_1 : decode cL_tables 1 = .ok (.iload_n 1, 1) := by decide +kernel
theorem dL_tables_2 : decode cL_tables 2 = .ok (.iload_n 2, 1) := by decide +kernel
theorem dL_tables_3 : decode cL_tables 3 = .ok (.invokevirtual 7, 3) := by decide +kernel
theorem dL_tables_6 : decode cL_tables 6 = .ok (.ireturn, 1) := by decide +kernel
theorem dL_tables_7 : decode cL_tables 7 = .ok (.astore_n 3, 1) := by decide +kernel
theorem dL_tables_8 : decode cL_tables 8 = .ok (.ldc 15, 2) := by decide +kernel
theorem dL_tables_10 : decode cL_tables 10 = .ok (.ireturn, 1) := by decide +kernel
theorem dL_tables_11 : decode cL_tables 11 = .ok (.astore_n 3, 1) := by decide +kernel
theorem dL_tables_12 : decode cL_tables 12 = .ok (.ldc 18, 2) := by decide +kernel
theorem dL_tables_14 : decode cL_tables 14 = .ok (.ireturn, 1) := by decide +kernel
set_option maxRecDepth 20000 in
theorem ggL_bumpers_X9_addBumper : GoodIn wsL_bumpers wsX9_addBumper := goodIn_ca (goodIn_ca (goodIn_ca (goodIn_r _ [11, 12, 13, 14, 15, 16, 17, 18, 19, 20, 10, 21, 22, 23, 24, 25, 26, 27, 28, 29, 30, 31, 32, 33, 34, 35, 36, 37, 38, 39, 40, 41, 42, 43, 44, 45, 46, 47, 48, 49, 50, 51, 52, 53, 54, 55, 56, 57, 58, 59, 60, 61, 62, 63, 64, 65, 66, 67, 68, 69, 70, 71, 72, 73, 74, 75, 76, 77, 78, 79, 80, 81, 82, 83, 84, 85, 86, 87, 88, 89, 90, 91, 92, 93, 94, 95, 96, 97, 98, 99, 100, 101, 102, 103, 104, 105, 106, 107, 108, 109, 110, 111, 112, 113, 114, 115, 116, 117, 118, 119, 120, 121, 122, 123, 124, 125, 126, 127, 128, 129, 130, 131, 132, 133, 134, 135, 136, 137, 138, 139, 140, 141, 142, 143, 144, 145, 146, 147, 148, 149, 150] (by decide +kernel) (by decide +kernel)) (goodIn_sub (fun _ h => List.mem_cons_of_mem _ (List.mem_append_left _ (List.mem_append_left _ (List.mem_append_right _ h)))) (by decide +kernel))) (goodIn_sub (fun _ h => List.mem_cons_of_mem _ (List.mem_append_left _ (List.mem_append_right _ h))) (by decide +kernel))) (goodIn_sub (fun _ h => List.mem_cons_of_mem _ (List.mem_append_right _ h)) (by decide +kernel))
set_option maxRecDepth 20000 in
theorem gL_bumpers_X9_addBumper : GoodIn wsL_bumpers (wsV RL 19 RX9 yX9_addBumper wsX9_addBumper) := goodIn_app (goodIn_of _ (by decide +kernel)) ggL_bumpers_X9_addBumper
theorem dL_bumpers_0 : decode cL_bumpers 0 = .ok (.aload_n 0, 1) := by decide +kernel
theorem dL_bumpers_1 : decode cL_bumpers 1 = .ok (.iload_n 1, 1) := by decide +kernel
theorem dL_bumpers_2 : decode cL_bumpers 2 = .ok (.iload_n 2, 1) := by decide +kernel
theorem dL_bumpers_3 : decode cL_bumpers 3 = .ok (.iload_n 3, 1) := by decide +kernel
theorem dL_bumpers_4 : decode cL_bumpers 4 = .ok (.iload 4, 2) := by decide +kernel
theorem dL_bumpers_6 : decode cL_bumpers 6 = .ok (.iload 5, 2) := by decide +kernel
theorem dL_bumpers_8 : decode cL_bumpers 8 = .ok (.invokevirtual 19, 3) := by decide +kernel
theorem dL_bumpers_11 : decode cL_bumpers 11 = .ok (.ireturn, 1) := by decide +kernel
theorem dL_bumpers_12 : decode cL_bumpers 12 = .ok (.astore 6, 2) := by decide +kernel
theorem dL_bumpers_14 : decode cL_bumpers 14 = .ok (.ldc 25, 2) := by decide +kernel
theorem dL_bumpers_16 : decode cL_bumpers 16 = .ok (.ireturn, 1) := by decide +kernel
theorem dL_bumpers_17 : decode cL_bumpers 17 = .ok (.astore 6, 2) := by decide +kernel
theorem dL_bumpers_19 : decode cL_bumpers 19 = .ok (.ldc 15, 2) := by decide +kernel
theorem dL_bumpers_21 : decode cL_bumpers 21 = .ok (.ireturn, 1) := by decide +kernel
theorem dL_bumpers_22 : decode cL_bumpers 22 = .ok (.astore 6, 2) := by decide +kernel
theorem dL_bumpers_24 : decode cL_bumpers 24 = .ok (.ldc 18, 2) := by decide +kernel
theorem dL_bumpers_26 : decode cL_bumpers 26 = .ok (.ireturn, 1) := by decide +kernel
set_option maxRecDepth 20000 in
theorem ggL_points_X9_setPoints : GoodIn wsL_points wsX9_setPoints := goodIn_ca (goodIn_ca (goodIn_ca (goodIn_r _ [11, 12, 13, 14, 15, 10, 16, 17, 18, 19, 20, 21, 22, 23, 24, 25, 26, 27, 28, 29, 30, 31, 32, 33, 34, 35, 36, 37, 38, 39, 40, 41, 42, 43, 44, 45, 46, 47, 48, 49, 50, 51, 52, 53, 54, 55, 56, 57, 58, 59, 60, 61, 62, 63, 64, 65, 66, 67, 68, 69, 70, 71, 72, 73, 74, 75, 76, 77, 78, 79, 80, 81, 82, 83, 84, 85, 86, 87, 88, 89, 90, 91] (by decide +kernel) (by decide +kernel)) (goodIn_sub (fun _ h => List.mem_cons_of_mem _ (List.mem_append_left _ (List.mem_append_left _ (List.mem_append_right _ h)))) (by decide +kernel))) (goodIn_sub (fun _ h => List.mem_cons_of_mem _ (List.mem_append_left _ (List.mem_append_right _ h))) (by decide +kernel))) (goodIn_sub (fun _ h => List.mem_cons_of_mem _ (List.mem_append_right _ h)) (by decide +kernel))
set_option maxRecDepth 20000 in
theorem gL_points_X9_setPoints : GoodIn wsL_points (wsV RL 26 RX9 yX9_setPoints wsX9_setPoints) := goodIn_app (goodIn_of _ (by decide +kernel)) ggL_points_X9_setPoints
theorem dL_points_0 : decode cL_points 0 = .ok (.aload_n 0, 1) := by decide +kernel
theorem dL_points_1 : decode cL_points 1 = .ok (.iload_n 1, 1) := by decide +kernel
theorem dL_points_2 : decode cL_points 2 = .ok (.iload_n 2, 1) := by decide +kernel
theorem dL_points_3 : decode cL_points 3 = .ok (.iload_n 3, 1) := by decide +kernel
theorem dL_points_4 : decode cL_points 4 = .ok (.invokevirtual 26, 3) := by decide +kernel
theorem dL_points_7 : decode cL_points 7 = .ok (.ireturn, 1) := by decide +kernel
theorem dL_points_8 : decode cL_points 8 = .ok (.astore 4, 2) := by decide +kernel
theorem dL_points_10 : decode cL_points 10 = .ok (.ldc 25, 2) := by decide +kernel
theorem dL_points_12 : decode cL_points 12 = .ok (.ireturn, 1) := by decide +kernel
theorem dL_points_13 : decode cL_points 13 = .ok (.astore 4, 2) := by decide +kernel
theorem dL_points_15 : decode cL_points 15 = .ok (.ldc 15, 2) := by decide +kernel
theorem dL_points_17 : decode cL_points 17 = .ok (.ireturn, 1) := by decide +kernel
theorem dL_points_18 : decode cL_points 18 = .ok (.astore 4, 2) := by decide +kernel
theorem dL_points_20 : decode cL_points 20 = .ok (.ldc 18, 2) := by decide +kernel
theorem dL_points_22 : decode cL_points 22 = .ok (.ireturn, 1) := by decide +kernel
set_option maxRecDepth 20000 in
theorem ggL_modes_X9_setMode : GoodIn wsL_modes wsX9_setMode := goodIn_ca (goodIn_ca (goodIn_ca (goodIn_r _ [11, 12, 13, 14, 15, 16, 17, 18, 10, 19, 20, 21, 22, 23, 24, 25, 26, 27, 28, 29, 30, 31, 32, 33, 34, 35, 36, 37, 38, 39, 40, 41, 42, 43, 44, 45, 46, 47, 48, 49, 50, 51, 52, 53, 54, 55, 56, 57, 58, 59, 60, 61, 62, 63, 64, 65, 66, 67, 68, 69, 70, 71, 72, 73, 74, 75, 76, 77, 78, 79, 80, 81, 82, 83, 84, 85, 86, 87, 88, 89, 90, 91, 92, 93, 94, 95, 96, 97, 98, 99, 100, 101, 102, 103, 104, 105, 106, 107, 108, 109, 110, 111, 112, 113, 114, 115, 116] (by decide +kernel) (by decide +kernel)) (goodIn_sub (fun _ h => List.mem_cons_of_mem _ (List.mem_append_left _ (List.mem_append_left _ (List.mem_append_right _ h)))) (by decide +kernel))) (goodIn_sub (fun _ h => List.mem_cons_of_mem _ (List.mem_append_left _ (List.mem_append_right _ h))) (by decide +kernel))) (goodIn_sub (fun _ h => List.mem_cons_of_mem _ (List.mem_append_right _ h)) (by decide +kernel))
set_option maxRecDepth 20000 in
theorem gL_modes_X9_setMode : GoodIn wsL_modes (wsV RL 30 RX9 yX9_setMode wsX9_setMode) := goodIn_app (goodIn_of _ (by decide +kernel)) ggL_modes_X9_setMode
theorem dL_modes_0 : decode cL_modes 0 = .ok (.aload_n 0, 1) := by decide +kernel
theorem dL_modes_1 : decode cL_modes 1 = .ok (.iload_n 1, 1) := by decide +kernel
theorem dL_modes_2 : decode cL_modes 2 = .ok (.iload_n 2, 1) := by decide +kernel
theorem dL_modes_3 : decode cL_modes 3 = .ok (.iload_n 3, 1) := by decide +kernel
theorem dL_modes_4 : decode cL_modes 4 = .ok (.iload 4, 2) := by decide +kernel
theorem dL_modes_6 : decode cL_modes 6 = .ok (.iload 5, 2) := by decide +kernel
theorem dL_modes_8 : decode cL_modes 8 = .ok (.invokevirtual 30, 3) := by decide +kernel
theorem dL_modes_11 : decode cL_modes 11 = .ok (.ifCond .eq 7, 3) := by decide +kernel
theorem dL_modes_14 : decode cL_modes 14 = .ok (.iconst 1, 1) := by decide +kernel
theorem dL_modes_15 : decode cL_modes 15 = .ok (.goto 4, 3) := by decide +kernel
theorem dL_modes_18 : decode cL_modes 18 = .ok (.iconst 0, 1) := by decide +kernel
theorem dL_modes_19 : decode cL_modes 19 = .ok (.ireturn, 1) := by decide +kernel
theorem dL_modes_20 : decode cL_modes 20 = .ok (.astore 6, 2) := by decide +kernel
theorem dL_modes_22 : decode cL_modes 22 = .ok (.ldc 25, 2) := by decide +kernel
theorem dL_modes_24 : decode cL_modes 24 = .ok (.ireturn, 1) := by decide +kernel
theorem dL_modes_25 : decode cL_modes 25 = .ok (.astore 6, 2) := by decide +kernel
theorem dL_modes_27 : decode cL_modes 27 = .ok (.ldc 15, 2) := by decide +kernel
theorem dL_modes_29 : decode cL_modes 29 = .ok (.ireturn, 1) := by decide +kernel
theorem dL_modes_30 : decode cL_modes 30 = .ok (.astore 6, 2) := by decide +kernel
theorem dL_modes_32 : decode cL_modes 32 = .ok (.ldc 18, 2) := by decide +kernel
theorem dL_modes_34 : decode cL_modes 34 = .ok (.ireturn, 1) := by decide +kernel
set_option maxRecDepth 20000 in
theorem ggL_stick_X9_stick : GoodIn wsL_stick wsX9_stick := goodIn_ca (goodIn_ca (goodIn_r _ [9, 10, 11, 12, 13, 14, 15, 16, 8, 17, 18, 19, 20, 21, 22, 23, 24, 25, 26, 27, 28, 29, 30, 31, 32, 33, 34, 35, 36, 37, 38, 39, 40, 41, 42, 43, 44, 45, 46, 47, 48, 49, 50, 51, 52, 53, 54, 55, 56, 57, 58, 59, 60, 61, 62, 63, 64, 65, 66, 67, 68, 69, 70, 71, 72, 73, 74, 75, 76] (by decide +kernel) (by decide +kernel)) (goodIn_sub (fun _ h => List.mem_cons_of_mem _ (List.mem_append_left _ (List.mem_append_right _ h))) (by decide +kernel))) (goodIn_sub (fun _ h => List.mem_cons_of_mem _ (List.mem_append_right _ h)) (by decide +kernel))
set_option maxRecDepth 20000 in
theorem gL_stick_X9_stick : GoodIn wsL_stick (wsV RL 34 RX9 yX9_stick wsX9_stick) := goodIn_app (goodIn_of _ (by decide +kernel)) ggL_stick_X9_stick
theorem dL_stick_0 : decode cL_stick 0 = .ok (.aload_n 0, 1) := by decide +kernel
theorem dL_stick_1 : decode cL_stick 1 = .ok (.iload_n 1, 1) := by decide +kernel
theorem dL_stick_2 : decode cL_stick 2 = .ok (.iload_n 2, 1) := by decide +kernel
theorem dL_stick_3 : decode cL_stick 3 = .ok (.invokevirtual 34, 3) := by decide +kernel
theorem dL_stick_6 : decode cL_stick 6 = .ok (.ireturn, 1) := by decide +kernel
theorem dL_stick_7 : decode cL_stick 7 = .ok (.astore_n 3, 1) := by decide +kernel
theorem dL_stick_8 : decode cL_stick 8 = .ok (.ldc 25, 2) := by decide +kernel
theorem dL_stick_10 : decode cL_stick 10 = .ok (.ireturn, 1) := by decide +kernel
theorem dL_stick_11 : decode cL_stick 11 = .ok (.astore_n 3, 1) := by decide +kernel
theorem dL_stick_12 : decode cL_stick 12 = .ok (.ldc 18, 2) := by decide +kernel
theorem dL_stick_14 : decode cL_stick 14 = .ok (.ireturn, 1) := by decide +kernel
set_option maxRecDepth 20000 in
theorem ggL_sticks_X9_sticks : GoodIn wsL_sticks wsX9_sticks := goodIn_ca (goodIn_r _ [7, 8, 9, 10, 11, 6, 12, 13, 14, 15, 16, 17, 18, 19, 20, 21, 22, 23, 24, 25, 26, 27, 28, 29, 30, 31, 32, 33, 34, 35, 36, 37, 38, 39, 40, 41, 42, 43, 44, 45, 46, 47, 48, 49, 50, 51, 52, 53, 54, 55, 56, 57, 58, 59, 60, 61, 62, 63, 64, 65, 66, 67, 68, 69, 70, 71] (by decide +kernel) (by decide +kernel)) (goodIn_sub (fun _ h => List.mem_cons_of_mem _ (List.mem_append_right _ h)) (by decide +kernel))
set_option maxRecDepth 20000 in
theorem gL_sticks_X9_sticks : GoodIn wsL_sticks (wsV RL 37 RX9 yX9_sticks wsX9_sticks) := goodIn_app (goodIn_of _ (by decide +kernel)) ggL_sticks_X9_sticks
theorem dL_sticks_0 : decode cL_sticks 0 = .ok (.aload_n 0, 1) := by decide +kernel
theorem dL_sticks_1 : decode cL_sticks 1 = .ok (.iload_n 1, 1) := by decide +kernel
theorem dL_sticks_2 : decode cL_sticks 2 = .ok (.iload_n 2, 1) := by decide +kernel
theorem dL_sticks_3 : decode cL_sticks 3 = .ok (.invokevirtual 37, 3) := by decide +kernel
theorem dL_sticks_6 : decode cL_sticks 6 = .ok (.ifCond .eq 7, 3) := by decide +kernel
theorem dL_sticks_9 : decode cL_sticks 9 = .ok (.iconst 1, 1) := by decide +kernel
theorem dL_sticks_10 : decode cL_sticks 10 = .ok (.goto 4, 3) := by decide +kernel
theorem dL_sticks_13 : decode cL_sticks 13 = .ok (.iconst 0, 1) := by decide +kernel
theorem dL_sticks_14 : decode cL_sticks 14 = .ok (.ireturn, 1) := by decide +kernel
theorem dL_sticks_15 : decode cL_sticks 15 = .ok (.astore_n 3, 1) := by decide +kernel
theorem dL_sticks_16 : decode cL_sticks 16 = .ok (.ldc 25, 2) := by decide +kernel
theorem dL_sticks_18 : decode cL_sticks 18 = .ok (.ireturn, 1) := by decide +kernel
set_option maxRecDepth 20000 in
theorem ggL_wear_X9_wear : GoodIn wsL_wear wsX9_wear := goodIn_ca (goodIn_r _ [7, 8, 9, 10, 11, 6, 12, 13, 14, 15, 16, 17, 18, 19, 20, 21, 22, 23, 24, 25, 26, 27, 28, 29, 30, 31, 32, 33, 34, 35, 36, 37, 38, 39, 40, 41, 42, 43, 44, 45, 46, 47, 48, 49, 50, 51, 52, 53, 54, 55, 56, 57, 58, 59, 60, 61, 62, 63, 64, 65, 66, 67, 68, 69, 70, 71] (by decide +kernel) (by decide +kernel)) (goodIn_sub (fun _ h => List.mem_cons_of_mem _ (List.mem_append_right _ h)) (by decide +kernel))
set_option maxRecDepth 20000 in
theorem gL_wear_X9_wear : GoodIn wsL_wear (wsV RL 41 RX9 yX9_wear wsX9_wear) := goodIn_app (goodIn_of _ (by decide +kernel)) ggL_wear_X9_wear
theorem dL_wear_0 : decode cL_wear 0 = .ok (.aload_n 0, 1) := by decide +kernel
theorem dL_wear_1 : decode cL_wear 1 = .ok (.iload_n 1, 1) := by decide +kernel
theorem dL_wear_2 : decode cL_wear 2 = .ok (.iload_n 2, 1) := by decide +kernel
theorem dL_wear_3 : decode cL_wear 3 = .ok (.invokevirtual 41, 3) := by decide +kernel
theorem dL_wear_6 : decode cL_wear 6 = .ok (.ireturn, 1) := by decide +kernel
theorem dL_wear_7 : decode cL_wear 7 = .ok (.astore_n 3, 1) := by decide +kernel
theorem dL_wear_8 : decode cL_wear 8 = .ok (.ldc 25, 2) := by decide +kernel
theorem dL_wear_10 : decode cL_wear 10 = .ok (.ireturn, 1) := by decide +kernel
set_option maxRecDepth 20000 in
theorem ggL_coin_X9_coin : GoodIn wsL_coin wsX9_coin := goodIn_ca (goodIn_ca (goodIn_r _ [9, 10, 11, 12, 13, 14, 15, 16, 17, 18, 19, 20, 21, 22, 23, 8, 24, 25, 26, 27, 28, 29, 30, 31, 32, 33, 34, 35, 36, 37, 38, 39, 40, 41, 42, 43, 44, 45, 46, 47, 48, 49, 50, 51, 52, 53, 54, 55, 56, 57, 58, 59, 60, 61, 62, 63, 64, 65, 66, 67, 68, 69, 70, 71, 72, 73, 74, 75, 76, 77, 78, 79, 80, 81, 82, 83, 84, 85, 86, 87, 88, 89, 90, 91, 92, 93, 94, 95, 96, 97, 98, 99, 100, 101, 102, 103, 104, 105, 106, 107, 108, 109, 110, 111, 112, 113, 114, 115, 116, 117, 118, 119, 120, 121, 122, 123, 124, 125, 126, 127, 128, 129, 130, 131, 132, 133, 134, 135, 136, 137, 138, 139, 140, 141, 142, 143, 144, 145, 146, 147, 148, 149, 150, 151, 152, 153, 154, 155, 156, 157, 158, 159, 160, 161, 162, 163, 164, 165, 166, 167, 168, 169, 170, 171, 172, 173, 174, 175, 176, 177, 178, 179, 180, 181, 182, 183, 184, 185] (by decide +kernel) (by decide +kernel)) (goodIn_sub (fun _ h => List.mem_cons_of_mem _ (List.mem_append_left _ (List.mem_append_right _ h))) (by decide +kernel))) (goodIn_sub (fun _ h => List.mem_cons_of_mem _ (List.mem_append_right _ h)) (by decide +kernel))
set_option maxRecDepth 20000 in
theorem gL_coin_X9_coin : GoodIn wsL_coin (wsV RL 44 RX9 yX9_coin wsX9_coin) := goodIn_app (goodIn_of _ (by decide +kernel)) ggL_coin_X9_coin
theorem dL_coin_0 : decode cL_coin 0 = .ok (.aload_n 0, 1) := by decide +kernel
theorem dL_coin_1 : decode cL_coin 1 = .ok (.iload_n 1, 1) := by decide +kernel
theorem dL_coin_2 : decode cL_coin 2 = .ok (.invokevirtual 44, 3) := by decide +kernel
theorem dL_coin_5 : decode cL_coin 5 = .ok (.ireturn, 1) := by decide +kernel
theorem dL_coin_6 : decode cL_coin 6 = .ok (.astore_n 2, 1) := by decide +kernel
theorem dL_coin_7 : decode cL_coin 7 = .ok (.ldc 25, 2) := by decide +kernel
theorem dL_coin_9 : decode cL_coin 9 = .ok (.ireturn, 1) := by decide +kernel
theorem dL_coin_10 : decode cL_coin 10 = .ok (.astore_n 2, 1) := by decide +kernel
theorem dL_coin_11 : decode cL_coin 11 = .ok (.ldc 18, 2) := by decide +kernel
theorem dL_coin_13 : decode cL_coin 13 = .ok (.ireturn, 1) := by decide +kernel
set_option maxRecDepth 20000 in
theorem ggL_shoot_X9_shoot : GoodIn wsL_shoot wsX9_shoot := goodIn_ca (goodIn_ca (goodIn_ca (goodIn_r _ [11, 12, 13, 14, 15, 16, 17, 18, 19, 20, 21, 22, 23, 24, 25, 10, 26, 27, 28, 29, 30, 31, 32, 33, 34, 35, 36, 37, 38, 39, 40, 41, 42, 43, 44, 45, 46, 47, 48, 49, 50, 51, 52, 53, 54, 55, 56, 57, 58, 59, 60, 61, 62, 63, 64, 65, 66, 67, 68, 69, 70, 71, 72, 73, 74, 75, 76, 77, 78, 79, 80, 81, 82, 83, 84, 85, 86, 87, 88, 89, 90, 91, 92, 93, 94, 95, 96, 97, 98, 99, 100, 101, 102, 103, 104, 105, 106, 107, 108, 109, 110, 111, 112, 113, 114, 115, 116, 117, 118, 119, 120, 121, 122, 123, 124, 125, 126, 127, 128, 129, 130, 131, 132, 133, 134, 135, 136, 137, 138, 139, 140, 141, 142, 143, 144, 145, 146, 147, 148, 149, 150, 151, 152, 153, 154, 155, 156, 157, 158, 159, 160, 161, 162, 163, 164, 165, 166, 167, 168, 169, 170, 171, 172, 173, 174, 175, 176, 177, 178, 179, 180, 181, 182, 183, 184, 185, 186, 187, 188, 189, 190, 191, 192, 193, 194, 195, 196, 197, 198, 199, 200, 201, 202, 203, 204, 205, 206, 207, 208, 209, 210, 211, 212, 213, 214, 215, 216, 217, 218, 219, 220, 221, 222, 223, 224, 225, 226, 227, 228, 229, 230, 231, 232, 233] (by decide +kernel) (by decide +kernel)) (goodIn_sub (fun _ h => List.mem_cons_of_mem _ (List.mem_append_left _ (List.mem_append_left _ (List.mem_append_right _ h)))) (by decide +kernel))) (goodIn_sub (fun _ h => List.mem_cons_of_mem _ (List.mem_append_left _ (List.mem_append_right _ h))) (by decide +kernel))) (goodIn_sub (fun _ h => List.mem_cons_of_mem _ (List.mem_append_right _ h)) (by decide +kernel))
set_option maxRecDepth 20000 in
theorem gL_shoot_X9_shoot : GoodIn wsL_shoot (wsV RL 48 RX9 yX9_shoot wsX9_shoot) := goodIn_app (goodIn_of _ (by decide +kernel)) ggL_shoot_X9_shoot
theorem dL_shoot_0 : decode cL_shoot 0 = .ok (.aload_n 0, 1) := by decide +kernel
theorem dL_shoot_1 : decode cL_shoot 1 = .ok (.iload_n 1, 1) := by decide +kernel
theorem dL_shoot_2 : decode cL_shoot 2 = .ok (.iload_n 2, 1) := by decide +kernel
theorem dL_shoot_3 : decode cL_shoot 3 = .ok (.iload_n 3, 1) := by decide +kernel
theorem dL_shoot_4 : decode cL_shoot 4 = .ok (.iload 4, 2) := by decide +kernel
theorem dL_shoot_6 : decode cL_shoot 6 = .ok (.invokevirtual 48, 3) := by decide +kernel
theorem dL_shoot_9 : decode cL_shoot 9 = .ok (.ireturn, 1) := by decide +kernel
theorem dL_shoot_10 : decode cL_shoot 10 = .ok (.astore 5, 2) := by decide +kernel
theorem dL_shoot_12 : decode cL_shoot 12 = .ok (.ldc 25, 2) := by decide +kernel
theorem dL_shoot_14 : decode cL_shoot 14 = .ok (.ireturn, 1) := by decide +kernel
theorem dL_shoot_15 : decode cL_shoot 15 = .ok (.astore 5, 2) := by decide +kernel
theorem dL_shoot_17 : decode cL_shoot 17 = .ok (.ldc 15, 2) := by decide +kernel
theorem dL_shoot_19 : decode cL_shoot 19 = .ok (.ireturn, 1) := by decide +kernel
theorem dL_shoot_20 : decode cL_shoot 20 = .ok (.astore 5, 2) := by decide +kernel
theorem dL_shoot_22 : decode cL_shoot 22 = .ok (.ldc 18, 2) := by decide +kernel
theorem dL_shoot_24 : decode cL_shoot 24 = .ok (.ireturn, 1) := by decide +kernel
set_option maxRecDepth 20000 in
theorem ggL_gameAt_X9_gameAt : GoodIn wsL_gameAt wsX9_gameAt := goodIn_ca (goodIn_r _ [7, 8, 9, 10, 11, 6, 12, 13, 14, 15, 16, 17, 18, 19, 20, 21, 22, 23, 24, 25, 26, 27, 28, 29, 30, 31, 32, 33, 34, 35, 36, 37, 38, 39, 40, 41, 42, 43, 44, 45, 46, 47, 48, 49, 50, 51, 52, 53, 54, 55, 56, 57, 58, 59] (by decide +kernel) (by decide +kernel)) (goodIn_sub (fun _ h => List.mem_cons_of_mem _ (List.mem_append_right _ h)) (by decide +kernel))
set_option maxRecDepth 20000 in
theorem gL_gameAt_X9_gameAt : GoodIn wsL_gameAt (wsV RL 52 RX9 yX9_gameAt wsX9_gameAt) := goodIn_app (goodIn_of _ (by decide +kernel)) ggL_gameAt_X9_gameAt
theorem dL_gameAt_0 : decode cL_gameAt 0 = .ok (.aload_n 0, 1) := by decide +kernel
theorem dL_gameAt_1 : decode cL_gameAt 1 = .ok (.iload_n 1, 1) := by decide +kernel
theorem dL_gameAt_2 : decode cL_gameAt 2 = .ok (.invokevirtual 52, 3) := by decide +kernel
theorem dL_gameAt_5 : decode cL_gameAt 5 = .ok (.ireturn, 1) := by decide +kernel
theorem dL_gameAt_6 : decode cL_gameAt 6 = .ok (.astore_n 2, 1) := by decide +kernel
theorem dL_gameAt_7 : decode cL_gameAt 7 = .ok (.ldc 25, 2) := by decide +kernel
theorem dL_gameAt_9 : decode cL_gameAt 9 = .ok (.ireturn, 1) := by decide +kernel
set_option maxRecDepth 20000 in
theorem ggL_balls_X9_ballsLeft : GoodIn wsL_balls wsX9_ballsLeft := goodIn_ca (goodIn_r _ [7, 8, 9, 10, 11, 6, 12, 13, 14, 15, 16, 17, 18, 19, 20, 21, 22, 23, 24, 25, 26, 27, 28, 29, 30, 31, 32, 33, 34, 35, 36, 37, 38, 39, 40, 41, 42, 43, 44, 45, 46, 47, 48, 49, 50, 51, 52, 53, 54, 55, 56, 57] (by decide +kernel) (by decide +kernel)) (goodIn_sub (fun _ h => List.mem_cons_of_mem _ (List.mem_append_right _ h)) (by decide +kernel))
set_option maxRecDepth 20000 in
theorem gL_balls_X9_ballsLeft : GoodIn wsL_balls (wsV RL 55 RX9 yX9_ballsLeft wsX9_ballsLeft) := goodIn_app (goodIn_of _ (by decide +kernel)) ggL_balls_X9_ballsLeft
theorem dL_balls_0 : decode cL_balls 0 = .ok (.aload_n 0, 1) := by decide +kernel
theorem dL_balls_1 : decode cL_balls 1 = .ok (.iload_n 1, 1) := by decide +kernel
theorem dL_balls_2 : decode cL_balls 2 = .ok (.invokevirtual 55, 3) := by decide +kernel
theorem dL_balls_5 : decode cL_balls 5 = .ok (.ireturn, 1) := by decide +kernel
theorem dL_balls_6 : decode cL_balls 6 = .ok (.astore_n 2, 1) := by decide +kernel
theorem dL_balls_7 : decode cL_balls 7 = .ok (.ldc 25, 2) := by decide +kernel
theorem dL_balls_9 : decode cL_balls 9 = .ok (.ireturn, 1) := by decide +kernel
set_option maxRecDepth 20000 in
theorem ggL_stack_X9_stack : GoodIn wsL_stack wsX9_stack := goodIn_ca (goodIn_r _ [7, 8, 9, 10, 11, 6, 12, 13, 14, 15, 16, 17, 18, 19, 20, 21, 22, 23, 24, 25, 26, 27, 28, 29, 30, 31, 32, 33, 34, 35, 36, 37, 38, 39, 40, 41, 42, 43, 44, 45, 46, 47, 48, 49, 50, 51, 52, 53, 54, 55, 56, 57, 58, 59, 60, 61, 62, 63, 64, 65, 66, 67, 68] (by decide +kernel) (by decide +kernel)) (goodIn_sub (fun _ h => List.mem_cons_of_mem _ (List.mem_append_right _ h)) (by decide +kernel))
set_option maxRecDepth 20000 in
theorem gL_stack_X9_stack : GoodIn wsL_stack (wsV RL 58 RX9 yX9_stack wsX9_stack) := goodIn_app (goodIn_of _ (by decide +kernel)) ggL_stack_X9_stack
theorem dL_stack_0 : decode cL_stack 0 = .ok (.aload_n 0, 1) := by decide +kernel
theorem dL_stack_1 : decode cL_stack 1 = .ok (.iload_n 1, 1) := by decide +kernel
theorem dL_stack_2 : decode cL_stack 2 = .ok (.invokevirtual 58, 3) := by decide +kernel
theorem dL_stack_5 : decode cL_stack 5 = .ok (.ireturn, 1) := by decide +kernel
theorem dL_stack_6 : decode cL_stack 6 = .ok (.astore_n 2, 1) := by decide +kernel
theorem dL_stack_7 : decode cL_stack 7 = .ok (.ldc 25, 2) := by decide +kernel
theorem dL_stack_9 : decode cL_stack 9 = .ok (.ireturn, 1) := by decide +kernel
set_option maxRecDepth 20000 in
theorem ggL_score_X9_score : GoodIn wsL_score wsX9_score := goodIn_ca (goodIn_r _ [7, 8, 9, 10, 11, 12, 6, 13, 14, 15, 16, 17, 18, 19, 20, 21, 22, 23, 24, 25, 26, 27, 28, 29, 30, 31, 32, 33, 34, 35, 36, 37, 38, 39, 40, 41, 42, 43, 44, 45, 46, 47, 48, 49, 50, 51, 52, 53, 54, 55, 56, 57, 58, 59, 60, 61, 62] (by decide +kernel) (by decide +kernel)) (goodIn_sub (fun _ h => List.mem_cons_of_mem _ (List.mem_append_right _ h)) (by decide +kernel))
set_option maxRecDepth 20000 in
theorem gL_score_X9_score : GoodIn wsL_score (wsV RL 61 RX9 yX9_score wsX9_score) := goodIn_app (goodIn_of _ (by decide +kernel)) ggL_score_X9_score
theorem dL_score_0 : decode cL_score 0 = .ok (.aload_n 0, 1) := by decide +kernel
theorem dL_score_1 : decode cL_score 1 = .ok (.iload_n 1, 1) := by decide +kernel
theorem dL_score_2 : decode cL_score 2 = .ok (.invokevirtual 61, 3) := by decide +kernel
theorem dL_score_5 : decode cL_score 5 = .ok (.ireturn, 1) := by decide +kernel
theorem dL_score_6 : decode cL_score 6 = .ok (.astore_n 2, 1) := by decide +kernel
theorem dL_score_7 : decode cL_score 7 = .ok (.ldc 25, 2) := by decide +kernel
theorem dL_score_9 : decode cL_score 9 = .ok (.ireturn, 1) := by decide +kernel
set_option maxRecDepth 20000 in
theorem ggL_byLog_X9_scoreByLog : GoodIn wsL_byLog wsX9_scoreByLog := goodIn_ca (goodIn_r _ [7, 8, 9, 10, 6, 11, 12, 13, 14, 15, 16, 17, 18, 19, 20, 21, 22, 23, 24, 25, 26, 27, 28, 29, 30, 31, 32, 33, 34, 35, 36, 37, 38, 39, 40, 41, 42, 43, 44, 45, 46, 47, 48, 49, 50, 51, 52, 53, 54, 55, 56, 57, 58, 59, 60, 61, 62, 63, 64, 65, 66, 67, 68, 69, 70, 71, 72, 73, 74, 75, 76, 77, 78, 79, 80, 81, 82, 83, 84, 85, 86, 87, 88, 89, 90, 91, 92, 93, 94, 95, 96, 97, 98, 99, 100, 101, 102, 103, 104, 105, 106, 107, 108, 109, 110, 111, 112, 113, 114, 115, 116, 117, 118, 119, 120, 121, 122, 123, 124, 125, 126, 127, 128, 129, 130, 131] (by decide +kernel) (by decide +kernel)) (goodIn_sub (fun _ h => List.mem_cons_of_mem _ (List.mem_append_right _ h)) (by decide +kernel))
set_option maxRecDepth 20000 in
theorem gL_byLog_X9_scoreByLog : GoodIn wsL_byLog (wsV RL 64 RX9 yX9_scoreByLog wsX9_scoreByLog) := goodIn_app (goodIn_of _ (by decide +kernel)) ggL_byLog_X9_scoreByLog
theorem dL_byLog_0 : decode cL_byLog 0 = .ok (.aload_n 0, 1) := by decide +kernel
theorem dL_byLog_1 : decode cL_byLog 1 = .ok (.iload_n 1, 1) := by decide +kernel
theorem dL_byLog_2 : decode cL_byLog 2 = .ok (.invokevirtual 64, 3) := by decide +kernel
theorem dL_byLog_5 : decode cL_byLog 5 = .ok (.ireturn, 1) := by decide +kernel
theorem dL_byLog_6 : decode cL_byLog 6 = .ok (.astore_n 2, 1) := by decide +kernel
theorem dL_byLog_7 : decode cL_byLog 7 = .ok (.ldc 25, 2) := by decide +kernel
theorem dL_byLog_9 : decode cL_byLog 9 = .ok (.ireturn, 1) := by decide +kernel
set_option maxRecDepth 20000 in
theorem ggL_valid_X9_valid : GoodIn wsL_valid wsX9_valid := goodIn_ca (goodIn_r _ [7, 8, 9, 10, 6, 11, 12, 13, 14, 15, 16, 17, 18, 19, 20, 21, 22, 23, 24, 25, 26, 27, 28, 29, 30, 31, 32, 33, 34, 35, 36, 37, 38, 39, 40, 41, 42, 43, 44, 45, 46, 47, 48, 49, 50, 51, 52, 53, 54, 55, 56, 57, 58, 59, 60, 61, 62, 63, 64, 65, 66, 67, 68, 69, 70, 71, 72, 73, 74, 75, 76, 77, 78, 79, 80, 81, 82, 83, 84, 85, 86, 87, 88, 89, 90, 91, 92, 93, 94, 95, 96, 97, 98, 99, 100, 101, 102, 103, 104, 105, 106, 107, 108, 109, 110, 111, 112, 113, 114, 115, 116, 117, 118, 119, 120, 121, 122, 123, 124, 125, 126, 127, 128, 129, 130, 131] (by decide +kernel) (by decide +kernel)) (goodIn_sub (fun _ h => List.mem_cons_of_mem _ (List.mem_append_right _ h)) (by decide +kernel))
set_option maxRecDepth 20000 in
theorem gL_valid_X9_valid : GoodIn wsL_valid (wsV RL 67 RX9 yX9_valid wsX9_valid) := goodIn_app (goodIn_of _ (by decide +kernel)) ggL_valid_X9_valid
theorem dL_valid_0 : decode cL_valid 0 = .ok (.aload_n 0, 1) := by decide +kernel
theorem dL_valid_1 : decode cL_valid 1 = .ok (.iload_n 1, 1) := by decide +kernel
theorem dL_valid_2 : decode cL_valid 2 = .ok (.invokevirtual 67, 3) := by decide +kernel
theorem dL_valid_5 : decode cL_valid 5 = .ok (.ireturn, 1) := by decide +kernel
theorem dL_valid_6 : decode cL_valid 6 = .ok (.astore_n 2, 1) := by decide +kernel
theorem dL_valid_7 : decode cL_valid 7 = .ok (.ldc 25, 2) := by decide +kernel
theorem dL_valid_9 : decode cL_valid 9 = .ok (.ireturn, 1) := by decide +kernel
set_option maxRecDepth 20000 in
theorem ggL_logged_X9_logged : GoodIn wsL_logged wsX9_logged := goodIn_ca (goodIn_r _ [7, 8, 9, 10, 11, 6, 12, 13, 14, 15, 16, 17, 18, 19, 20, 21, 22, 23, 24, 25, 26, 27, 28, 29, 30, 31, 32, 33, 34, 35, 36, 37, 38, 39, 40, 41, 42, 43, 44, 45, 46, 47, 48, 49, 50, 51, 52, 53, 54, 55, 56, 57] (by decide +kernel) (by decide +kernel)) (goodIn_sub (fun _ h => List.mem_cons_of_mem _ (List.mem_append_right _ h)) (by decide +kernel))
set_option maxRecDepth 20000 in
theorem gL_logged_X9_logged : GoodIn wsL_logged (wsV RL 70 RX9 yX9_logged wsX9_logged) := goodIn_app (goodIn_of _ (by decide +kernel)) ggL_logged_X9_logged
theorem dL_logged_0 : decode cL_logged 0 = .ok (.aload_n 0, 1) := by decide +kernel
theorem dL_logged_1 : decode cL_logged 1 = .ok (.iload_n 1, 1) := by decide +kernel
theorem dL_logged_2 : decode cL_logged 2 = .ok (.invokevirtual 70, 3) := by decide +kernel
theorem dL_logged_5 : decode cL_logged 5 = .ok (.ireturn, 1) := by decide +kernel
theorem dL_logged_6 : decode cL_logged 6 = .ok (.astore_n 2, 1) := by decide +kernel
theorem dL_logged_7 : decode cL_logged 7 = .ok (.ldc 25, 2) := by decide +kernel
theorem dL_logged_9 : decode cL_logged 9 = .ok (.ireturn, 1) := by decide +kernel
set_option maxRecDepth 20000 in
theorem ggL_entry_X9_entryAt : GoodIn wsL_entry wsX9_entryAt := goodIn_ca (goodIn_r _ [7, 8, 9, 10, 11, 6, 12, 13, 14, 15, 16, 17, 18, 19, 20, 21, 22, 23, 24, 25, 26, 27, 28, 29, 30, 31, 32, 33, 34, 35, 36, 37, 38, 39, 40, 41, 42, 43, 44, 45, 46, 47, 48, 49, 50, 51, 52, 53, 54, 55, 56, 57, 58, 59, 60, 61, 62, 63, 64, 65, 66] (by decide +kernel) (by decide +kernel)) (goodIn_sub (fun _ h => List.mem_cons_of_mem _ (List.mem_append_right _ h)) (by decide +kernel))
set_option maxRecDepth 20000 in
theorem gL_entry_X9_entryAt : GoodIn wsL_entry (wsV RL 73 RX9 yX9_entryAt wsX9_entryAt) := goodIn_app (goodIn_of _ (by decide +kernel)) ggL_entry_X9_entryAt
theorem dL_entry_0 : decode cL_entry 0 = .ok (.aload_n 0, 1) := by decide +kernel
theorem dL_entry_1 : decode cL_entry 1 = .ok (.iload_n 1, 1) := by decide +kernel
theorem dL_entry_2 : decode cL_entry 2 = .ok (.iload_n 2, 1) := by decide +kernel
theorem dL_entry_3 : decode cL_entry 3 = .ok (.invokevirtual 73, 3) := by decide +kernel
theorem dL_entry_6 : decode cL_entry 6 = .ok (.lreturn, 1) := by decide +kernel
theorem dL_entry_7 : decode cL_entry 7 = .ok (.astore_n 3, 1) := by decide +kernel
theorem dL_entry_8 : decode cL_entry 8 = .ok (.ldc2_w 77, 3) := by decide +kernel
theorem dL_entry_11 : decode cL_entry 11 = .ok (.lreturn, 1) := by decide +kernel
set_option maxRecDepth 20000 in
theorem ggL_twin_X9_twin : GoodIn wsL_twin wsX9_twin := goodIn_ca (goodIn_r _ [7, 8, 9, 10, 11, 12, 13, 6, 14, 15, 16, 17, 18, 19, 20, 21, 22, 23, 24, 25, 26, 27, 28, 29, 30, 31, 32, 33, 34, 35, 36, 37, 38, 39, 40, 41, 42, 43, 44, 45, 46, 47, 48, 49, 50, 51, 52, 53, 54, 55, 56, 57, 58, 59, 60, 61, 62, 63, 64, 65, 66, 67, 68, 69, 70, 71, 72, 73] (by decide +kernel) (by decide +kernel)) (goodIn_sub (fun _ h => List.mem_cons_of_mem _ (List.mem_append_right _ h)) (by decide +kernel))
set_option maxRecDepth 20000 in
theorem gL_twin_X9_twin : GoodIn wsL_twin (wsV RL 79 RX9 yX9_twin wsX9_twin) := goodIn_app (goodIn_of _ (by decide +kernel)) ggL_twin_X9_twin
theorem dL_twin_0 : decode cL_twin 0 = .ok (.aload_n 0, 1) := by decide +kernel
theorem dL_twin_1 : decode cL_twin 1 = .ok (.iload_n 1, 1) := by decide +kernel
theorem dL_twin_2 : decode cL_twin 2 = .ok (.invokevirtual 79, 3) := by decide +kernel
theorem dL_twin_5 : decode cL_twin 5 = .ok (.ireturn, 1) := by decide +kernel
theorem dL_twin_6 : decode cL_twin 6 = .ok (.astore_n 2, 1) := by decide +kernel
theorem dL_twin_7 : decode cL_twin 7 = .ok (.ldc 25, 2) := by decide +kernel
theorem dL_twin_9 : decode cL_twin 9 = .ok (.ireturn, 1) := by decide +kernel
set_option maxRecDepth 20000 in
theorem ggL_high_X9_high : GoodIn wsL_high wsX9_high := goodIn_ca (goodIn_ca (goodIn_r _ [9, 10, 11, 12, 13, 14, 15, 8, 16, 17, 18, 19, 20, 21, 22, 23, 24, 25, 26, 27, 28, 29, 30, 31, 32, 33, 34, 35, 36, 37, 38, 39, 40, 41, 42, 43, 44, 45, 46, 47, 48, 49, 50, 51, 52, 53, 54, 55, 56, 57, 58, 59, 60, 61, 62, 63, 64, 65, 66, 67, 68, 69, 70, 71, 72, 73, 74, 75, 76, 77, 78, 79, 80, 81, 82, 83, 84, 85, 86, 87, 88, 89, 90, 91, 92, 93, 94, 95, 96, 97, 98, 99, 100, 101, 102, 103, 104, 105, 106, 107, 108, 109, 110, 111, 112, 113, 114, 115, 116, 117, 118, 119, 120, 121, 122, 123, 124, 125, 126, 127, 128, 129, 130, 131, 132, 133, 134, 135, 136, 137, 138, 139, 140, 141, 142, 143, 144, 145, 146, 147, 148, 149, 150, 151, 152, 153, 154, 155] (by decide +kernel) (by decide +kernel)) (goodIn_sub (fun _ h => List.mem_cons_of_mem _ (List.mem_append_left _ (List.mem_append_right _ h))) (by decide +kernel))) (goodIn_sub (fun _ h => List.mem_cons_of_mem _ (List.mem_append_right _ h)) (by decide +kernel))
set_option maxRecDepth 20000 in
theorem gL_high_X9_high : GoodIn wsL_high (wsV RL 82 RX9 yX9_high wsX9_high) := goodIn_app (goodIn_of _ (by decide +kernel)) ggL_high_X9_high
theorem dL_high_0 : decode cL_high 0 = .ok (.aload_n 0, 1) := by decide +kernel
theorem dL_high_1 : decode cL_high 1 = .ok (.iload_n 1, 1) := by decide +kernel
theorem dL_high_2 : decode cL_high 2 = .ok (.iload_n 2, 1) := by decide +kernel
theorem dL_high_3 : decode cL_high 3 = .ok (.invokevirtual 82, 3) := by decide +kernel
theorem dL_high_6 : decode cL_high 6 = .ok (.ireturn, 1) := by decide +kernel
theorem dL_high_7 : decode cL_high 7 = .ok (.astore_n 3, 1) := by decide +kernel
theorem dL_high_8 : decode cL_high 8 = .ok (.ldc 25, 2) := by decide +kernel
theorem dL_high_10 : decode cL_high 10 = .ok (.ireturn, 1) := by decide +kernel
theorem dL_high_11 : decode cL_high 11 = .ok (.astore_n 3, 1) := by decide +kernel
theorem dL_high_12 : decode cL_high 12 = .ok (.ldc 15, 2) := by decide +kernel
theorem dL_high_14 : decode cL_high 14 = .ok (.ireturn, 1) := by decide +kernel
set_option maxRecDepth 20000 in
theorem ggL_rob_X9_rob : GoodIn wsL_rob wsX9_rob := goodIn_ca (goodIn_ca (goodIn_ca (goodIn_r _ [11, 12, 13, 14, 15, 16, 17, 10, 18, 19, 20, 21, 22, 23, 24, 25, 26, 27, 28, 29, 30, 31, 32, 33, 34, 35, 36, 37, 38, 39, 40, 41, 42, 43, 44, 45, 46, 47, 48, 49, 50, 51, 52, 53, 54, 55, 56, 57, 58, 59, 60, 61, 62, 63, 64, 65, 66, 67, 68, 69, 70] (by decide +kernel) (by decide +kernel)) (goodIn_sub (fun _ h => List.mem_cons_of_mem _ (List.mem_append_left _ (List.mem_append_left _ (List.mem_append_right _ h)))) (by decide +kernel))) (goodIn_sub (fun _ h => List.mem_cons_of_mem _ (List.mem_append_left _ (List.mem_append_right _ h))) (by decide +kernel))) (goodIn_sub (fun _ h => List.mem_cons_of_mem _ (List.mem_append_right _ h)) (by decide +kernel))
set_option maxRecDepth 20000 in
theorem gL_rob_X9_rob : GoodIn wsL_rob (wsV RL 85 RX9 yX9_rob wsX9_rob) := goodIn_app (goodIn_of _ (by decide +kernel)) ggL_rob_X9_rob
theorem dL_rob_0 : decode cL_rob 0 = .ok (.aload_n 0, 1) := by decide +kernel
theorem dL_rob_1 : decode cL_rob 1 = .ok (.iload_n 1, 1) := by decide +kernel
theorem dL_rob_2 : decode cL_rob 2 = .ok (.iload_n 2, 1) := by decide +kernel
theorem dL_rob_3 : decode cL_rob 3 = .ok (.invokevirtual 85, 3) := by decide +kernel
theorem dL_rob_6 : decode cL_rob 6 = .ok (.ireturn, 1) := by decide +kernel
theorem dL_rob_7 : decode cL_rob 7 = .ok (.astore_n 3, 1) := by decide +kernel
theorem dL_rob_8 : decode cL_rob 8 = .ok (.ldc 25, 2) := by decide +kernel
theorem dL_rob_10 : decode cL_rob 10 = .ok (.ireturn, 1) := by decide +kernel
theorem dL_rob_11 : decode cL_rob 11 = .ok (.astore_n 3, 1) := by decide +kernel
theorem dL_rob_12 : decode cL_rob 12 = .ok (.ldc 15, 2) := by decide +kernel
theorem dL_rob_14 : decode cL_rob 14 = .ok (.ireturn, 1) := by decide +kernel
theorem dL_rob_15 : decode cL_rob 15 = .ok (.astore_n 3, 1) := by decide +kernel
theorem dL_rob_16 : decode cL_rob 16 = .ok (.ldc 18, 2) := by decide +kernel
theorem dL_rob_18 : decode cL_rob 18 = .ok (.ireturn, 1) := by decide +kernel
set_option maxRecDepth 20000 in
theorem ggL_box_X9_box : GoodIn wsL_box wsX9_box := goodIn_ca (goodIn_r _ [7, 8, 9, 10, 11, 6, 12, 13, 14, 15, 16, 17, 18, 19, 20, 21, 22, 23, 24, 25, 26, 27, 28, 29, 30, 31, 32, 33, 34, 35, 36, 37, 38, 39, 40, 41, 42, 43, 44, 45, 46, 47, 48, 49, 50, 51, 52, 53, 54, 55, 56, 57, 58, 59] (by decide +kernel) (by decide +kernel)) (goodIn_sub (fun _ h => List.mem_cons_of_mem _ (List.mem_append_right _ h)) (by decide +kernel))
set_option maxRecDepth 20000 in
theorem gL_box_X9_box : GoodIn wsL_box (wsV RL 88 RX9 yX9_box wsX9_box) := goodIn_app (goodIn_of _ (by decide +kernel)) ggL_box_X9_box
theorem dL_box_0 : decode cL_box 0 = .ok (.aload_n 0, 1) := by decide +kernel
theorem dL_box_1 : decode cL_box 1 = .ok (.iload_n 1, 1) := by decide +kernel
theorem dL_box_2 : decode cL_box 2 = .ok (.invokevirtual 88, 3) := by decide +kernel
theorem dL_box_5 : decode cL_box 5 = .ok (.ireturn, 1) := by decide +kernel
theorem dL_box_6 : decode cL_box 6 = .ok (.astore_n 2, 1) := by decide +kernel
theorem dL_box_7 : decode cL_box 7 = .ok (.ldc 25, 2) := by decide +kernel
theorem dL_box_9 : decode cL_box 9 = .ok (.ireturn, 1) := by decide +kernel
set_option maxRecDepth 20000 in
theorem ggL_missing_X9_missing : GoodIn wsL_missing wsX9_missing := goodIn_ca (goodIn_r _ [7, 8, 9, 10, 11, 6, 12, 13, 14, 15, 16, 17, 18, 19, 20, 21, 22, 23, 24, 25, 26, 27, 28, 29, 30, 31, 32, 33, 34, 35, 36, 37, 38, 39, 40, 41, 42, 43, 44, 45, 46, 47, 48, 49, 50, 51, 52, 53, 54, 55, 56, 57, 58, 59] (by decide +kernel) (by decide +kernel)) (goodIn_sub (fun _ h => List.mem_cons_of_mem _ (List.mem_append_right _ h)) (by decide +kernel))
set_option maxRecDepth 20000 in
theorem gL_missing_X9_missing : GoodIn wsL_missing (wsV RL 91 RX9 yX9_missing wsX9_missing) := goodIn_app (goodIn_of _ (by decide +kernel)) ggL_missing_X9_missing
theorem dL_missing_0 : decode cL_missing 0 = .ok (.aload_n 0, 1) := by decide +kernel
theorem dL_missing_1 : decode cL_missing 1 = .ok (.iload_n 1, 1) := by decide +kernel
theorem dL_missing_2 : decode cL_missing 2 = .ok (.invokevirtual 91, 3) := by decide +kernel
theorem dL_missing_5 : decode cL_missing 5 = .ok (.ireturn, 1) := by decide +kernel
theorem dL_missing_6 : decode cL_missing 6 = .ok (.astore_n 2, 1) := by decide +kernel
theorem dL_missing_7 : decode cL_missing 7 = .ok (.ldc 25, 2) := by decide +kernel
theorem dL_missing_9 : decode cL_missing 9 = .ok (.ireturn, 1) := by decide +kernel
set_option maxRecDepth 20000 in
theorem ggL_load_X9_load : GoodIn wsL_load wsX9_load := goodIn_ca (goodIn_ca (goodIn_ca (goodIn_r _ [11, 12, 13, 14, 15, 16, 10, 17, 18, 19, 20, 21, 22, 23, 24, 25, 26, 27, 28, 29, 30, 31, 32, 33, 34, 35, 36, 37, 38, 39, 40, 41, 42, 43, 44, 45, 46, 47] (by decide +kernel) (by decide +kernel)) (goodIn_sub (fun _ h => List.mem_cons_of_mem _ (List.mem_append_left _ (List.mem_append_left _ (List.mem_append_right _ h)))) (by decide +kernel))) (goodIn_sub (fun _ h => List.mem_cons_of_mem _ (List.mem_append_left _ (List.mem_append_right _ h))) (by decide +kernel))) (goodIn_sub (fun _ h => List.mem_cons_of_mem _ (List.mem_append_right _ h)) (by decide +kernel))
set_option maxRecDepth 20000 in
theorem gL_load_X9_load : GoodIn wsL_load (wsV RL 94 RX9 yX9_load wsX9_load) := goodIn_app (goodIn_of _ (by decide +kernel)) ggL_load_X9_load
theorem dL_load_0 : decode cL_load 0 = .ok (.aload_n 0, 1) := by decide +kernel
theorem dL_load_1 : decode cL_load 1 = .ok (.iload_n 1, 1) := by decide +kernel
theorem dL_load_2 : decode cL_load 2 = .ok (.iload_n 2, 1) := by decide +kernel
theorem dL_load_3 : decode cL_load 3 = .ok (.iload_n 3, 1) := by decide +kernel
theorem dL_load_4 : decode cL_load 4 = .ok (.invokevirtual 94, 3) := by decide +kernel
theorem dL_load_7 : decode cL_load 7 = .ok (.ireturn, 1) := by decide +kernel
theorem dL_load_8 : decode cL_load 8 = .ok (.astore 4, 2) := by decide +kernel
theorem dL_load_10 : decode cL_load 10 = .ok (.ldc 25, 2) := by decide +kernel
theorem dL_load_12 : decode cL_load 12 = .ok (.ireturn, 1) := by decide +kernel
theorem dL_load_13 : decode cL_load 13 = .ok (.astore 4, 2) := by decide +kernel
theorem dL_load_15 : decode cL_load 15 = .ok (.ldc 15, 2) := by decide +kernel
theorem dL_load_17 : decode cL_load 17 = .ok (.ireturn, 1) := by decide +kernel
theorem dL_load_18 : decode cL_load 18 = .ok (.astore 4, 2) := by decide +kernel
theorem dL_load_20 : decode cL_load 20 = .ok (.ldc 18, 2) := by decide +kernel
theorem dL_load_22 : decode cL_load 22 = .ok (.ireturn, 1) := by decide +kernel
set_option maxRecDepth 20000 in
theorem ggL_parts_X9_parts : GoodIn wsL_parts wsX9_parts := goodIn_ca (goodIn_ca (goodIn_r _ [9, 10, 11, 12, 8, 13, 14, 15, 16, 17, 18, 19, 20, 21, 22, 23, 24, 25, 26, 27, 28, 29, 30, 31, 32, 33, 34, 35, 36, 37, 38, 39] (by decide +kernel) (by decide +kernel)) (goodIn_sub (fun _ h => List.mem_cons_of_mem _ (List.mem_append_left _ (List.mem_append_right _ h))) (by decide +kernel))) (goodIn_sub (fun _ h => List.mem_cons_of_mem _ (List.mem_append_right _ h)) (by decide +kernel))
set_option maxRecDepth 20000 in
theorem gL_parts_X9_parts : GoodIn wsL_parts (wsV RL 97 RX9 yX9_parts wsX9_parts) := goodIn_app (goodIn_of _ (by decide +kernel)) ggL_parts_X9_parts
theorem dL_parts_0 : decode cL_parts 0 = .ok (.aload_n 0, 1) := by decide +kernel
theorem dL_parts_1 : decode cL_parts 1 = .ok (.iload_n 1, 1) := by decide +kernel
theorem dL_parts_2 : decode cL_parts 2 = .ok (.iload_n 2, 1) := by decide +kernel
theorem dL_parts_3 : decode cL_parts 3 = .ok (.invokevirtual 97, 3) := by decide +kernel
theorem dL_parts_6 : decode cL_parts 6 = .ok (.ireturn, 1) := by decide +kernel
theorem dL_parts_7 : decode cL_parts 7 = .ok (.astore_n 3, 1) := by decide +kernel
theorem dL_parts_8 : decode cL_parts 8 = .ok (.ldc 25, 2) := by decide +kernel
theorem dL_parts_10 : decode cL_parts 10 = .ok (.ireturn, 1) := by decide +kernel
theorem dL_parts_11 : decode cL_parts 11 = .ok (.astore_n 3, 1) := by decide +kernel
theorem dL_parts_12 : decode cL_parts 12 = .ok (.ldc 15, 2) := by decide +kernel
theorem dL_parts_14 : decode cL_parts 14 = .ok (.ireturn, 1) := by decide +kernel
set_option maxRecDepth 20000 in
theorem ggL_wanted_X9_wanted : GoodIn wsL_wanted wsX9_wanted := goodIn_ca (goodIn_r _ [7, 8, 9, 10, 11, 12, 13, 14, 15, 16, 17, 6, 18, 19, 20, 21, 22, 23, 24, 25, 26, 27, 28, 29, 30, 31, 32, 33, 34, 35, 36, 37, 38, 39, 40, 41, 42, 43, 44, 45, 46, 47, 48, 49, 50, 51, 52, 53, 54, 55, 56, 57, 58, 59, 60, 61, 62, 63, 64, 65, 66, 67, 68, 69, 70, 71, 72, 73, 74, 75, 76, 77, 78, 79, 80, 81, 82, 83, 84, 85, 86, 87, 88, 89, 90, 91, 92, 93, 94] (by decide +kernel) (by decide +kernel)) (goodIn_sub (fun _ h => List.mem_cons_of_mem _ (List.mem_append_right _ h)) (by decide +kernel))
set_option maxRecDepth 20000 in
theorem gL_wanted_X9_wanted : GoodIn wsL_wanted (wsV RL 100 RX9 yX9_wanted wsX9_wanted) := goodIn_app (goodIn_of _ (by decide +kernel)) ggL_wanted_X9_wanted
theorem dL_wanted_0 : decode cL_wanted 0 = .ok (.aload_n 0, 1) := by decide +kernel
theorem dL_wanted_1 : decode cL_wanted 1 = .ok (.iload_n 1, 1) := by decide +kernel
theorem dL_wanted_2 : decode cL_wanted 2 = .ok (.invokevirtual 100, 3) := by decide +kernel
theorem dL_wanted_5 : decode cL_wanted 5 = .ok (.ireturn, 1) := by decide +kernel
theorem dL_wanted_6 : decode cL_wanted 6 = .ok (.astore_n 2, 1) := by decide +kernel
theorem dL_wanted_7 : decode cL_wanted 7 = .ok (.ldc 15, 2) := by decide +kernel
theorem dL_wanted_9 : decode cL_wanted 9 = .ok (.ireturn, 1) := by decide +kernel
set_option maxRecDepth 20000 in
theorem ggL_way_X9_way : GoodIn wsL_way wsX9_way := goodIn_ca (goodIn_r _ [7, 8, 9, 10, 11, 12, 13, 14, 6, 15, 16, 17, 18, 19, 20, 21, 22, 23, 24, 25, 26, 27, 28, 29, 30, 31, 32, 33, 34, 35, 36, 37, 38, 39, 40, 41, 42, 43, 44, 45, 46, 47, 48, 49, 50, 51, 52, 53, 54, 55, 56, 57, 58, 59, 60, 61, 62, 63, 64, 65, 66, 67, 68, 69, 70, 71, 72, 73, 74, 75, 76, 77, 78, 79, 80, 81, 82, 83, 84, 85, 86, 87, 88, 89, 90, 91, 92, 93, 94, 95, 96, 97, 98, 99, 100, 101, 102, 103, 104, 105, 106, 107, 108, 109, 110, 111, 112, 113, 114, 115, 116, 117, 118, 119, 120, 121, 122, 123, 124, 125, 126, 127, 128, 129, 130, 131, 132, 133, 134, 135, 136, 137] (by decide +kernel) (by decide +kernel)) (goodIn_sub (fun _ h => List.mem_cons_of_mem _ (List.mem_append_right _ h)) (by decide +kernel))
set_option maxRecDepth 20000 in
theorem gL_way_X9_way : GoodIn wsL_way (wsV RL 103 RX9 yX9_way wsX9_way) := goodIn_app (goodIn_of _ (by decide +kernel)) ggL_way_X9_way
theorem dL_way_0 : decode cL_way 0 = .ok (.aload_n 0, 1) := by decide +kernel
theorem dL_way_1 : decode cL_way 1 = .ok (.iload_n 1, 1) := by decide +kernel
theorem dL_way_2 : decode cL_way 2 = .ok (.invokevirtual 103, 3) := by decide +kernel
theorem dL_way_5 : decode cL_way 5 = .ok (.ireturn, 1) := by decide +kernel
theorem dL_way_6 : decode cL_way 6 = .ok (.astore_n 2, 1) := by decide +kernel
theorem dL_way_7 : decode cL_way 7 = .ok (.ldc 25, 2) := by decide +kernel
theorem dL_way_9 : decode cL_way 9 = .ok (.ireturn, 1) := by decide +kernel
set_option maxRecDepth 20000 in
theorem ggL_planned_X9_planned : GoodIn wsL_planned wsX9_planned := goodIn_ca (goodIn_r _ [7, 8, 9, 10, 11, 12, 13, 14, 6, 15, 16, 17, 18, 19, 20, 21, 22, 23, 24, 25, 26, 27, 28, 29, 30, 31, 32, 33, 34, 35, 36, 37, 38, 39, 40, 41, 42, 43, 44, 45, 46, 47, 48, 49, 50, 51, 52, 53, 54, 55, 56, 57, 58, 59, 60, 61, 62, 63, 64, 65, 66, 67, 68, 69, 70, 71, 72, 73, 74, 75, 76, 77, 78, 79, 80, 81, 82, 83, 84, 85, 86, 87, 88, 89, 90, 91, 92, 93, 94, 95, 96, 97, 98, 99, 100, 101, 102, 103, 104, 105, 106, 107, 108, 109, 110, 111, 112, 113, 114, 115, 116, 117, 118, 119, 120, 121, 122, 123, 124, 125, 126, 127, 128, 129, 130, 131, 132, 133, 134, 135, 136, 137, 138, 139, 140, 141, 142, 143, 144] (by decide +kernel) (by decide +kernel)) (goodIn_sub (fun _ h => List.mem_cons_of_mem _ (List.mem_append_right _ h)) (by decide +kernel))
set_option maxRecDepth 20000 in
theorem gL_planned_X9_planned : GoodIn wsL_planned (wsV RL 106 RX9 yX9_planned wsX9_planned) := goodIn_app (goodIn_of _ (by decide +kernel)) ggL_planned_X9_planned
theorem dL_planned_0 : decode cL_planned 0 = .ok (.aload_n 0, 1) := by decide +kernel
theorem dL_planned_1 : decode cL_planned 1 = .ok (.iload_n 1, 1) := by decide +kernel
theorem dL_planned_2 : decode cL_planned 2 = .ok (.iload_n 2, 1) := by decide +kernel
theorem dL_planned_3 : decode cL_planned 3 = .ok (.invokevirtual 106, 3) := by decide +kernel
theorem dL_planned_6 : decode cL_planned 6 = .ok (.ireturn, 1) := by decide +kernel
theorem dL_planned_7 : decode cL_planned 7 = .ok (.astore_n 3, 1) := by decide +kernel
theorem dL_planned_8 : decode cL_planned 8 = .ok (.ldc 25, 2) := by decide +kernel
theorem dL_planned_10 : decode cL_planned 10 = .ok (.ireturn, 1) := by decide +kernel
set_option maxRecDepth 20000 in
theorem ggL_go_X9_go : GoodIn wsL_go wsX9_go := goodIn_ca (goodIn_ca (goodIn_r _ [9, 10, 11, 12, 13, 14, 15, 16, 17, 18, 19, 8, 20, 21, 22, 23, 24, 25, 26, 27, 28, 29, 30, 31, 32, 33, 34, 35, 36, 37, 38, 39, 40, 41, 42, 43, 44, 45, 46, 47, 48, 49, 50, 51, 52, 53, 54, 55, 56, 57, 58, 59, 60, 61, 62, 63, 64, 65, 66, 67, 68, 69, 70, 71, 72, 73, 74, 75, 76, 77, 78, 79, 80, 81, 82, 83, 84, 85, 86, 87, 88, 89, 90, 91, 92, 93, 94, 95, 96, 97, 98, 99, 100, 101, 102, 103, 104, 105, 106, 107, 108, 109, 110, 111, 112, 113, 114, 115, 116, 117, 118, 119, 120, 121, 122, 123, 124, 125, 126, 127, 128, 129, 130, 131, 132, 133, 134, 135, 136, 137, 138, 139, 140, 141, 142, 143, 144, 145, 146, 147, 148, 149, 150, 151, 152, 153, 154, 155, 156, 157, 158, 159, 160, 161, 162, 163, 164, 165, 166, 167, 168, 169, 170, 171, 172, 173, 174, 175, 176, 177, 178, 179, 180, 181, 182, 183, 184, 185, 186] (by decide +kernel) (by decide +kernel)) (goodIn_sub (fun _ h => List.mem_cons_of_mem _ (List.mem_append_left _ (List.mem_append_right _ h))) (by decide +kernel))) (goodIn_sub (fun _ h => List.mem_cons_of_mem _ (List.mem_append_right _ h)) (by decide +kernel))
set_option maxRecDepth 20000 in
theorem gL_go_X9_go : GoodIn wsL_go (wsV RL 109 RX9 yX9_go wsX9_go) := goodIn_app (goodIn_of _ (by decide +kernel)) ggL_go_X9_go
theorem dL_go_0 : decode cL_go 0 = .ok (.aload_n 0, 1) := by decide +kernel
theorem dL_go_1 : decode cL_go 1 = .ok (.iload_n 1, 1) := by decide +kernel
theorem dL_go_2 : decode cL_go 2 = .ok (.invokevirtual 109, 3) := by decide +kernel
theorem dL_go_5 : decode cL_go 5 = .ok (.ireturn, 1) := by decide +kernel
theorem dL_go_6 : decode cL_go 6 = .ok (.astore_n 2, 1) := by decide +kernel
theorem dL_go_7 : decode cL_go 7 = .ok (.ldc 25, 2) := by decide +kernel
theorem dL_go_9 : decode cL_go 9 = .ok (.ireturn, 1) := by decide +kernel
theorem dL_go_10 : decode cL_go 10 = .ok (.astore_n 2, 1) := by decide +kernel
theorem dL_go_11 : decode cL_go 11 = .ok (.ldc 18, 2) := by decide +kernel
theorem dL_go_13 : decode cL_go 13 = .ok (.ireturn, 1) := by decide +kernel
set_option maxRecDepth 20000 in
theorem ggL_vanAt_X9_vanAt : GoodIn wsL_vanAt wsX9_vanAt := goodIn_ca (goodIn_r _ [7, 8, 9, 10, 11, 6, 12, 13, 14, 15, 16, 17, 18, 19, 20, 21, 22, 23, 24, 25, 26, 27] (by decide +kernel) (by decide +kernel)) (goodIn_sub (fun _ h => List.mem_cons_of_mem _ (List.mem_append_right _ h)) (by decide +kernel))
set_option maxRecDepth 20000 in
theorem gL_vanAt_X9_vanAt : GoodIn wsL_vanAt (wsV RL 112 RX9 yX9_vanAt wsX9_vanAt) := goodIn_app (goodIn_of _ (by decide +kernel)) ggL_vanAt_X9_vanAt
theorem dL_vanAt_0 : decode cL_vanAt 0 = .ok (.aload_n 0, 1) := by decide +kernel
theorem dL_vanAt_1 : decode cL_vanAt 1 = .ok (.iload_n 1, 1) := by decide +kernel
theorem dL_vanAt_2 : decode cL_vanAt 2 = .ok (.invokevirtual 112, 3) := by decide +kernel
theorem dL_vanAt_5 : decode cL_vanAt 5 = .ok (.ireturn, 1) := by decide +kernel
theorem dL_vanAt_6 : decode cL_vanAt 6 = .ok (.astore_n 2, 1) := by decide +kernel
theorem dL_vanAt_7 : decode cL_vanAt 7 = .ok (.ldc 25, 2) := by decide +kernel
theorem dL_vanAt_9 : decode cL_vanAt 9 = .ok (.ireturn, 1) := by decide +kernel
theorem dL_drawn_0 : decode cL_drawn 0 = .ok (.iload_n 1, 1) := by decide +kernel
theorem dL_drawn_1 : decode cL_drawn 1 = .ok (.aload_n 0, 1) := by decide +kernel
theorem dL_drawn_2 : decode cL_drawn 2 = .ok (.arraylength, 1) := by decide +kernel
theorem dL_drawn_3 : decode cL_drawn 3 = .ok (.if_icmp .ge 9, 3) := by decide +kernel
theorem dL_drawn_6 : decode cL_drawn 6 = .ok (.aload_n 0, 1) := by decide +kernel
theorem dL_drawn_7 : decode cL_drawn 7 = .ok (.iload_n 1, 1) := by decide +kernel
theorem dL_drawn_8 : decode cL_drawn 8 = .ok (.iaload, 1) := by decide +kernel
theorem dL_drawn_9 : decode cL_drawn 9 = .ok (.goto 13, 3) := by decide +kernel
theorem dL_drawn_12 : decode cL_drawn 12 = .ok (.ldc 115, 2) := by decide +kernel
theorem dL_drawn_14 : decode cL_drawn 14 = .ok (.iload_n 1, 1) := by decide +kernel
theorem dL_drawn_15 : decode cL_drawn 15 = .ok (.iconst 3, 1) := by decide +kernel
theorem dL_drawn_16 : decode cL_drawn 16 = .ok (.iadd, 1) := by decide +kernel
theorem dL_drawn_17 : decode cL_drawn 17 = .ok (.imul, 1) := by decide +kernel
theorem dL_drawn_18 : decode cL_drawn 18 = .ok (.sipush 14087, 3) := by decide +kernel
theorem dL_drawn_21 : decode cL_drawn 21 = .ok (.iadd, 1) := by decide +kernel
theorem dL_drawn_22 : decode cL_drawn 22 = .ok (.ldc 116, 2) := by decide +kernel
theorem dL_drawn_24 : decode cL_drawn 24 = .ok (.iand, 1) := by decide +kernel
theorem dL_drawn_25 : decode cL_drawn 25 = .ok (.ireturn, 1) := by decide +kernel
