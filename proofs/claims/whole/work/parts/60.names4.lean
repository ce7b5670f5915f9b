set_option maxRecDepth 20000 in
theorem gL_setMode_X9_setMode : GoodIn wsL_setMode (wsV RL 27 RX9 yX9_setMode wsX9_setMode) := goodIn_app (goodIn_of _ (by decide +kernel)) ggL_setMode_X9_setMode
theorem dL_setMode_0 : decode cL_setMode 0 = .ok (.aload 6, 2) := by decide +kernel
theorem dL_setMode_2 : decode cL_setMode 2 = .ok (.iconst 0, 1) := by decide +kernel
theorem dL_setMode_3 : decode cL_setMode 3 = .ok (.aload_n 0, 1) := by decide +kernel
theorem dL_setMode_4 : decode cL_setMode 4 = .ok (.iload_n 1, 1) := by decide +kernel
theorem dL_setMode_5 : decode cL_setMode 5 = .ok (.iload_n 2, 1) := by decide +kernel
theorem dL_setMode_6 : decode cL_setMode 6 = .ok (.iload_n 3, 1) := by decide +kernel
theorem dL_setMode_7 : decode cL_setMode 7 = .ok (.iload 4, 2) := by decide +kernel
theorem dL_setMode_9 : decode cL_setMode 9 = .ok (.iload 5, 2) := by decide +kernel
theorem dL_setMode_11 : decode cL_setMode 11 = .ok (.invokevirtual 27, 3) := by decide +kernel
theorem dL_setMode_14 : decode cL_setMode 14 = .ok (.ifCond .eq 7, 3) := by decide +kernel
theorem dL_setMode_17 : decode cL_setMode 17 = .ok (.lconst 1, 1) := by decide +kernel
theorem dL_setMode_18 : decode cL_setMode 18 = .ok (.goto 4, 3) := by decide +kernel
theorem dL_setMode_21 : decode cL_setMode 21 = .ok (.lconst 0, 1) := by decide +kernel
theorem dL_setMode_22 : decode cL_setMode 22 = .ok (.lastore, 1) := by decide +kernel
theorem dL_setMode_23 : decode cL_setMode 23 = .ok (.goto 15, 3) := by decide +kernel
theorem dL_setMode_26 : decode cL_setMode 26 = .ok (.astore 7, 2) := by decide +kernel
theorem dL_setMode_28 : decode cL_setMode 28 = .ok (.iconst 1, 1) := by decide +kernel
theorem dL_setMode_29 : decode cL_setMode 29 = .ok (.ireturn, 1) := by decide +kernel
theorem dL_setMode_30 : decode cL_setMode 30 = .ok (.astore 7, 2) := by decide +kernel
theorem dL_setMode_32 : decode cL_setMode 32 = .ok (.iconst 2, 1) := by decide +kernel
theorem dL_setMode_33 : decode cL_setMode 33 = .ok (.ireturn, 1) := by decide +kernel
theorem dL_setMode_34 : decode cL_setMode 34 = .ok (.astore 7, 2) := by decide +kernel
theorem dL_setMode_36 : decode cL_setMode 36 = .ok (.iconst 3, 1) := by decide +kernel
theorem dL_setMode_37 : decode cL_setMode 37 = .ok (.ireturn, 1) := by decide +kernel
theorem dL_setMode_38 : decode cL_setMode 38 = .ok (.iconst 0, 1) := by decide +kernel
theorem dL_setMode_39 : decode cL_setMode 39 = .ok (.ireturn, 1) := by decide +kernel
set_option maxRecDepth 20000 in
theorem ggL_stick_X9_stick : GoodIn wsL_stick wsX9_stick := goodIn_ca (goodIn_ca (goodIn_r _ [7, 8, 9, 10, 11, 12, 13, 14, 6, 15, 16, 17, 18, 19, 20, 21, 22, 23, 24, 25, 26, 27, 28, 29, 30, 31, 32, 33, 34, 35, 36, 37, 38, 39, 40, 41, 42, 43, 44, 45, 46, 47, 48, 49, 50, 51, 52, 53, 54, 55, 56, 57, 58, 59, 60, 61, 62, 63, 64, 65, 66, 67, 68, 69, 70, 71, 72, 73, 74] (by decide +kernel) (by decide +kernel)) (goodIn_sub (fun _ h => List.mem_cons_of_mem _ (List.mem_append_left _ (List.mem_append_right _ h))) (by decide +kernel))) (goodIn_sub (fun _ h => List.mem_cons_of_mem _ (List.mem_append_right _ h)) (by decide +kernel))
set_option maxRecDepth 20000 in
theorem gL_stick_X9_stick : GoodIn wsL_stick (wsV RL 31 RX9 yX9_stick wsX9_stick) := goodIn_app (goodIn_of _ (by decide +kernel)) ggL_stick_X9_stick
theorem dL_stick_0 : decode cL_stick 0 = .ok (.aload_n 3, 1) := by decide +kernel
theorem dL_stick_1 : decode cL_stick 1 = .ok (.iconst 0, 1) := by decide +kernel
theorem dL_stick_2 : decode cL_stick 2 = .ok (.aload_n 0, 1) := by decide +kernel
theorem dL_stick_3 : decode cL_stick 3 = .ok (.iload_n 1, 1) := by decide +kernel
theorem dL_stick_4 : decode cL_stick 4 = .ok (.iload_n 2, 1) := by decide +kernel
theorem dL_stick_5 : decode cL_stick 5 = .ok (.invokevirtual 31, 3) := by decide +kernel
theorem dL_stick_8 : decode cL_stick 8 = .ok (.i2l, 1) := by decide +kernel
theorem dL_stick_9 : decode cL_stick 9 = .ok (.lastore, 1) := by decide +kernel
theorem dL_stick_10 : decode cL_stick 10 = .ok (.goto 11, 3) := by decide +kernel
theorem dL_stick_13 : decode cL_stick 13 = .ok (.astore 4, 2) := by decide +kernel
theorem dL_stick_15 : decode cL_stick 15 = .ok (.iconst 1, 1) := by decide +kernel
theorem dL_stick_16 : decode cL_stick 16 = .ok (.ireturn, 1) := by decide +kernel
theorem dL_stick_17 : decode cL_stick 17 = .ok (.astore 4, 2) := by decide +kernel
theorem dL_stick_19 : decode cL_stick 19 = .ok (.iconst 2, 1) := by decide +kernel
theorem dL_stick_20 : decode cL_stick 20 = .ok (.ireturn, 1) := by decide +kernel
theorem dL_stick_21 : decode cL_stick 21 = .ok (.iconst 0, 1) := by decide +kernel
theorem dL_stick_22 : decode cL_stick 22 = .ok (.ireturn, 1) := by decide +kernel
set_option maxRecDepth 20000 in
theorem ggL_sticks_X9_sticks : GoodIn wsL_sticks wsX9_sticks := goodIn_ca (goodIn_r _ [6, 7, 8, 9, 10, 5, 11, 12, 13, 14, 15, 16, 17, 18, 19, 20, 21, 22, 23, 24, 25, 26, 27, 28, 29, 30, 31, 32, 33, 34, 35, 36, 37, 38, 39, 40, 41, 42, 43, 44, 45, 46, 47, 48, 49, 50, 51, 52, 53, 54, 55, 56, 57, 58, 59, 60, 61, 62, 63, 64, 65, 66, 67, 68, 69, 70] (by decide +kernel) (by decide +kernel)) (goodIn_sub (fun _ h => List.mem_cons_of_mem _ (List.mem_append_right _ h)) (by decide +kernel))
set_option maxRecDepth 20000 in
theorem gL_sticks_X9_sticks : GoodIn wsL_sticks (wsV RL 34 RX9 yX9_sticks wsX9_sticks) := goodIn_app (goodIn_of _ (by decide +kernel)) ggL_sticks_X9_sticks
theorem dL_sticks_0 : decode cL_sticks 0 = .ok (.aload_n 3, 1) := by decide +kernel
theorem dL_sticks_1 : decode cL_sticks 1 = .ok (.iconst 0, 1) := by decide +kernel
theorem dL_sticks_2 : decode cL_sticks 2 = .ok (.aload_n 0, 1) := by decide +kernel
theorem dL_sticks_3 : decode cL_sticks 3 = .ok (.iload_n 1, 1) := by decide +kernel
theorem dL_sticks_4 : decode cL_sticks 4 = .ok (.iload_n 2, 1) := by decide +kernel
theorem dL_sticks_5 : decode cL_sticks 5 = .ok (.invokevirtual 34, 3) := by decide +kernel
theorem dL_sticks_8 : decode cL_sticks 8 = .ok (.ifCond .eq 7, 3) := by decide +kernel
theorem dL_sticks_11 : decode cL_sticks 11 = .ok (.lconst 1, 1) := by decide +kernel
theorem dL_sticks_12 : decode cL_sticks 12 = .ok (.goto 4, 3) := by decide +kernel
theorem dL_sticks_15 : decode cL_sticks 15 = .ok (.lconst 0, 1) := by decide +kernel
theorem dL_sticks_16 : decode cL_sticks 16 = .ok (.lastore, 1) := by decide +kernel
theorem dL_sticks_17 : decode cL_sticks 17 = .ok (.goto 7, 3) := by decide +kernel
theorem dL_sticks_20 : decode cL_sticks 20 = .ok (.astore 4, 2) := by decide +kernel
theorem dL_sticks_22 : decode cL_sticks 22 = .ok (.iconst 1, 1) := by decide +kernel
theorem dL_sticks_23 : decode cL_sticks 23 = .ok (.ireturn, 1) := by decide +kernel
theorem dL_sticks_24 : decode cL_sticks 24 = .ok (.iconst 0, 1) := by decide +kernel
theorem dL_sticks_25 : decode cL_sticks 25 = .ok (.ireturn, 1) := by decide +kernel
set_option maxRecDepth 20000 in
theorem ggL_wear_X9_wear : GoodIn wsL_wear wsX9_wear := goodIn_ca (goodIn_r _ [6, 7, 8, 9, 10, 5, 11, 12, 13, 14, 15, 16, 17, 18, 19, 20, 21, 22, 23, 24, 25, 26, 27, 28, 29, 30, 31, 32, 33, 34, 35, 36, 37, 38, 39, 40, 41, 42, 43, 44, 45, 46, 47, 48, 49, 50, 51, 52, 53, 54, 55, 56, 57, 58, 59, 60, 61, 62, 63, 64, 65, 66, 67, 68, 69, 70] (by decide +kernel) (by decide +kernel)) (goodIn_sub (fun _ h => List.mem_cons_of_mem _ (List.mem_append_right _ h)) (by decide +kernel))
set_option maxRecDepth 20000 in
theorem gL_wear_X9_wear : GoodIn wsL_wear (wsV RL 38 RX9 yX9_wear wsX9_wear) := goodIn_app (goodIn_of _ (by decide +kernel)) ggL_wear_X9_wear
theorem dL_wear_0 : decode cL_wear 0 = .ok (.aload_n 3, 1) := by decide +kernel
theorem dL_wear_1 : decode cL_wear 1 = .ok (.iconst 0, 1) := by decide +kernel
theorem dL_wear_2 : decode cL_wear 2 = .ok (.aload_n 0, 1) := by decide +kernel
theorem dL_wear_3 : decode cL_wear 3 = .ok (.iload_n 1, 1) := by decide +kernel
theorem dL_wear_4 : decode cL_wear 4 = .ok (.iload_n 2, 1) := by decide +kernel
theorem dL_wear_5 : decode cL_wear 5 = .ok (.invokevirtual 38, 3) := by decide +kernel
theorem dL_wear_8 : decode cL_wear 8 = .ok (.i2l, 1) := by decide +kernel
theorem dL_wear_9 : decode cL_wear 9 = .ok (.lastore, 1) := by decide +kernel
theorem dL_wear_10 : decode cL_wear 10 = .ok (.goto 7, 3) := by decide +kernel
theorem dL_wear_13 : decode cL_wear 13 = .ok (.astore 4, 2) := by decide +kernel
theorem dL_wear_15 : decode cL_wear 15 = .ok (.iconst 1, 1) := by decide +kernel
theorem dL_wear_16 : decode cL_wear 16 = .ok (.ireturn, 1) := by decide +kernel
theorem dL_wear_17 : decode cL_wear 17 = .ok (.iconst 0, 1) := by decide +kernel
theorem dL_wear_18 : decode cL_wear 18 = .ok (.ireturn, 1) := by decide +kernel
set_option maxRecDepth 20000 in
theorem ggL_coin_X9_coin : GoodIn wsL_coin wsX9_coin := goodIn_ca (goodIn_ca (goodIn_r _ [7, 8, 9, 10, 11, 12, 13, 14, 15, 16, 17, 18, 19, 20, 21, 6, 22, 23, 24, 25, 26, 27, 28, 29, 30, 31, 32, 33, 34, 35, 36, 37, 38, 39, 40, 41, 42, 43, 44, 45, 46, 47, 48, 49, 50, 51, 52, 53, 54, 55, 56, 57, 58, 59, 60, 61, 62, 63, 64, 65, 66, 67, 68, 69, 70, 71, 72, 73, 74, 75, 76, 77, 78, 79, 80, 81, 82, 83, 84, 85, 86, 87, 88, 89, 90, 91, 92, 93, 94, 95, 96, 97, 98, 99, 100, 101, 102, 103, 104, 105, 106, 107, 108, 109, 110, 111, 112, 113, 114, 115, 116, 117, 118, 119, 120, 121, 122, 123, 124, 125, 126, 127, 128, 129, 130, 131, 132, 133, 134, 135, 136, 137, 138, 139, 140, 141, 142, 143, 144, 145, 146, 147, 148, 149, 150, 151, 152, 153, 154, 155, 156, 157, 158, 159, 160, 161, 162, 163, 164, 165, 166, 167, 168, 169, 170, 171, 172, 173, 174, 175, 176, 177, 178, 179, 180, 181, 182, 183] (by decide +kernel) (by decide +kernel)) (goodIn_sub (fun _ h => List.mem_cons_of_mem _ (List.mem_append_left _ (List.mem_append_right _ h))) (by decide +kernel))) (goodIn_sub (fun _ h => List.mem_cons_of_mem _ (List.mem_append_right _ h)) (by decide +kernel))
set_option maxRecDepth 20000 in
theorem gL_coin_X9_coin : GoodIn wsL_coin (wsV RL 41 RX9 yX9_coin wsX9_coin) := goodIn_app (goodIn_of _ (by decide +kernel)) ggL_coin_X9_coin
theorem dL_coin_0 : decode cL_coin 0 = .ok (.aload_n 2, 1) := by decide +kernel
theorem dL_coin_1 : decode cL_coin 1 = .ok (.iconst 0, 1) := by decide +kernel
theorem dL_coin_2 : decode cL_coin 2 = .ok (.aload_n 0, 1) := by decide +kernel
theorem dL_coin_3 : decode cL_coin 3 = .ok (.iload_n 1, 1) := by decide +kernel
theorem dL_coin_4 : decode cL_coin 4 = .ok (.invokevirtual 41, 3) := by decide +kernel
theorem dL_coin_7 : decode cL_coin 7 = .ok (.i2l, 1) := by decide +kernel
theorem dL_coin_8 : decode cL_coin 8 = .ok (.lastore, 1) := by decide +kernel
theorem dL_coin_9 : decode cL_coin 9 = .ok (.goto 9, 3) := by decide +kernel
theorem dL_coin_12 : decode cL_coin 12 = .ok (.astore_n 3, 1) := by decide +kernel
theorem dL_coin_13 : decode cL_coin 13 = .ok (.iconst 1, 1) := by decide +kernel
theorem dL_coin_14 : decode cL_coin 14 = .ok (.ireturn, 1) := by decide +kernel
theorem dL_coin_15 : decode cL_coin 15 = .ok (.astore_n 3, 1) := by decide +kernel
theorem dL_coin_16 : decode cL_coin 16 = .ok (.iconst 2, 1) := by decide +kernel
theorem dL_coin_17 : decode cL_coin 17 = .ok (.ireturn, 1) := by decide +kernel
theorem dL_coin_18 : decode cL_coin 18 = .ok (.iconst 0, 1) := by decide +kernel
theorem dL_coin_19 : decode cL_coin 19 = .ok (.ireturn, 1) := by decide +kernel
set_option maxRecDepth 20000 in
theorem ggL_shoot_X9_shoot : GoodIn wsL_shoot wsX9_shoot := goodIn_ca (goodIn_ca (goodIn_ca (goodIn_r _ [8, 9, 10, 11, 12, 13, 14, 15, 16, 17, 18, 19, 20, 21, 22, 7, 23, 24, 25, 26, 27, 28, 29, 30, 31, 32, 33, 34, 35, 36, 37, 38, 39, 40, 41, 42, 43, 44, 45, 46, 47, 48, 49, 50, 51, 52, 53, 54, 55, 56, 57, 58, 59, 60, 61, 62, 63, 64, 65, 66, 67, 68, 69, 70, 71, 72, 73, 74, 75, 76, 77, 78, 79, 80, 81, 82, 83, 84, 85, 86, 87, 88, 89, 90, 91, 92, 93, 94, 95, 96, 97, 98, 99, 100, 101, 102, 103, 104, 105, 106, 107, 108, 109, 110, 111, 112, 113, 114, 115, 116, 117, 118, 119, 120, 121, 122, 123, 124, 125, 126, 127, 128, 129, 130, 131, 132, 133, 134, 135, 136, 137, 138, 139, 140, 141, 142, 143, 144, 145, 146, 147, 148, 149, 150, 151, 152, 153, 154, 155, 156, 157, 158, 159, 160, 161, 162, 163, 164, 165, 166, 167, 168, 169, 170, 171, 172, 173, 174, 175, 176, 177, 178, 179, 180, 181, 182, 183, 184, 185, 186, 187, 188, 189, 190, 191, 192, 193, 194, 195, 196, 197, 198, 199, 200, 201, 202, 203, 204, 205, 206, 207, 208, 209, 210, 211, 212, 213, 214, 215, 216, 217, 218, 219, 220, 221, 222, 223, 224, 225, 226, 227, 228, 229, 230] (by decide +kernel) (by decide +kernel)) (goodIn_sub (fun _ h => List.mem_cons_of_mem _ (List.mem_append_left _ (List.mem_append_left _ (List.mem_append_right _ h)))) (by decide +kernel))) (goodIn_sub (fun _ h => List.mem_cons_of_mem _ (List.mem_append_left _ (List.mem_append_right _ h))) (by decide +kernel))) (goodIn_sub (fun _ h => List.mem_cons_of_mem _ (List.mem_append_right _ h)) (by decide +kernel))
set_option maxRecDepth 20000 in
theorem gL_shoot_X9_shoot : GoodIn wsL_shoot (wsV RL 45 RX9 yX9_shoot wsX9_shoot) := goodIn_app (goodIn_of _ (by decide +kernel)) ggL_shoot_X9_shoot
theorem dL_shoot_0 : decode cL_shoot 0 = .ok (.aload 5, 2) := by decide +kernel
theorem dL_shoot_2 : decode cL_shoot 2 = .ok (.iconst 0, 1) := by decide +kernel
theorem dL_shoot_3 : decode cL_shoot 3 = .ok (.aload_n 0, 1) := by decide +kernel
theorem dL_shoot_4 : decode cL_shoot 4 = .ok (.iload_n 1, 1) := by decide +kernel
theorem dL_shoot_5 : decode cL_shoot 5 = .ok (.iload_n 2, 1) := by decide +kernel
theorem dL_shoot_6 : decode cL_shoot 6 = .ok (.iload_n 3, 1) := by decide +kernel
theorem dL_shoot_7 : decode cL_shoot 7 = .ok (.iload 4, 2) := by decide +kernel
theorem dL_shoot_9 : decode cL_shoot 9 = .ok (.invokevirtual 45, 3) := by decide +kernel
theorem dL_shoot_12 : decode cL_shoot 12 = .ok (.i2l, 1) := by decide +kernel
theorem dL_shoot_13 : decode cL_shoot 13 = .ok (.lastore, 1) := by decide +kernel
theorem dL_shoot_14 : decode cL_shoot 14 = .ok (.goto 15, 3) := by decide +kernel
theorem dL_shoot_17 : decode cL_shoot 17 = .ok (.astore 6, 2) := by decide +kernel
theorem dL_shoot_19 : decode cL_shoot 19 = .ok (.iconst 1, 1) := by decide +kernel
theorem dL_shoot_20 : decode cL_shoot 20 = .ok (.ireturn, 1) := by decide +kernel
theorem dL_shoot_21 : decode cL_shoot 21 = .ok (.astore 6, 2) := by decide +kernel
theorem dL_shoot_23 : decode cL_shoot 23 = .ok (.iconst 2, 1) := by decide +kernel
theorem dL_shoot_24 : decode cL_shoot 24 = .ok (.ireturn, 1) := by decide +kernel
theorem dL_shoot_25 : decode cL_shoot 25 = .ok (.astore 6, 2) := by decide +kernel
theorem dL_shoot_27 : decode cL_shoot 27 = .ok (.iconst 3, 1) := by decide +kernel
theorem dL_shoot_28 : decode cL_shoot 28 = .ok (.ireturn, 1) := by decide +kernel
theorem dL_shoot_29 : decode cL_shoot 29 = .ok (.iconst 0, 1) := by decide +kernel
theorem dL_shoot_30 : decode cL_shoot 30 = .ok (.ireturn, 1) := by decide +kernel
set_option maxRecDepth 20000 in
theorem ggL_gameAt_X9_gameAt : GoodIn wsL_gameAt wsX9_gameAt := goodIn_ca (goodIn_r _ [6, 7, 8, 9, 10, 5, 11, 12, 13, 14, 15, 16, 17, 18, 19, 20, 21, 22, 23, 24, 25, 26, 27, 28, 29, 30, 31, 32, 33, 34, 35, 36, 37, 38, 39, 40, 41, 42, 43, 44, 45, 46, 47, 48, 49, 50, 51, 52, 53, 54, 55, 56, 57, 58] (by decide +kernel) (by decide +kernel)) (goodIn_sub (fun _ h => List.mem_cons_of_mem _ (List.mem_append_right _ h)) (by decide +kernel))
set_option maxRecDepth 20000 in
theorem gL_gameAt_X9_gameAt : GoodIn wsL_gameAt (wsV RL 49 RX9 yX9_gameAt wsX9_gameAt) := goodIn_app (goodIn_of _ (by decide +kernel)) ggL_gameAt_X9_gameAt
theorem dL_gameAt_0 : decode cL_gameAt 0 = .ok (.aload_n 2, 1) := by decide +kernel
theorem dL_gameAt_1 : decode cL_gameAt 1 = .ok (.iconst 0, 1) := by decide +kernel
theorem dL_gameAt_2 : decode cL_gameAt 2 = .ok (.aload_n 0, 1) := by decide +kernel
theorem dL_gameAt_3 : decode cL_gameAt 3 = .ok (.iload_n 1, 1) := by decide +kernel
theorem dL_gameAt_4 : decode cL_gameAt 4 = .ok (.invokevirtual 49, 3) := by decide +kernel
theorem dL_gameAt_7 : decode cL_gameAt 7 = .ok (.i2l, 1) := by decide +kernel
theorem dL_gameAt_8 : decode cL_gameAt 8 = .ok (.lastore, 1) := by decide +kernel
theorem dL_gameAt_9 : decode cL_gameAt 9 = .ok (.goto 6, 3) := by decide +kernel
theorem dL_gameAt_12 : decode cL_gameAt 12 = .ok (.astore_n 3, 1) := by decide +kernel
theorem dL_gameAt_13 : decode cL_gameAt 13 = .ok (.iconst 1, 1) := by decide +kernel
theorem dL_gameAt_14 : decode cL_gameAt 14 = .ok (.ireturn, 1) := by decide +kernel
theorem dL_gameAt_15 : decode cL_gameAt 15 = .ok (.iconst 0, 1) := by decide +kernel
theorem dL_gameAt_16 : decode cL_gameAt 16 = .ok (.ireturn, 1) := by decide +kernel
set_option maxRecDepth 20000 in
theorem ggL_ballsLeft_X9_ballsLeft : GoodIn wsL_ballsLeft wsX9_ballsLeft := goodIn_ca (goodIn_r _ [6, 7, 8, 9, 10, 5, 11, 12, 13, 14, 15, 16, 17, 18, 19, 20, 21, 22, 23, 24, 25, 26, 27, 28, 29, 30, 31, 32, 33, 34, 35, 36, 37, 38, 39, 40, 41, 42, 43, 44, 45, 46, 47, 48, 49, 50, 51, 52, 53, 54, 55, 56] (by decide +kernel) (by decide +kernel)) (goodIn_sub (fun _ h => List.mem_cons_of_mem _ (List.mem_append_right _ h)) (by decide +kernel))
set_option maxRecDepth 20000 in
theorem gL_ballsLeft_X9_ballsLeft : GoodIn wsL_ballsLeft (wsV RL 52 RX9 yX9_ballsLeft wsX9_ballsLeft) := goodIn_app (goodIn_of _ (by decide +kernel)) ggL_ballsLeft_X9_ballsLeft
theorem dL_ballsLeft_0 : decode cL_ballsLeft 0 = .ok (.aload_n 2, 1) := by decide +kernel
theorem dL_ballsLeft_1 : decode cL_ballsLeft 1 = .ok (.iconst 0, 1) := by decide +kernel
theorem dL_ballsLeft_2 : decode cL_ballsLeft 2 = .ok (.aload_n 0, 1) := by decide +kernel
theorem dL_ballsLeft_3 : decode cL_ballsLeft 3 = .ok (.iload_n 1, 1) := by decide +kernel
theorem dL_ballsLeft_4 : decode cL_ballsLeft 4 = .ok (.invokevirtual 52, 3) := by decide +kernel
theorem dL_ballsLeft_7 : decode cL_ballsLeft 7 = .ok (.i2l, 1) := by decide +kernel
theorem dL_ballsLeft_8 : decode cL_ballsLeft 8 = .ok (.lastore, 1) := by decide +kernel
theorem dL_ballsLeft_9 : decode cL_ballsLeft 9 = .ok (.goto 6, 3) := by decide +kernel
theorem dL_ballsLeft_12 : decode cL_ballsLeft 12 = .ok (.astore_n 3, 1) := by decide +kernel
theorem dL_ballsLeft_13 : decode cL_ballsLeft 13 = .ok (.iconst 1, 1) := by decide +kernel
theorem dL_ballsLeft_14 : decode cL_ballsLeft 14 = .ok (.ireturn, 1) := by decide +kernel
theorem dL_ballsLeft_15 : decode cL_ballsLeft 15 = .ok (.iconst 0, 1) := by decide +kernel
theorem dL_ballsLeft_16 : decode cL_ballsLeft 16 = .ok (.ireturn, 1) := by decide +kernel
set_option maxRecDepth 20000 in
theorem ggL_stack_X9_stack : GoodIn wsL_stack wsX9_stack := goodIn_ca (goodIn_r _ [6, 7, 8, 9, 10, 5, 11, 12, 13, 14, 15, 16, 17, 18, 19, 20, 21, 22, 23, 24, 25, 26, 27, 28, 29, 30, 31, 32, 33, 34, 35, 36, 37, 38, 39, 40, 41, 42, 43, 44, 45, 46, 47, 48, 49, 50, 51, 52, 53, 54, 55, 56, 57, 58, 59, 60, 61, 62, 63, 64, 65, 66, 67] (by decide +kernel) (by decide +kernel)) (goodIn_sub (fun _ h => List.mem_cons_of_mem _ (List.mem_append_right _ h)) (by decide +kernel))
set_option maxRecDepth 20000 in
theorem gL_stack_X9_stack : GoodIn wsL_stack (wsV RL 55 RX9 yX9_stack wsX9_stack) := goodIn_app (goodIn_of _ (by decide +kernel)) ggL_stack_X9_stack
theorem dL_stack_0 : decode cL_stack 0 = .ok (.aload_n 2, 1) := by decide +kernel
theorem dL_stack_1 : decode cL_stack 1 = .ok (.iconst 0, 1) := by decide +kernel
theorem dL_stack_2 : decode cL_stack 2 = .ok (.aload_n 0, 1) := by decide +kernel
theorem dL_stack_3 : decode cL_stack 3 = .ok (.iload_n 1, 1) := by decide +kernel
theorem dL_stack_4 : decode cL_stack 4 = .ok (.invokevirtual 55, 3) := by decide +kernel
theorem dL_stack_7 : decode cL_stack 7 = .ok (.i2l, 1) := by decide +kernel
theorem dL_stack_8 : decode cL_stack 8 = .ok (.lastore, 1) := by decide +kernel
theorem dL_stack_9 : decode cL_stack 9 = .ok (.goto 6, 3) := by decide +kernel
theorem dL_stack_12 : decode cL_stack 12 = .ok (.astore_n 3, 1) := by decide +kernel
theorem dL_stack_13 : decode cL_stack 13 = .ok (.iconst 1, 1) := by decide +kernel
theorem dL_stack_14 : decode cL_stack 14 = .ok (.ireturn, 1) := by decide +kernel
theorem dL_stack_15 : decode cL_stack 15 = .ok (.iconst 0, 1) := by decide +kernel
theorem dL_stack_16 : decode cL_stack 16 = .ok (.ireturn, 1) := by decide +kernel
set_option maxRecDepth 20000 in
theorem ggL_score_X9_score : GoodIn wsL_score wsX9_score := goodIn_ca (goodIn_r _ [6, 7, 8, 9, 10, 11, 5, 12, 13, 14, 15, 16, 17, 18, 19, 20, 21, 22, 23, 24, 25, 26, 27, 28, 29, 30, 31, 32, 33, 34, 35, 36, 37, 38, 39, 40, 41, 42, 43, 44, 45, 46, 47, 48, 49, 50, 51, 52, 53, 54, 55, 56, 57, 58, 59, 60, 61] (by decide +kernel) (by decide +kernel)) (goodIn_sub (fun _ h => List.mem_cons_of_mem _ (List.mem_append_right _ h)) (by decide +kernel))
set_option maxRecDepth 20000 in
theorem gL_score_X9_score : GoodIn wsL_score (wsV RL 58 RX9 yX9_score wsX9_score) := goodIn_app (goodIn_of _ (by decide +kernel)) ggL_score_X9_score
theorem dL_score_0 : decode cL_score 0 = .ok (.aload_n 2, 1) := by decide +kernel
theorem dL_score_1 : decode cL_score 1 = .ok (.iconst 0, 1) := by decide +kernel
theorem dL_score_2 : decode cL_score 2 = .ok (.aload_n 0, 1) := by decide +kernel
theorem dL_score_3 : decode cL_score 3 = .ok (.iload_n 1, 1) := by decide +kernel
theorem dL_score_4 : decode cL_score 4 = .ok (.invokevirtual 58, 3) := by decide +kernel
theorem dL_score_7 : decode cL_score 7 = .ok (.i2l, 1) := by decide +kernel
theorem dL_score_8 : decode cL_score 8 = .ok (.lastore, 1) := by decide +kernel
theorem dL_score_9 : decode cL_score 9 = .ok (.goto 6, 3) := by decide +kernel
theorem dL_score_12 : decode cL_score 12 = .ok (.astore_n 3, 1) := by decide +kernel
theorem dL_score_13 : decode cL_score 13 = .ok (.iconst 1, 1) := by decide +kernel
theorem dL_score_14 : decode cL_score 14 = .ok (.ireturn, 1) := by decide +kernel
theorem dL_score_15 : decode cL_score 15 = .ok (.iconst 0, 1) := by decide +kernel
theorem dL_score_16 : decode cL_score 16 = .ok (.ireturn, 1) := by decide +kernel
set_option maxRecDepth 20000 in
theorem ggL_scoreByLog_X9_scoreByLog : GoodIn wsL_scoreByLog wsX9_scoreByLog := goodIn_ca (goodIn_r _ [6, 7, 8, 9, 5, 10, 11, 12, 13, 14, 15, 16, 17, 18, 19, 20, 21, 22, 23, 24, 25, 26, 27, 28, 29, 30, 31, 32, 33, 34, 35, 36, 37, 38, 39, 40, 41, 42, 43, 44, 45, 46, 47, 48, 49, 50, 51, 52, 53, 54, 55, 56, 57, 58, 59, 60, 61, 62, 63, 64, 65, 66, 67, 68, 69, 70, 71, 72, 73, 74, 75, 76, 77, 78, 79, 80, 81, 82, 83, 84, 85, 86, 87, 88, 89, 90, 91, 92, 93, 94, 95, 96, 97, 98, 99, 100, 101, 102, 103, 104, 105, 106, 107, 108, 109, 110, 111, 112, 113, 114, 115, 116, 117, 118, 119, 120, 121, 122, 123, 124, 125, 126, 127, 128, 129, 130] (by decide +kernel) (by decide +kernel)) (goodIn_sub (fun _ h => List.mem_cons_of_mem _ (List.mem_append_right _ h)) (by decide +kernel))
set_option maxRecDepth 20000 in
theorem gL_scoreByLog_X9_scoreByLog : GoodIn wsL_scoreByLog (wsV RL 61 RX9 yX9_scoreByLog wsX9_scoreByLog) := goodIn_app (goodIn_of _ (by decide +kernel)) ggL_scoreByLog_X9_scoreByLog
theorem dL_scoreByLog_0 : decode cL_scoreByLog 0 = .ok (.aload_n 2, 1) := by decide +kernel
theorem dL_scoreByLog_1 : decode cL_scoreByLog 1 = .ok (.iconst 0, 1) := by decide +kernel
theorem dL_scoreByLog_2 : decode cL_scoreByLog 2 = .ok (.aload_n 0, 1) := by decide +kernel
theorem dL_scoreByLog_3 : decode cL_scoreByLog 3 = .ok (.iload_n 1, 1) := by decide +kernel
theorem dL_scoreByLog_4 : decode cL_scoreByLog 4 = .ok (.invokevirtual 61, 3) := by decide +kernel
theorem dL_scoreByLog_7 : decode cL_scoreByLog 7 = .ok (.i2l, 1) := by decide +kernel
theorem dL_scoreByLog_8 : decode cL_scoreByLog 8 = .ok (.lastore, 1) := by decide +kernel
theorem dL_scoreByLog_9 : decode cL_scoreByLog 9 = .ok (.goto 6, 3) := by decide +kernel
theorem dL_scoreByLog_12 : decode cL_scoreByLog 12 = .ok (.astore_n 3, 1) := by decide +kernel
theorem dL_scoreByLog_13 : decode cL_scoreByLog 13 = .ok (.iconst 1, 1) := by decide +kernel
theorem dL_scoreByLog_14 : decode cL_scoreByLog 14 = .ok (.ireturn, 1) := by decide +kernel
theorem dL_scoreByLog_15 : decode cL_scoreByLog 15 = .ok (.iconst 0, 1) := by decide +kernel
theorem dL_scoreByLog_16 : decode cL_scoreByLog 16 = .ok (.ireturn, 1) := by decide +kernel
set_option maxRecDepth 20000 in
theorem ggL_valid_X9_valid : GoodIn wsL_valid wsX9_valid := goodIn_ca (goodIn_r _ [6, 7, 8, 9, 5, 10, 11, 12, 13, 14, 15, 16, 17, 18, 19, 20, 21, 22, 23, 24, 25, 26, 27, 28, 29, 30, 31, 32, 33, 34, 35, 36, 37, 38, 39, 40, 41, 42, 43, 44, 45, 46, 47, 48, 49, 50, 51, 52, 53, 54, 55, 56, 57, 58, 59, 60, 61, 62, 63, 64, 65, 66, 67, 68, 69, 70, 71, 72, 73, 74, 75, 76, 77, 78, 79, 80, 81, 82, 83, 84, 85, 86, 87, 88, 89, 90, 91, 92, 93, 94, 95, 96, 97, 98, 99, 100, 101, 102, 103, 104, 105, 106, 107, 108, 109, 110, 111, 112, 113, 114, 115, 116, 117, 118, 119, 120, 121, 122, 123, 124, 125, 126, 127, 128, 129, 130] (by decide +kernel) (by decide +kernel)) (goodIn_sub (fun _ h => List.mem_cons_of_mem _ (List.mem_append_right _ h)) (by decide +kernel))
set_option maxRecDepth 20000 in
theorem gL_valid_X9_valid : GoodIn wsL_valid (wsV RL 64 RX9 yX9_valid wsX9_valid) := goodIn_app (goodIn_of _ (by decide +kernel)) ggL_valid_X9_valid
theorem dL_valid_0 : decode cL_valid 0 = .ok (.aload_n 2, 1) := by decide +kernel
theorem dL_valid_1 : decode cL_valid 1 = .ok (.iconst 0, 1) := by decide +kernel
theorem dL_valid_2 : decode cL_valid 2 = .ok (.aload_n 0, 1) := by decide +kernel
theorem dL_valid_3 : decode cL_valid 3 = .ok (.iload_n 1, 1) := by decide +kernel
theorem dL_valid_4 : decode cL_valid 4 = .ok (.invokevirtual 64, 3) := by decide +kernel
theorem dL_valid_7 : decode cL_valid 7 = .ok (.i2l, 1) := by decide +kernel
theorem dL_valid_8 : decode cL_valid 8 = .ok (.lastore, 1) := by decide +kernel
theorem dL_valid_9 : decode cL_valid 9 = .ok (.goto 6, 3) := by decide +kernel
theorem dL_valid_12 : decode cL_valid 12 = .ok (.astore_n 3, 1) := by decide +kernel
theorem dL_valid_13 : decode cL_valid 13 = .ok (.iconst 1, 1) := by decide +kernel
theorem dL_valid_14 : decode cL_valid 14 = .ok (.ireturn, 1) := by decide +kernel
theorem dL_valid_15 : decode cL_valid 15 = .ok (.iconst 0, 1) := by decide +kernel
theorem dL_valid_16 : decode cL_valid 16 = .ok (.ireturn, 1) := by decide +kernel
set_option maxRecDepth 20000 in
theorem ggL_logged_X9_logged : GoodIn wsL_logged wsX9_logged := goodIn_ca (goodIn_r _ [6, 7, 8, 9, 10, 5, 11, 12, 13, 14, 15, 16, 17, 18, 19, 20, 21, 22, 23, 24, 25, 26, 27, 28, 29, 30, 31, 32, 33, 34, 35, 36, 37, 38, 39, 40, 41, 42, 43, 44, 45, 46, 47, 48, 49, 50, 51, 52, 53, 54, 55, 56] (by decide +kernel) (by decide +kernel)) (goodIn_sub (fun _ h => List.mem_cons_of_mem _ (List.mem_append_right _ h)) (by decide +kernel))
set_option maxRecDepth 20000 in
theorem gL_logged_X9_logged : GoodIn wsL_logged (wsV RL 67 RX9 yX9_logged wsX9_logged) := goodIn_app (goodIn_of _ (by decide +kernel)) ggL_logged_X9_logged
theorem dL_logged_0 : decode cL_logged 0 = .ok (.aload_n 2, 1) := by decide +kernel
theorem dL_logged_1 : decode cL_logged 1 = .ok (.iconst 0, 1) := by decide +kernel
theorem dL_logged_2 : decode cL_logged 2 = .ok (.aload_n 0, 1) := by decide +kernel
theorem dL_logged_3 : decode cL_logged 3 = .ok (.iload_n 1, 1) := by decide +kernel
theorem dL_logged_4 : decode cL_logged 4 = .ok (.invokevirtual 67, 3) := by decide +kernel
theorem dL_logged_7 : decode cL_logged 7 = .ok (.i2l, 1) := by decide +kernel
theorem dL_logged_8 : decode cL_logged 8 = .ok (.lastore, 1) := by decide +kernel
theorem dL_logged_9 : decode cL_logged 9 = .ok (.goto 6, 3) := by decide +kernel
theorem dL_logged_12 : decode cL_logged 12 = .ok (.astore_n 3, 1) := by decide +kernel
theorem dL_logged_13 : decode cL_logged 13 = .ok (.iconst 1, 1) := by decide +kernel
theorem dL_logged_14 : decode cL_logged 14 = .ok (.ireturn, 1) := by decide +kernel
theorem dL_logged_15 : decode cL_logged 15 = .ok (.iconst 0, 1) := by decide +kernel
theorem dL_logged_16 : decode cL_logged 16 = .ok (.ireturn, 1) := by decide +kernel
set_option maxRecDepth 20000 in
theorem ggL_entryAt_X9_entryAt : GoodIn wsL_entryAt wsX9_entryAt := goodIn_ca (goodIn_r _ [6, 7, 8, 9, 10, 5, 11, 12, 13, 14, 15, 16, 17, 18, 19, 20, 21, 22, 23, 24, 25, 26, 27, 28, 29, 30, 31, 32, 33, 34, 35, 36, 37, 38, 39, 40, 41, 42, 43, 44, 45, 46, 47, 48, 49, 50, 51, 52, 53, 54, 55, 56, 57, 58, 59, 60, 61, 62, 63, 64, 65] (by decide +kernel) (by decide +kernel)) (goodIn_sub (fun _ h => List.mem_cons_of_mem _ (List.mem_append_right _ h)) (by decide +kernel))
set_option maxRecDepth 20000 in
theorem gL_entryAt_X9_entryAt : GoodIn wsL_entryAt (wsV RL 70 RX9 yX9_entryAt wsX9_entryAt) := goodIn_app (goodIn_of _ (by decide +kernel)) ggL_entryAt_X9_entryAt
theorem dL_entryAt_0 : decode cL_entryAt 0 = .ok (.aload_n 3, 1) := by decide +kernel
theorem dL_entryAt_1 : decode cL_entryAt 1 = .ok (.iconst 0, 1) := by decide +kernel
theorem dL_entryAt_2 : decode cL_entryAt 2 = .ok (.aload_n 0, 1) := by decide +kernel
theorem dL_entryAt_3 : decode cL_entryAt 3 = .ok (.iload_n 1, 1) := by decide +kernel
theorem dL_entryAt_4 : decode cL_entryAt 4 = .ok (.iload_n 2, 1) := by decide +kernel
theorem dL_entryAt_5 : decode cL_entryAt 5 = .ok (.invokevirtual 70, 3) := by decide +kernel
theorem dL_entryAt_8 : decode cL_entryAt 8 = .ok (.lastore, 1) := by decide +kernel
theorem dL_entryAt_9 : decode cL_entryAt 9 = .ok (.goto 7, 3) := by decide +kernel
theorem dL_entryAt_12 : decode cL_entryAt 12 = .ok (.astore 4, 2) := by decide +kernel
theorem dL_entryAt_14 : decode cL_entryAt 14 = .ok (.iconst 1, 1) := by decide +kernel
theorem dL_entryAt_15 : decode cL_entryAt 15 = .ok (.ireturn, 1) := by decide +kernel
theorem dL_entryAt_16 : decode cL_entryAt 16 = .ok (.iconst 0, 1) := by decide +kernel
theorem dL_entryAt_17 : decode cL_entryAt 17 = .ok (.ireturn, 1) := by decide +kernel
set_option maxRecDepth 20000 in
theorem ggL_twin_X9_twin : GoodIn wsL_twin wsX9_twin := goodIn_ca (goodIn_r _ [6, 7, 8, 9, 10, 11, 12, 5, 13, 14, 15, 16, 17, 18, 19, 20, 21, 22, 23, 24, 25, 26, 27, 28, 29, 30, 31, 32, 33, 34, 35, 36, 37, 38, 39, 40, 41, 42, 43, 44, 45, 46, 47, 48, 49, 50, 51, 52, 53, 54, 55, 56, 57, 58, 59, 60, 61, 62, 63, 64, 65, 66, 67, 68, 69, 70, 71, 72] (by decide +kernel) (by decide +kernel)) (goodIn_sub (fun _ h => List.mem_cons_of_mem _ (List.mem_append_right _ h)) (by decide +kernel))
set_option maxRecDepth 20000 in
theorem gL_twin_X9_twin : GoodIn wsL_twin (wsV RL 74 RX9 yX9_twin wsX9_twin) := goodIn_app (goodIn_of _ (by decide +kernel)) ggL_twin_X9_twin
theorem dL_twin_0 : decode cL_twin 0 = .ok (.aload_n 2, 1) := by decide +kernel
theorem dL_twin_1 : decode cL_twin 1 = .ok (.iconst 0, 1) := by decide +kernel
theorem dL_twin_2 : decode cL_twin 2 = .ok (.aload_n 0, 1) := by decide +kernel
theorem dL_twin_3 : decode cL_twin 3 = .ok (.iload_n 1, 1) := by decide +kernel
theorem dL_twin_4 : decode cL_twin 4 = .ok (.invokevirtual 74, 3) := by decide +kernel
theorem dL_twin_7 : decode cL_twin 7 = .ok (.i2l, 1) := by decide +kernel
theorem dL_twin_8 : decode cL_twin 8 = .ok (.lastore, 1) := by decide +kernel
theorem dL_twin_9 : decode cL_twin 9 = .ok (.goto 6, 3) := by decide +kernel
theorem dL_twin_12 : decode cL_twin 12 = .ok (.astore_n 3, 1) := by decide +kernel
theorem dL_twin_13 : decode cL_twin 13 = .ok (.iconst 1, 1) := by decide +kernel
theorem dL_twin_14 : decode cL_twin 14 = .ok (.ireturn, 1) := by decide +kernel
theorem dL_twin_15 : decode cL_twin 15 = .ok (.iconst 0, 1) := by decide +kernel
theorem dL_twin_16 : decode cL_twin 16 = .ok (.ireturn, 1) := by decide +kernel
set_option maxRecDepth 20000 in
theorem ggL_high_X9_high : GoodIn wsL_high wsX9_high := goodIn_ca (goodIn_ca (goodIn_r _ [7, 8, 9, 10, 11, 12, 13, 6, 14, 15, 16, 17, 18, 19, 20, 21, 22, 23, 24, 25, 26, 27, 28, 29, 30, 31, 32, 33, 34, 35, 36, 37, 38, 39, 40, 41, 42, 43, 44, 45, 46, 47, 48, 49, 50, 51, 52, 53, 54, 55, 56, 57, 58, 59, 60, 61, 62, 63, 64, 65, 66, 67, 68, 69, 70, 71, 72, 73, 74, 75, 76, 77, 78, 79, 80, 81, 82, 83, 84, 85, 86, 87, 88, 89, 90, 91, 92, 93, 94, 95, 96, 97, 98, 99, 100, 101, 102, 103, 104, 105, 106, 107, 108, 109, 110, 111, 112, 113, 114, 115, 116, 117, 118, 119, 120, 121, 122, 123, 124, 125, 126, 127, 128, 129, 130, 131, 132, 133, 134, 135, 136, 137, 138, 139, 140, 141, 142, 143, 144, 145, 146, 147, 148, 149, 150, 151, 152, 153] (by decide +kernel) (by decide +kernel)) (goodIn_sub (fun _ h => List.mem_cons_of_mem _ (List.mem_append_left _ (List.mem_append_right _ h))) (by decide +kernel))) (goodIn_sub (fun _ h => List.mem_cons_of_mem _ (List.mem_append_right _ h)) (by decide +kernel))
set_option maxRecDepth 20000 in
theorem gL_high_X9_high : GoodIn wsL_high (wsV RL 77 RX9 yX9_high wsX9_high) := goodIn_app (goodIn_of _ (by decide +kernel)) ggL_high_X9_high
theorem dL_high_0 : decode cL_high 0 = .ok (.aload_n 3, 1) := by decide +kernel
theorem dL_high_1 : decode cL_high 1 = .ok (.iconst 0, 1) := by decide +kernel
theorem dL_high_2 : decode cL_high 2 = .ok (.aload_n 0, 1) := by decide +kernel
theorem dL_high_3 : decode cL_high 3 = .ok (.iload_n 1, 1) := by decide +kernel
theorem dL_high_4 : decode cL_high 4 = .ok (.iload_n 2, 1) := by decide +kernel
theorem dL_high_5 : decode cL_high 5 = .ok (.invokevirtual 77, 3) := by decide +kernel
theorem dL_high_8 : decode cL_high 8 = .ok (.i2l, 1) := by decide +kernel
theorem dL_high_9 : decode cL_high 9 = .ok (.lastore, 1) := by decide +kernel
theorem dL_high_10 : decode cL_high 10 = .ok (.goto 11, 3) := by decide +kernel
theorem dL_high_13 : decode cL_high 13 = .ok (.astore 4, 2) := by decide +kernel
theorem dL_high_15 : decode cL_high 15 = .ok (.iconst 1, 1) := by decide +kernel
theorem dL_high_16 : decode cL_high 16 = .ok (.ireturn, 1) := by decide +kernel
theorem dL_high_17 : decode cL_high 17 = .ok (.astore 4, 2) := by decide +kernel
theorem dL_high_19 : decode cL_high 19 = .ok (.iconst 2, 1) := by decide +kernel
theorem dL_high_20 : decode cL_high 20 = .ok (.ireturn, 1) := by decide +kernel
theorem dL_high_21 : decode cL_high 21 = .ok (.iconst 0, 1) := by decide +kernel
theorem dL_high_22 : decode cL_high 22 = .ok (.ireturn, 1) := by decide +kernel
set_option maxRecDepth 20000 in
theorem ggL_rob_X9_rob : GoodIn wsL_rob wsX9_rob := goodIn_ca (goodIn_ca (goodIn_ca (goodIn_r _ [8, 9, 10, 11, 12, 13, 14, 7, 15, 16, 17, 18, 19, 20, 21, 22, 23, 24, 25, 26, 27, 28, 29, 30, 31, 32, 33, 34, 35, 36, 37, 38, 39, 40, 41, 42, 43, 44, 45, 46, 47, 48, 49, 50, 51, 52, 53, 54, 55, 56, 57, 58, 59, 60, 61, 62, 63, 64, 65, 66, 67] (by decide +kernel) (by decide +kernel)) (goodIn_sub (fun _ h => List.mem_cons_of_mem _ (List.mem_append_left _ (List.mem_append_left _ (List.mem_append_right _ h)))) (by decide +kernel))) (goodIn_sub (fun _ h => List.mem_cons_of_mem _ (List.mem_append_left _ (List.mem_append_right _ h))) (by decide +kernel))) (goodIn_sub (fun _ h => List.mem_cons_of_mem _ (List.mem_append_right _ h)) (by decide +kernel))
set_option maxRecDepth 20000 in
theorem gL_rob_X9_rob : GoodIn wsL_rob (wsV RL 80 RX9 yX9_rob wsX9_rob) := goodIn_app (goodIn_of _ (by decide +kernel)) ggL_rob_X9_rob
theorem dL_rob_0 : decode cL_rob 0 = .ok (.aload_n 3, 1) := by decide +kernel
theorem dL_rob_1 : decode cL_rob 1 = .ok (.iconst 0, 1) := by decide +kernel
theorem dL_rob_2 : decode cL_rob 2 = .ok (.aload_n 0, 1) := by decide +kernel
theorem dL_rob_3 : decode cL_rob 3 = .ok (.iload_n 1, 1) := by decide +kernel
theorem dL_rob_4 : decode cL_rob 4 = .ok (.iload_n 2, 1) := by decide +kernel
theorem dL_rob_5 : decode cL_rob 5 = .ok (.invokevirtual 80, 3) := by decide +kernel
theorem dL_rob_8 : decode cL_rob 8 = .ok (.i2l, 1) := by decide +kernel
theorem dL_rob_9 : decode cL_rob 9 = .ok (.lastore, 1) := by decide +kernel
theorem dL_rob_10 : decode cL_rob 10 = .ok (.goto 15, 3) := by decide +kernel
theorem dL_rob_13 : decode cL_rob 13 = .ok (.astore 4, 2) := by decide +kernel
theorem dL_rob_15 : decode cL_rob 15 = .ok (.iconst 1, 1) := by decide +kernel
theorem dL_rob_16 : decode cL_rob 16 = .ok (.ireturn, 1) := by decide +kernel
theorem dL_rob_17 : decode cL_rob 17 = .ok (.astore 4, 2) := by decide +kernel
theorem dL_rob_19 : decode cL_rob 19 = .ok (.iconst 2, 1) := by decide +kernel
theorem dL_rob_20 : decode cL_rob 20 = .ok (.ireturn, 1) := by decide +kernel
theorem dL_rob_21 : decode cL_rob 21 = .ok (.astore 4, 2) := by decide +kernel
theorem dL_rob_23 : decode cL_rob 23 = .ok (.iconst 3, 1) := by decide +kernel
theorem dL_rob_24 : decode cL_rob 24 = .ok (.ireturn, 1) := by decide +kernel
theorem dL_rob_25 : decode cL_rob 25 = .ok (.iconst 0, 1) := by decide +kernel
theorem dL_rob_26 : decode cL_rob 26 = .ok (.ireturn, 1) := by decide +kernel
set_option maxRecDepth 20000 in
theorem ggL_box_X9_box : GoodIn wsL_box wsX9_box := goodIn_ca (goodIn_r _ [6, 7, 8, 9, 10, 5, 11, 12, 13, 14, 15, 16, 17, 18, 19, 20, 21, 22, 23, 24, 25, 26, 27, 28, 29, 30, 31, 32, 33, 34, 35, 36, 37, 38, 39, 40, 41, 42, 43, 44, 45, 46, 47, 48, 49, 50, 51, 52, 53, 54, 55, 56, 57, 58] (by decide +kernel) (by decide +kernel)) (goodIn_sub (fun _ h => List.mem_cons_of_mem _ (List.mem_append_right _ h)) (by decide +kernel))
set_option maxRecDepth 20000 in
theorem gL_box_X9_box : GoodIn wsL_box (wsV RL 83 RX9 yX9_box wsX9_box) := goodIn_app (goodIn_of _ (by decide +kernel)) ggL_box_X9_box
theorem dL_box_0 : decode cL_box 0 = .ok (.aload_n 2, 1) := by decide +kernel
theorem dL_box_1 : decode cL_box 1 = .ok (.iconst 0, 1) := by decide +kernel
theorem dL_box_2 : decode cL_box 2 = .ok (.aload_n 0, 1) := by decide +kernel
theorem dL_box_3 : decode cL_box 3 = .ok (.iload_n 1, 1) := by decide +kernel
theorem dL_box_4 : decode cL_box 4 = .ok (.invokevirtual 83, 3) := by decide +kernel
theorem dL_box_7 : decode cL_box 7 = .ok (.i2l, 1) := by decide +kernel
theorem dL_box_8 : decode cL_box 8 = .ok (.lastore, 1) := by decide +kernel
theorem dL_box_9 : decode cL_box 9 = .ok (.goto 6, 3) := by decide +kernel
theorem dL_box_12 : decode cL_box 12 = .ok (.astore_n 3, 1) := by decide +kernel
theorem dL_box_13 : decode cL_box 13 = .ok (.iconst 1, 1) := by decide +kernel
theorem dL_box_14 : decode cL_box 14 = .ok (.ireturn, 1) := by decide +kernel
theorem dL_box_15 : decode cL_box 15 = .ok (.iconst 0, 1) := by decide +kernel
theorem dL_box_16 : decode cL_box 16 = .ok (.ireturn, 1) := by decide +kernel
set_option maxRecDepth 20000 in
theorem ggL_missing_X9_missing : GoodIn wsL_missing wsX9_missing := goodIn_ca (goodIn_r _ [6, 7, 8, 9, 10, 5, 11, 12, 13, 14, 15, 16, 17, 18, 19, 20, 21, 22, 23, 24, 25, 26, 27, 28, 29, 30, 31, 32, 33, 34, 35, 36, 37, 38, 39, 40, 41, 42, 43, 44, 45, 46, 47, 48, 49, 50, 51, 52, 53, 54, 55, 56, 57, 58] (by decide +kernel) (by decide +kernel)) (goodIn_sub (fun _ h => List.mem_cons_of_mem _ (List.mem_append_right _ h)) (by decide +kernel))
set_option maxRecDepth 20000 in
theorem gL_missing_X9_missing : GoodIn wsL_missing (wsV RL 86 RX9 yX9_missing wsX9_missing) := goodIn_app (goodIn_of _ (by decide +kernel)) ggL_missing_X9_missing
theorem dL_missing_0 : decode cL_missing 0 = .ok (.aload_n 2, 1) := by decide +kernel
theorem dL_missing_1 : decode cL_missing 1 = .ok (.iconst 0, 1) := by decide +kernel
theorem dL_missing_2 : decode cL_missing 2 = .ok (.aload_n 0, 1) := by decide +kernel
theorem dL_missing_3 : decode cL_missing 3 = .ok (.iload_n 1, 1) := by decide +kernel
theorem dL_missing_4 : decode cL_missing 4 = .ok (.invokevirtual 86, 3) := by decide +kernel
theorem dL_missing_7 : decode cL_missing 7 = .ok (.i2l, 1) := by decide +kernel
theorem dL_missing_8 : decode cL_missing 8 = .ok (.lastore, 1) := by decide +kernel
theorem dL_missing_9 : decode cL_missing 9 = .ok (.goto 6, 3) := by decide +kernel
theorem dL_missing_12 : decode cL_missing 12 = .ok (.astore_n 3, 1) := by decide +kernel
theorem dL_missing_13 : decode cL_missing 13 = .ok (.iconst 1, 1) := by decide +kernel
theorem dL_missing_14 : decode cL_missing 14 = .ok (.ireturn, 1) := by decide +kernel
theorem dL_missing_15 : decode cL_missing 15 = .ok (.iconst 0, 1) := by decide +kernel
theorem dL_missing_16 : decode cL_missing 16 = .ok (.ireturn, 1) := by decide +kernel
set_option maxRecDepth 20000 in
theorem ggL_load_X9_load : GoodIn wsL_load wsX9_load := goodIn_ca (goodIn_ca (goodIn_ca (goodIn_r _ [8, 9, 10, 11, 12, 13, 7, 14, 15, 16, 17, 18, 19, 20, 21, 22, 23, 24, 25, 26, 27, 28, 29, 30, 31, 32, 33, 34, 35, 36, 37, 38, 39, 40, 41, 42, 43, 44] (by decide +kernel) (by decide +kernel)) (goodIn_sub (fun _ h => List.mem_cons_of_mem _ (List.mem_append_left _ (List.mem_append_left _ (List.mem_append_right _ h)))) (by decide +kernel))) (goodIn_sub (fun _ h => List.mem_cons_of_mem _ (List.mem_append_left _ (List.mem_append_right _ h))) (by decide +kernel))) (goodIn_sub (fun _ h => List.mem_cons_of_mem _ (List.mem_append_right _ h)) (by decide +kernel))
set_option maxRecDepth 20000 in
theorem gL_load_X9_load : GoodIn wsL_load (wsV RL 89 RX9 yX9_load wsX9_load) := goodIn_app (goodIn_of _ (by decide +kernel)) ggL_load_X9_load
theorem dL_load_0 : decode cL_load 0 = .ok (.aload 4, 2) := by decide +kernel
theorem dL_load_2 : decode cL_load 2 = .ok (.iconst 0, 1) := by decide +kernel
theorem dL_load_3 : decode cL_load 3 = .ok (.aload_n 0, 1) := by decide +kernel
theorem dL_load_4 : decode cL_load 4 = .ok (.iload_n 1, 1) := by decide +kernel
theorem dL_load_5 : decode cL_load 5 = .ok (.iload_n 2, 1) := by decide +kernel
theorem dL_load_6 : decode cL_load 6 = .ok (.iload_n 3, 1) := by decide +kernel
theorem dL_load_7 : decode cL_load 7 = .ok (.invokevirtual 89, 3) := by decide +kernel
theorem dL_load_10 : decode cL_load 10 = .ok (.i2l, 1) := by decide +kernel
theorem dL_load_11 : decode cL_load 11 = .ok (.lastore, 1) := by decide +kernel
theorem dL_load_12 : decode cL_load 12 = .ok (.goto 15, 3) := by decide +kernel
theorem dL_load_15 : decode cL_load 15 = .ok (.astore 5, 2) := by decide +kernel
theorem dL_load_17 : decode cL_load 17 = .ok (.iconst 1, 1) := by decide +kernel
theorem dL_load_18 : decode cL_load 18 = .ok (.ireturn, 1) := by decide +kernel
theorem dL_load_19 : decode cL_load 19 = .ok (.astore 5, 2) := by decide +kernel
theorem dL_load_21 : decode cL_load 21 = .ok (.iconst 2, 1) := by decide +kernel
theorem dL_load_22 : decode cL_load 22 = .ok (.ireturn, 1) := by decide +kernel
theorem dL_load_23 : decode cL_load 23 = .ok (.astore 5, 2) := by decide +kernel
theorem dL_load_25 : decode cL_load 25 = .ok (.iconst 3, 1) := by decide +kernel
theorem dL_load_26 : decode cL_load 26 = .ok (.ireturn, 1) := by decide +kernel
theorem dL_load_27 : decode cL_load 27 = .ok (.iconst 0, 1) := by decide +kernel
theorem dL_load_28 : decode cL_load 28 = .ok (.ireturn, 1) := by decide +kernel
set_option maxRecDepth 20000 in
theorem ggL_parts_X9_parts : GoodIn wsL_parts wsX9_parts := goodIn_ca (goodIn_ca (goodIn_r _ [7, 8, 9, 10, 6, 11, 12, 13, 14, 15, 16, 17, 18, 19, 20, 21, 22, 23, 24, 25, 26, 27, 28, 29, 30, 31, 32, 33, 34, 35, 36, 37] (by decide +kernel) (by decide +kernel)) (goodIn_sub (fun _ h => List.mem_cons_of_mem _ (List.mem_append_left _ (List.mem_append_right _ h))) (by decide +kernel))) (goodIn_sub (fun _ h => List.mem_cons_of_mem _ (List.mem_append_right _ h)) (by decide +kernel))
set_option maxRecDepth 20000 in
theorem gL_parts_X9_parts : GoodIn wsL_parts (wsV RL 92 RX9 yX9_parts wsX9_parts) := goodIn_app (goodIn_of _ (by decide +kernel)) ggL_parts_X9_parts
theorem dL_parts_0 : decode cL_parts 0 = .ok (.aload_n 3, 1) := by decide +kernel
theorem dL_parts_1 : decode cL_parts 1 = .ok (.iconst 0, 1) := by decide +kernel
theorem dL_parts_2 : decode cL_parts 2 = .ok (.aload_n 0, 1) := by decide +kernel
theorem dL_parts_3 : decode cL_parts 3 = .ok (.iload_n 1, 1) := by decide +kernel
theorem dL_parts_4 : decode cL_parts 4 = .ok (.iload_n 2, 1) := by decide +kernel
theorem dL_parts_5 : decode cL_parts 5 = .ok (.invokevirtual 92, 3) := by decide +kernel
theorem dL_parts_8 : decode cL_parts 8 = .ok (.i2l, 1) := by decide +kernel
theorem dL_parts_9 : decode cL_parts 9 = .ok (.lastore, 1) := by decide +kernel
theorem dL_parts_10 : decode cL_parts 10 = .ok (.goto 11, 3) := by decide +kernel
theorem dL_parts_13 : decode cL_parts 13 = .ok (.astore 4, 2) := by decide +kernel
theorem dL_parts_15 : decode cL_parts 15 = .ok (.iconst 1, 1) := by decide +kernel
theorem dL_parts_16 : decode cL_parts 16 = .ok (.ireturn, 1) := by decide +kernel
theorem dL_parts_17 : decode cL_parts 17 = .ok (.astore 4, 2) := by decide +kernel
theorem dL_parts_19 : decode cL_parts 19 = .ok (.iconst 2, 1) := by decide +kernel
theorem dL_parts_20 : decode cL_parts 20 = .ok (.ireturn, 1) := by decide +kernel
theorem dL_parts_21 : decode cL_parts 21 = .ok (.iconst 0, 1) := by decide +kernel
theorem dL_parts_22 : decode cL_parts 22 = .ok (.ireturn, 1) := by decide +kernel
set_option maxRecDepth 20000 in
theorem ggL_wanted_X9_wanted : GoodIn wsL_wanted wsX9_wanted := goodIn_ca (goodIn_r _ [6, 7, 8, 9, 10, 11, 12, 13, 14, 15, 16, 5, 17, 18, 19, 20, 21, 22, 23, 24, 25, 26, 27, 28, 29, 30, 31, 32, 33, 34, 35, 36, 37, 38, 39, 40, 41, 42, 43, 44, 45, 46, 47, 48, 49, 50, 51, 52, 53, 54, 55, 56, 57, 58, 59, 60, 61, 62, 63, 64, 65, 66, 67, 68, 69, 70, 71, 72, 73, 74, 75, 76, 77, 78, 79, 80, 81, 82, 83, 84, 85, 86, 87, 88, 89, 90, 91, 92, 93] (by decide +kernel) (by decide +kernel)) (goodIn_sub (fun _ h => List.mem_cons_of_mem _ (List.mem_append_right _ h)) (by decide +kernel))
set_option maxRecDepth 20000 in
theorem gL_wanted_X9_wanted : GoodIn wsL_wanted (wsV RL 95 RX9 yX9_wanted wsX9_wanted) := goodIn_app (goodIn_of _ (by decide +kernel)) ggL_wanted_X9_wanted
theorem dL_wanted_0 : decode cL_wanted 0 = .ok (.aload_n 2, 1) := by decide +kernel
theorem dL_wanted_1 : decode cL_wanted 1 = .ok (.iconst 0, 1) := by decide +kernel
theorem dL_wanted_2 : decode cL_wanted 2 = .ok (.aload_n 0, 1) := by decide +kernel
theorem dL_wanted_3 : decode cL_wanted 3 = .ok (.iload_n 1, 1) := by decide +kernel
theorem dL_wanted_4 : decode cL_wanted 4 = .ok (.invokevirtual 95, 3) := by decide +kernel
theorem dL_wanted_7 : decode cL_wanted 7 = .ok (.i2l, 1) := by decide +kernel
theorem dL_wanted_8 : decode cL_wanted 8 = .ok (.lastore, 1) := by decide +kernel
theorem dL_wanted_9 : decode cL_wanted 9 = .ok (.goto 6, 3) := by decide +kernel
theorem dL_wanted_12 : decode cL_wanted 12 = .ok (.astore_n 3, 1) := by decide +kernel
theorem dL_wanted_13 : decode cL_wanted 13 = .ok (.iconst 1, 1) := by decide +kernel
theorem dL_wanted_14 : decode cL_wanted 14 = .ok (.ireturn, 1) := by decide +kernel
theorem dL_wanted_15 : decode cL_wanted 15 = .ok (.iconst 0, 1) := by decide +kernel
theorem dL_wanted_16 : decode cL_wanted 16 = .ok (.ireturn, 1) := by decide +kernel
set_option maxRecDepth 20000 in
theorem ggL_way_X9_way : GoodIn wsL_way wsX9_way := goodIn_ca (goodIn_r _ [6, 7, 8, 9, 10, 11, 12, 13, 5, 14, 15, 16, 17, 18, 19, 20, 21, 22, 23, 24, 25, 26, 27, 28, 29, 30, 31, 32, 33, 34, 35, 36, 37, 38, 39, 40, 41, 42, 43, 44, 45, 46, 47, 48, 49, 50, 51, 52, 53, 54, 55, 56, 57, 58, 59, 60, 61, 62, 63, 64, 65, 66, 67, 68, 69, 70, 71, 72, 73, 74, 75, 76, 77, 78, 79, 80, 81, 82, 83, 84, 85, 86, 87, 88, 89, 90, 91, 92, 93, 94, 95, 96, 97, 98, 99, 100, 101, 102, 103, 104, 105, 106, 107, 108, 109, 110, 111, 112, 113, 114, 115, 116, 117, 118, 119, 120, 121, 122, 123, 124, 125, 126, 127, 128, 129, 130, 131, 132, 133, 134, 135, 136] (by decide +kernel) (by decide +kernel)) (goodIn_sub (fun _ h => List.mem_cons_of_mem _ (List.mem_append_right _ h)) (by decide +kernel))
set_option maxRecDepth 20000 in
theorem gL_way_X9_way : GoodIn wsL_way (wsV RL 98 RX9 yX9_way wsX9_way) := goodIn_app (goodIn_of _ (by decide +kernel)) ggL_way_X9_way
theorem dL_way_0 : decode cL_way 0 = .ok (.aload_n 2, 1) := by decide +kernel
theorem dL_way_1 : decode cL_way 1 = .ok (.iconst 0, 1) := by decide +kernel
theorem dL_way_2 : decode cL_way 2 = .ok (.aload_n 0, 1) := by decide +kernel
theorem dL_way_3 : decode cL_way 3 = .ok (.iload_n 1, 1) := by decide +kernel
theorem dL_way_4 : decode cL_way 4 = .ok (.invokevirtual 98, 3) := by decide +kernel
theorem dL_way_7 : decode cL_way 7 = .ok (.i2l, 1) := by decide +kernel
theorem dL_way_8 : decode cL_way 8 = .ok (.lastore, 1) := by decide +kernel
theorem dL_way_9 : decode cL_way 9 = .ok (.goto 6, 3) := by decide +kernel
theorem dL_way_12 : decode cL_way 12 = .ok (.astore_n 3, 1) := by decide +kernel
theorem dL_way_13 : decode cL_way 13 = .ok (.iconst 1, 1) := by decide +kernel
theorem dL_way_14 : decode cL_way 14 = .ok (.ireturn, 1) := by decide +kernel
theorem dL_way_15 : decode cL_way 15 = .ok (.iconst 0, 1) := by decide +kernel
theorem dL_way_16 : decode cL_way 16 = .ok (.ireturn, 1) := by decide +kernel
set_option maxRecDepth 20000 in
theorem ggL_planned_X9_planned : GoodIn wsL_planned wsX9_planned := goodIn_ca (goodIn_r _ [6, 7, 8, 9, 10, 11, 12, 13, 5, 14, 15, 16, 17, 18, 19, 20, 21, 22, 23, 24, 25, 26, 27, 28, 29, 30, 31, 32, 33, 34, 35, 36, 37, 38, 39, 40, 41, 42, 43, 44, 45, 46, 47, 48, 49, 50, 51, 52, 53, 54, 55, 56, 57, 58, 59, 60, 61, 62, 63, 64, 65, 66, 67, 68, 69, 70, 71, 72, 73, 74, 75, 76, 77, 78, 79, 80, 81, 82, 83, 84, 85, 86, 87, 88, 89, 90, 91, 92, 93, 94, 95, 96, 97, 98, 99, 100, 101, 102, 103, 104, 105, 106, 107, 108, 109, 110, 111, 112, 113, 114, 115, 116, 117, 118, 119, 120, 121, 122, 123, 124, 125, 126, 127, 128, 129, 130, 131, 132, 133, 134, 135, 136, 137, 138, 139, 140, 141, 142, 143] (by decide +kernel) (by decide +kernel)) (goodIn_sub (fun _ h => List.mem_cons_of_mem _ (List.mem_append_right _ h)) (by decide +kernel))
set_option maxRecDepth 20000 in
theorem gL_planned_X9_planned : GoodIn wsL_planned (wsV RL 101 RX9 yX9_planned wsX9_planned) := goodIn_app (goodIn_of _ (by decide +kernel)) ggL_planned_X9_planned
theorem dL_planned_0 : decode cL_planned 0 = .ok (.aload_n 3, 1) := by decide +kernel
theorem dL_planned_1 : decode cL_planned 1 = .ok (.iconst 0, 1) := by decide +kernel
theorem dL_planned_2 : decode cL_planned 2 = .ok (.aload_n 0, 1) := by decide +kernel
theorem dL_planned_3 : decode cL_planned 3 = .ok (.iload_n 1, 1) := by decide +kernel
theorem dL_planned_4 : decode cL_planned 4 = .ok (.iload_n 2, 1) := by decide +kernel
theorem dL_planned_5 : decode cL_planned 5 = .ok (.invokevirtual 101, 3) := by decide +kernel
theorem dL_planned_8 : decode cL_planned 8 = .ok (.i2l, 1) := by decide +kernel
theorem dL_planned_9 : decode cL_planned 9 = .ok (.lastore, 1) := by decide +kernel
theorem dL_planned_10 : decode cL_planned 10 = .ok (.goto 7, 3) := by decide +kernel
theorem dL_planned_13 : decode cL_planned 13 = .ok (.astore 4, 2) := by decide +kernel
theorem dL_planned_15 : decode cL_planned 15 = .ok (.iconst 1, 1) := by decide +kernel
theorem dL_planned_16 : decode cL_planned 16 = .ok (.ireturn, 1) := by decide +kernel
theorem dL_planned_17 : decode cL_planned 17 = .ok (.iconst 0, 1) := by decide +kernel
theorem dL_planned_18 : decode cL_planned 18 = .ok (.ireturn, 1) := by decide +kernel
set_option maxRecDepth 20000 in
theorem ggL_go_X9_go : GoodIn wsL_go wsX9_go := goodIn_ca (goodIn_ca (goodIn_r _ [7, 8, 9, 10, 11, 12, 13, 14, 15, 16, 17, 6, 18, 19, 20, 21, 22, 23, 24, 25, 26, 27, 28, 29, 30, 31, 32, 33, 34, 35, 36, 37, 38, 39, 40, 41, 42, 43, 44, 45, 46, 47, 48, 49, 50, 51, 52, 53, 54, 55, 56, 57, 58, 59, 60, 61, 62, 63, 64, 65, 66, 67, 68, 69, 70, 71, 72, 73, 74, 75, 76, 77, 78, 79, 80, 81, 82, 83, 84, 85, 86, 87, 88, 89, 90, 91, 92, 93, 94, 95, 96, 97, 98, 99, 100, 101, 102, 103, 104, 105, 106, 107, 108, 109, 110, 111, 112, 113, 114, 115, 116, 117, 118, 119, 120, 121, 122, 123, 124, 125, 126, 127, 128, 129, 130, 131, 132, 133, 134, 135, 136, 137, 138, 139, 140, 141, 142, 143, 144, 145, 146, 147, 148, 149, 150, 151, 152, 153, 154, 155, 156, 157, 158, 159, 160, 161, 162, 163, 164, 165, 166, 167, 168, 169, 170, 171, 172, 173, 174, 175, 176, 177, 178, 179, 180, 181, 182, 183, 184] (by decide +kernel) (by decide +kernel)) (goodIn_sub (fun _ h => List.mem_cons_of_mem _ (List.mem_append_left _ (List.mem_append_right _ h))) (by decide +kernel))) (goodIn_sub (fun _ h => List.mem_cons_of_mem _ (List.mem_append_right _ h)) (by decide +kernel))
set_option maxRecDepth 20000 in
theorem gL_go_X9_go : GoodIn wsL_go (wsV RL 104 RX9 yX9_go wsX9_go) := goodIn_app (goodIn_of _ (by decide +kernel)) ggL_go_X9_go
theorem dL_go_0 : decode cL_go 0 = .ok (.aload_n 2, 1) := by decide +kernel
theorem dL_go_1 : decode cL_go 1 = .ok (.iconst 0, 1) := by decide +kernel
theorem dL_go_2 : decode cL_go 2 = .ok (.aload_n 0, 1) := by decide +kernel
theorem dL_go_3 : decode cL_go 3 = .ok (.iload_n 1, 1) := by decide +kernel
theorem dL_go_4 : decode cL_go 4 = .ok (.invokevirtual 104, 3) := by decide +kernel
theorem dL_go_7 : decode cL_go 7 = .ok (.i2l, 1) := by decide +kernel
theorem dL_go_8 : decode cL_go 8 = .ok (.lastore, 1) := by decide +kernel
theorem dL_go_9 : decode cL_go 9 = .ok (.goto 9, 3) := by decide +kernel
theorem dL_go_12 : decode cL_go 12 = .ok (.astore_n 3, 1) := by decide +kernel
theorem dL_go_13 : decode cL_go 13 = .ok (.iconst 1, 1) := by decide +kernel
theorem dL_go_14 : decode cL_go 14 = .ok (.ireturn, 1) := by decide +kernel
theorem dL_go_15 : decode cL_go 15 = .ok (.astore_n 3, 1) := by decide +kernel
theorem dL_go_16 : decode cL_go 16 = .ok (.iconst 2, 1) := by decide +kernel
theorem dL_go_17 : decode cL_go 17 = .ok (.ireturn, 1) := by decide +kernel
theorem dL_go_18 : decode cL_go 18 = .ok (.iconst 0, 1) := by decide +kernel
theorem dL_go_19 : decode cL_go 19 = .ok (.ireturn, 1) := by decide +kernel
set_option maxRecDepth 20000 in
theorem ggL_vanAt_X9_vanAt : GoodIn wsL_vanAt wsX9_vanAt := goodIn_ca (goodIn_r _ [6, 7, 8, 9, 10, 5, 11, 12, 13, 14, 15, 16, 17, 18, 19, 20, 21, 22, 23, 24, 25, 26] (by decide +kernel) (by decide +kernel)) (goodIn_sub (fun _ h => List.mem_cons_of_mem _ (List.mem_append_right _ h)) (by decide +kernel))
set_option maxRecDepth 20000 in
theorem gL_vanAt_X9_vanAt : GoodIn wsL_vanAt (wsV RL 107 RX9 yX9_vanAt wsX9_vanAt) := goodIn_app (goodIn_of _ (by decide +kernel)) ggL_vanAt_X9_vanAt
theorem dL_vanAt_0 : decode cL_vanAt 0 = .ok (.aload_n 2, 1) := by decide +kernel
theorem dL_vanAt_1 : decode cL_vanAt 1 = .ok (.iconst 0, 1) := by decide +kernel
theorem dL_vanAt_2 : decode cL_vanAt 2 = .ok (.aload_n 0, 1) := by decide +kernel
theorem dL_vanAt_3 : decode cL_vanAt 3 = .ok (.iload_n 1, 1) := by decide +kernel
theorem dL_vanAt_4 : decode cL_vanAt 4 = .ok (.invokevirtual 107, 3) := by decide +kernel
theorem dL_vanAt_7 : decode cL_vanAt 7 = .ok (.i2l, 1) := by decide +kernel
theorem dL_vanAt_8 : decode cL_vanAt 8 = .ok (.lastore, 1) := by decide +kernel
theorem dL_vanAt_9 : decode cL_vanAt 9 = .ok (.goto 6, 3) := by decide +kernel
theorem dL_vanAt_12 : decode cL_vanAt 12 = .ok (.astore_n 3, 1) := by decide +kernel
theorem dL_vanAt_13 : decode cL_vanAt 13 = .ok (.iconst 1, 1) := by decide +kernel
theorem dL_vanAt_14 : decode cL_vanAt 14 = .ok (.ireturn, 1) := by decide +kernel
theorem dL_vanAt_15 : decode cL_vanAt 15 = .ok (.iconst 0, 1) := by decide +kernel
theorem dL_vanAt_16 : decode cL_vanAt 16 = .ok (.ireturn, 1) := by decide +kernel
