theorem dX9_load_10 : decode cX9_load 10 = .ok (.invokestatic 55, 3) := by decide +kernel
theorem dX9_load_13 : decode cX9_load 13 = .ok (.iload_n 3, 1) := by decide +kernel
theorem dX9_load_14 : decode cX9_load 14 = .ok (.iconst 1, 1) := by decide +kernel
theorem dX9_load_15 : decode cX9_load 15 = .ok (.bipush 20, 2) := by decide +kernel
theorem dX9_load_17 : decode cX9_load 17 = .ok (.invokestatic 55, 3) := by decide +kernel
theorem dX9_load_20 : decode cX9_load 20 = .ok (.aload 4, 2) := by decide +kernel
theorem dX9_load_22 : decode cX9_load 22 = .ok (.iload_n 2, 1) := by decide +kernel
theorem dX9_load_23 : decode cX9_load 23 = .ok (.invokevirtual 229, 3) := by decide +kernel
theorem dX9_load_26 : decode cX9_load 26 = .ok (.iload_n 3, 1) := by decide +kernel
theorem dX9_load_27 : decode cX9_load 27 = .ok (.iadd, 1) := by decide +kernel
theorem dX9_load_28 : decode cX9_load 28 = .ok (.bipush 20, 2) := by decide +kernel
theorem dX9_load_30 : decode cX9_load 30 = .ok (.if_icmp .le 13, 3) := by decide +kernel
theorem dX9_load_33 : decode cX9_load 33 = .ok (.new 63, 3) := by decide +kernel
theorem dX9_load_36 : decode cX9_load 36 = .ok (.dup, 1) := by decide +kernel
theorem dX9_load_37 : decode cX9_load 37 = .ok (.ldc 232, 2) := by decide +kernel
theorem dX9_load_39 : decode cX9_load 39 = .ok (.invokespecial 67, 3) := by decide +kernel
theorem dX9_load_42 : decode cX9_load 42 = .ok (.athrow, 1) := by decide +kernel
theorem dX9_load_43 : decode cX9_load 43 = .ok (.aload 4, 2) := by decide +kernel
theorem dX9_load_45 : decode cX9_load 45 = .ok (.iload_n 2, 1) := by decide +kernel
theorem dX9_load_46 : decode cX9_load 46 = .ok (.iload_n 3, 1) := by decide +kernel
theorem dX9_load_47 : decode cX9_load 47 = .ok (.invokevirtual 234, 3) := by decide +kernel
theorem dX9_load_50 : decode cX9_load 50 = .ok (.aload 4, 2) := by decide +kernel
theorem dX9_load_52 : decode cX9_load 52 = .ok (.iload_n 2, 1) := by decide +kernel
theorem dX9_load_53 : decode cX9_load 53 = .ok (.invokevirtual 229, 3) := by decide +kernel
theorem dX9_load_56 : decode cX9_load 56 = .ok (.ireturn, 1) := by decide +kernel
set_option maxRecDepth 20000 in
theorem ggX9_parts_X9_demandVan : GoodIn wsX9_parts wsX9_demandVan := goodIn_ca (goodIn_r _ [5, 6, 7, 8, 9, 21, 22, 23, 24, 25, 26, 27, 28, 29] (by decide +kernel) (by decide +kernel)) (goodIn_sub (fun _ h => List.mem_cons_of_mem _ (List.mem_append_left _ (List.mem_append_right _ h))) (by decide +kernel))
set_option maxRecDepth 20000 in
theorem gX9_parts_X9_demandVan : GoodIn wsX9_parts (wsV RX9 225 RX9 yX9_demandVan wsX9_demandVan) := goodIn_app (goodIn_of _ (by decide +kernel)) ggX9_parts_X9_demandVan
set_option maxRecDepth 20000 in
theorem ggX9_parts_X9_demandRange : GoodIn wsX9_parts wsX9_demandRange := goodIn_ca (goodIn_r _ [12, 13, 14] (by decide +kernel) (by decide +kernel)) (goodIn_sub (fun _ h => List.mem_cons_of_mem _ (List.mem_append_right _ h)) (by decide +kernel))
set_option maxRecDepth 20000 in
theorem gX9_parts_X9_demandRange : GoodIn wsX9_parts (va_wsS RX9 55 yX9_demandRange wsX9_demandRange) := goodIn_app (goodIn_of _ (by decide +kernel)) ggX9_parts_X9_demandRange
set_option maxRecDepth 20000 in
theorem ggX9_parts_X8_spareOf : GoodIn wsX9_parts wsX8_spareOf := goodIn_r _ [19, 20, 30, 31] (by decide +kernel) (by decide +kernel)
set_option maxRecDepth 20000 in
theorem gX9_parts_X8_spareOf : GoodIn wsX9_parts (wsV RX9 229 RX8 yX8_spareOf wsX8_spareOf) := goodIn_app (goodIn_of _ (by decide +kernel)) ggX9_parts_X8_spareOf
theorem dX9_parts_0 : decode cX9_parts 0 = .ok (.aload_n 0, 1) := by decide +kernel
theorem dX9_parts_1 : decode cX9_parts 1 = .ok (.iload_n 1, 1) := by decide +kernel
theorem dX9_parts_2 : decode cX9_parts 2 = .ok (.invokevirtual 225, 3) := by decide +kernel
theorem dX9_parts_5 : decode cX9_parts 5 = .ok (.astore_n 3, 1) := by decide +kernel
theorem dX9_parts_6 : decode cX9_parts 6 = .ok (.iload_n 2, 1) := by decide +kernel
theorem dX9_parts_7 : decode cX9_parts 7 = .ok (.iconst 0, 1) := by decide +kernel
theorem dX9_parts_8 : decode cX9_parts 8 = .ok (.iconst 1, 1) := by decide +kernel
theorem dX9_parts_9 : decode cX9_parts 9 = .ok (.invokestatic 55, 3) := by decide +kernel
theorem dX9_parts_12 : decode cX9_parts 12 = .ok (.aload_n 3, 1) := by decide +kernel
theorem dX9_parts_13 : decode cX9_parts 13 = .ok (.iload_n 2, 1) := by decide +kernel
theorem dX9_parts_14 : decode cX9_parts 14 = .ok (.invokevirtual 229, 3) := by decide +kernel
theorem dX9_parts_17 : decode cX9_parts 17 = .ok (.ireturn, 1) := by decide +kernel
set_option maxRecDepth 20000 in
theorem ggX9_wanted_X9_demandRange : GoodIn wsX9_wanted wsX9_demandRange := goodIn_ca (goodIn_r _ [12, 13, 14] (by decide +kernel) (by decide +kernel)) (goodIn_sub (fun _ h => List.mem_cons_of_mem _ (List.mem_append_right _ h)) (by decide +kernel))
set_option maxRecDepth 20000 in
theorem gX9_wanted_X9_demandRange : GoodIn wsX9_wanted (va_wsS RX9 55 yX9_demandRange wsX9_demandRange) := goodIn_app (goodIn_of _ (by decide +kernel)) ggX9_wanted_X9_demandRange
set_option maxRecDepth 20000 in
theorem ggX9_wanted_Jx4a65c_size_8abf5 : GoodIn wsX9_wanted wsJx4a65c_size_8abf5 := goodIn_r _ [19, 20, 69, 70, 71] (by decide +kernel) (by decide +kernel)
set_option maxRecDepth 20000 in
theorem gX9_wanted_Jx4a65c_size_8abf5 : GoodIn wsX9_wanted (wsV RX9 59 RJx4a65c yJx4a65c_size_8abf5 wsJx4a65c_size_8abf5) := goodIn_app (goodIn_of _ (by decide +kernel)) ggX9_wanted_Jx4a65c_size_8abf5
set_option maxRecDepth 20000 in
theorem ggX9_wanted_Jx4a65c_get_915e3 : GoodIn wsX9_wanted wsJx4a65c_get_915e3 := goodIn_r _ [24, 20, 25, 26, 27, 28, 29, 30, 31, 32, 33, 34, 35, 18, 36, 37, 69, 70, 71] (by decide +kernel) (by decide +kernel)
set_option maxRecDepth 20000 in
theorem gX9_wanted_Jx4a65c_get_915e3 : GoodIn wsX9_wanted (wsV RX9 166 RJx4a65c yJx4a65c_get_915e3 wsJx4a65c_get_915e3) := goodIn_app (goodIn_of _ (by decide +kernel)) ggX9_wanted_Jx4a65c_get_915e3
set_option maxRecDepth 20000 in
theorem ggX9_wanted_X7_countFaults : GoodIn wsX9_wanted wsX7_countFaults := goodIn_r _ [42, 43, 44, 45, 46, 16, 17, 18, 19, 20, 47, 22, 23, 24, 25, 26, 27, 28, 29, 30, 31, 32, 33, 34, 35, 36, 37, 48, 49, 50, 51, 52, 53, 72, 73, 74, 75, 76, 77, 78, 79, 80, 81, 82, 83, 84, 85, 86, 69, 70, 71] (by decide +kernel) (by decide +kernel)
set_option maxRecDepth 20000 in
theorem gX9_wanted_X7_countFaults : GoodIn wsX9_wanted (wsV RX9 237 RX7 yX7_countFaults wsX7_countFaults) := goodIn_app (goodIn_of _ (by decide +kernel)) ggX9_wanted_X7_countFaults
set_option maxRecDepth 20000 in
theorem ggX9_wanted_X8_spareOf : GoodIn wsX9_wanted wsX8_spareOf := goodIn_r _ [58, 59, 87, 88] (by decide +kernel) (by decide +kernel)
set_option maxRecDepth 20000 in
theorem gX9_wanted_X8_spareOf : GoodIn wsX9_wanted (wsV RX9 229 RX8 yX8_spareOf wsX8_spareOf) := goodIn_app (goodIn_of _ (by decide +kernel)) ggX9_wanted_X8_spareOf
theorem dX9_wanted_0 : decode cX9_wanted 0 = .ok (.iload_n 1, 1) := by decide +kernel
theorem dX9_wanted_1 : decode cX9_wanted 1 = .ok (.iconst 0, 1) := by decide +kernel
theorem dX9_wanted_2 : decode cX9_wanted 2 = .ok (.iconst 1, 1) := by decide +kernel
theorem dX9_wanted_3 : decode cX9_wanted 3 = .ok (.invokestatic 55, 3) := by decide +kernel
theorem dX9_wanted_6 : decode cX9_wanted 6 = .ok (.iconst 0, 1) := by decide +kernel
theorem dX9_wanted_7 : decode cX9_wanted 7 = .ok (.istore_n 2, 1) := by decide +kernel
theorem dX9_wanted_8 : decode cX9_wanted 8 = .ok (.iconst 0, 1) := by decide +kernel
theorem dX9_wanted_9 : decode cX9_wanted 9 = .ok (.istore_n 3, 1) := by decide +kernel
theorem dX9_wanted_10 : decode cX9_wanted 10 = .ok (.iload_n 3, 1) := by decide +kernel
theorem dX9_wanted_11 : decode cX9_wanted 11 = .ok (.aload_n 0, 1) := by decide +kernel
theorem dX9_wanted_12 : decode cX9_wanted 12 = .ok (.getfield 12, 3) := by decide +kernel
theorem dX9_wanted_15 : decode cX9_wanted 15 = .ok (.invokevirtual 59, 3) := by decide +kernel
theorem dX9_wanted_18 : decode cX9_wanted 18 = .ok (.if_icmp .ge 27, 3) := by decide +kernel
theorem dX9_wanted_21 : decode cX9_wanted 21 = .ok (.iload_n 2, 1) := by decide +kernel
theorem dX9_wanted_22 : decode cX9_wanted 22 = .ok (.aload_n 0, 1) := by decide +kernel
theorem dX9_wanted_23 : decode cX9_wanted 23 = .ok (.getfield 12, 3) := by decide +kernel
theorem dX9_wanted_26 : decode cX9_wanted 26 = .ok (.iload_n 3, 1) := by decide +kernel
theorem dX9_wanted_27 : decode cX9_wanted 27 = .ok (.invokevirtual 166, 3) := by decide +kernel
theorem dX9_wanted_30 : decode cX9_wanted 30 = .ok (.checkcast 70, 3) := by decide +kernel
theorem dX9_wanted_33 : decode cX9_wanted 33 = .ok (.iload_n 1, 1) := by decide +kernel
theorem dX9_wanted_34 : decode cX9_wanted 34 = .ok (.invokevirtual 237, 3) := by decide +kernel
theorem dX9_wanted_37 : decode cX9_wanted 37 = .ok (.iadd, 1) := by decide +kernel
theorem dX9_wanted_38 : decode cX9_wanted 38 = .ok (.istore_n 2, 1) := by decide +kernel
theorem dX9_wanted_39 : decode cX9_wanted 39 = .ok (.iinc 3 1, 3) := by decide +kernel
theorem dX9_wanted_42 : decode cX9_wanted 42 = .ok (.goto (-32), 3) := by decide +kernel
theorem dX9_wanted_45 : decode cX9_wanted 45 = .ok (.iconst 0, 1) := by decide +kernel
theorem dX9_wanted_46 : decode cX9_wanted 46 = .ok (.iload_n 2, 1) := by decide +kernel
theorem dX9_wanted_47 : decode cX9_wanted 47 = .ok (.aload_n 0, 1) := by decide +kernel
theorem dX9_wanted_48 : decode cX9_wanted 48 = .ok (.getfield 22, 3) := by decide +kernel
theorem dX9_wanted_51 : decode cX9_wanted 51 = .ok (.iload_n 1, 1) := by decide +kernel
theorem dX9_wanted_52 : decode cX9_wanted 52 = .ok (.invokevirtual 229, 3) := by decide +kernel
theorem dX9_wanted_55 : decode cX9_wanted 55 = .ok (.isub, 1) := by decide +kernel
theorem dX9_wanted_56 : decode cX9_wanted 56 = .ok (.aload_n 0, 1) := by decide +kernel
theorem dX9_wanted_57 : decode cX9_wanted 57 = .ok (.getfield 26, 3) := by decide +kernel
theorem dX9_wanted_60 : decode cX9_wanted 60 = .ok (.iload_n 1, 1) := by decide +kernel
theorem dX9_wanted_61 : decode cX9_wanted 61 = .ok (.invokevirtual 229, 3) := by decide +kernel
theorem dX9_wanted_64 : decode cX9_wanted 64 = .ok (.isub, 1) := by decide +kernel
theorem dX9_wanted_65 : decode cX9_wanted 65 = .ok (.invokestatic 240, 3) := by decide +kernel
theorem dX9_wanted_68 : decode cX9_wanted 68 = .ok (.ireturn, 1) := by decide +kernel
set_option maxRecDepth 20000 in
theorem ggX9_way_X9_demandVan : GoodIn wsX9_way wsX9_demandVan := goodIn_ca (goodIn_r _ [9, 10, 11, 12, 13, 98, 99, 100, 101, 102, 103, 104, 105, 106] (by decide +kernel) (by decide +kernel)) (goodIn_sub (fun _ h => List.mem_cons_of_mem _ (List.mem_append_right _ h)) (by decide +kernel))
set_option maxRecDepth 20000 in
theorem gX9_way_X9_demandVan : GoodIn wsX9_way (wsV RX9 225 RX9 yX9_demandVan wsX9_demandVan) := goodIn_app (goodIn_of _ (by decide +kernel)) ggX9_way_X9_demandVan
set_option maxRecDepth 20000 in
theorem ggX9_way_X4_search : GoodIn wsX9_way wsX4_search := goodIn_r _ [18, 19, 20, 21, 22, 17, 23, 24, 25, 26, 27, 28, 29, 30, 31, 32, 33, 34, 35, 36, 37, 38, 39, 40, 41, 42, 43, 44, 45, 46, 47, 48, 49, 50, 51, 52, 53, 54, 55, 56, 57, 58, 59, 60, 61, 62, 63, 64, 65, 66, 67, 68, 69, 70, 71, 72, 73, 74, 75, 76, 77, 78, 79, 80, 81, 82, 83, 84, 85, 86, 87, 88, 89, 90, 91, 92, 93, 94, 95, 96, 97, 109, 110, 111, 112, 113, 114, 115, 116, 117, 118, 119, 120, 121, 122, 123, 124, 125, 126, 127, 128, 129, 130, 131] (by decide +kernel) (by decide +kernel)
set_option maxRecDepth 20000 in
theorem gX9_way_X4_search : GoodIn wsX9_way (wsV RX9 249 RX4 yX4_search wsX4_search) := goodIn_app (goodIn_of _ (by decide +kernel)) ggX9_way_X4_search
theorem dX9_way_0 : decode cX9_way 0 = .ok (.aload_n 0, 1) := by decide +kernel
theorem dX9_way_1 : decode cX9_way 1 = .ok (.getfield 43, 3) := by decide +kernel
theorem dX9_way_4 : decode cX9_way 4 = .ok (.aload_n 0, 1) := by decide +kernel
theorem dX9_way_5 : decode cX9_way 5 = .ok (.getfield 12, 3) := by decide +kernel
theorem dX9_way_8 : decode cX9_way 8 = .ok (.aload_n 0, 1) := by decide +kernel
theorem dX9_way_9 : decode cX9_way 9 = .ok (.iload_n 1, 1) := by decide +kernel
theorem dX9_way_10 : decode cX9_way 10 = .ok (.invokevirtual 225, 3) := by decide +kernel
theorem dX9_way_13 : decode cX9_way 13 = .ok (.getfield 246, 3) := by decide +kernel
theorem dX9_way_16 : decode cX9_way 16 = .ok (.invokevirtual 249, 3) := by decide +kernel
theorem dX9_way_19 : decode cX9_way 19 = .ok (.aload_n 0, 1) := by decide +kernel
theorem dX9_way_20 : decode cX9_way 20 = .ok (.getfield 43, 3) := by decide +kernel
theorem dX9_way_23 : decode cX9_way 23 = .ok (.getfield 253, 3) := by decide +kernel
theorem dX9_way_26 : decode cX9_way 26 = .ok (.ireturn, 1) := by decide +kernel
set_option maxRecDepth 20000 in
theorem ggX9_planned_X9_demandVan : GoodIn wsX9_planned wsX9_demandVan := goodIn_ca (goodIn_r _ [9, 10, 11, 12, 13, 105, 106, 107, 108, 109, 110, 111, 112, 113] (by decide +kernel) (by decide +kernel)) (goodIn_sub (fun _ h => List.mem_cons_of_mem _ (List.mem_append_right _ h)) (by decide +kernel))
set_option maxRecDepth 20000 in
theorem gX9_planned_X9_demandVan : GoodIn wsX9_planned (wsV RX9 225 RX9 yX9_demandVan wsX9_demandVan) := goodIn_app (goodIn_of _ (by decide +kernel)) ggX9_planned_X9_demandVan
set_option maxRecDepth 20000 in
theorem ggX9_planned_X4_search : GoodIn wsX9_planned wsX4_search := goodIn_r _ [18, 19, 20, 21, 22, 17, 23, 24, 25, 26, 27, 28, 29, 30, 31, 32, 33, 34, 35, 36, 37, 38, 39, 40, 41, 42, 43, 44, 45, 46, 47, 48, 49, 50, 51, 52, 53, 54, 55, 56, 57, 58, 59, 60, 61, 62, 63, 64, 65, 66, 67, 68, 69, 70, 71, 72, 73, 74, 75, 76, 77, 78, 79, 80, 81, 82, 83, 84, 85, 86, 87, 88, 89, 90, 91, 92, 93, 94, 95, 96, 97, 116, 117, 118, 119, 120, 121, 122, 123, 124, 125, 126, 127, 128, 129, 130, 131, 132, 133, 134, 135, 136, 137, 138] (by decide +kernel) (by decide +kernel)
set_option maxRecDepth 20000 in
theorem gX9_planned_X4_search : GoodIn wsX9_planned (wsV RX9 249 RX4 yX4_search wsX4_search) := goodIn_app (goodIn_of _ (by decide +kernel)) ggX9_planned_X4_search
set_option maxRecDepth 20000 in
theorem ggX9_planned_X9_demandIndex : GoodIn wsX9_planned wsX9_demandIndex := goodIn_ca (goodIn_r _ [100, 10, 11] (by decide +kernel) (by decide +kernel)) (goodIn_sub (fun _ h => List.mem_cons_of_mem _ (List.mem_append_right _ h)) (by decide +kernel))
set_option maxRecDepth 20000 in
theorem gX9_planned_X9_demandIndex : GoodIn wsX9_planned (va_wsS RX9 114 yX9_demandIndex wsX9_demandIndex) := goodIn_app (goodIn_of _ (by decide +kernel)) ggX9_planned_X9_demandIndex
set_option maxRecDepth 20000 in
theorem ggX9_planned_X4_tableOf : GoodIn wsX9_planned wsX4_tableOf := goodIn_r _ [104, 24, 86, 116, 117, 118, 119, 120] (by decide +kernel) (by decide +kernel)
set_option maxRecDepth 20000 in
theorem gX9_planned_X4_tableOf : GoodIn wsX9_planned (wsV RX9 259 RX4 yX4_tableOf wsX4_tableOf) := goodIn_app (goodIn_of _ (by decide +kernel)) ggX9_planned_X4_tableOf
theorem dX9_planned_0 : decode cX9_planned 0 = .ok (.aload_n 0, 1) := by decide +kernel
theorem dX9_planned_1 : decode cX9_planned 1 = .ok (.getfield 43, 3) := by decide +kernel
theorem dX9_planned_4 : decode cX9_planned 4 = .ok (.aload_n 0, 1) := by decide +kernel
theorem dX9_planned_5 : decode cX9_planned 5 = .ok (.getfield 12, 3) := by decide +kernel
theorem dX9_planned_8 : decode cX9_planned 8 = .ok (.aload_n 0, 1) := by decide +kernel
theorem dX9_planned_9 : decode cX9_planned 9 = .ok (.iload_n 1, 1) := by decide +kernel
theorem dX9_planned_10 : decode cX9_planned 10 = .ok (.invokevirtual 225, 3) := by decide +kernel
theorem dX9_planned_13 : decode cX9_planned 13 = .ok (.getfield 246, 3) := by decide +kernel
theorem dX9_planned_16 : decode cX9_planned 16 = .ok (.invokevirtual 249, 3) := by decide +kernel
theorem dX9_planned_19 : decode cX9_planned 19 = .ok (.iload_n 2, 1) := by decide +kernel
theorem dX9_planned_20 : decode cX9_planned 20 = .ok (.aload_n 0, 1) := by decide +kernel
theorem dX9_planned_21 : decode cX9_planned 21 = .ok (.getfield 43, 3) := by decide +kernel
theorem dX9_planned_24 : decode cX9_planned 24 = .ok (.getfield 256, 3) := by decide +kernel
theorem dX9_planned_27 : decode cX9_planned 27 = .ok (.invokestatic 114, 3) := by decide +kernel
theorem dX9_planned_30 : decode cX9_planned 30 = .ok (.aload_n 0, 1) := by decide +kernel
theorem dX9_planned_31 : decode cX9_planned 31 = .ok (.getfield 43, 3) := by decide +kernel
theorem dX9_planned_34 : decode cX9_planned 34 = .ok (.iload_n 2, 1) := by decide +kernel
theorem dX9_planned_35 : decode cX9_planned 35 = .ok (.invokevirtual 259, 3) := by decide +kernel
theorem dX9_planned_38 : decode cX9_planned 38 = .ok (.ireturn, 1) := by decide +kernel
set_option maxRecDepth 20000 in
theorem ggX9_go_X9_demandVan : GoodIn wsX9_go wsX9_demandVan := goodIn_ca (goodIn_r _ [12, 13, 14, 15, 16, 145, 146, 147, 148, 149, 150, 151, 152, 153] (by decide +kernel) (by decide +kernel)) (goodIn_sub (fun _ h => List.mem_cons_of_mem _ (List.mem_append_right _ h)) (by decide +kernel))
set_option maxRecDepth 20000 in
theorem gX9_go_X9_demandVan : GoodIn wsX9_go (wsV RX9 225 RX9 yX9_demandVan wsX9_demandVan) := goodIn_app (goodIn_of _ (by decide +kernel)) ggX9_go_X9_demandVan
set_option maxRecDepth 20000 in
theorem ggX9_go_X4_search : GoodIn wsX9_go wsX4_search := goodIn_r _ [21, 22, 23, 24, 25, 20, 26, 27, 28, 29, 30, 31, 32, 33, 34, 35, 36, 37, 38, 39, 40, 41, 42, 43, 44, 45, 46, 47, 48, 49, 50, 51, 52, 53, 54, 55, 56, 57, 58, 59, 60, 61, 62, 63, 64, 65, 66, 67, 68, 69, 70, 71, 72, 73, 74, 75, 76, 77, 78, 79, 80, 81, 82, 83, 84, 85, 86, 87, 88, 89, 90, 91, 92, 93, 94, 95, 96, 97, 98, 99, 100, 156, 157, 158, 159, 160, 161, 162, 163, 164, 165, 166, 167, 168, 169, 170, 171, 172, 173, 174, 175, 176, 177, 178] (by decide +kernel) (by decide +kernel)
set_option maxRecDepth 20000 in
theorem gX9_go_X4_search : GoodIn wsX9_go (wsV RX9 249 RX4 yX4_search wsX4_search) := goodIn_app (goodIn_of _ (by decide +kernel)) ggX9_go_X4_search
set_option maxRecDepth 20000 in
theorem ggX9_go_X4_tableOf : GoodIn wsX9_go wsX4_tableOf := goodIn_r _ [104, 27, 89, 156, 157, 158, 159, 160] (by decide +kernel) (by decide +kernel)
set_option maxRecDepth 20000 in
theorem gX9_go_X4_tableOf : GoodIn wsX9_go (wsV RX9 259 RX4 yX4_tableOf wsX4_tableOf) := goodIn_app (goodIn_of _ (by decide +kernel)) ggX9_go_X4_tableOf
set_option maxRecDepth 20000 in
theorem ggX9_go_X9_demandTable : GoodIn wsX9_go wsX9_demandTable := goodIn_ca (goodIn_r _ [108, 13, 14, 4, 109, 110, 33, 34, 35, 36, 37, 111, 39, 40, 41, 42, 43, 44, 45, 46, 47, 48, 49, 50, 51, 52, 53, 54, 145, 146, 147, 148, 149, 150, 151, 152, 153, 169, 170, 171] (by decide +kernel) (by decide +kernel)) (goodIn_sub (fun _ h => List.mem_cons_of_mem _ (List.mem_append_right _ h)) (by decide +kernel))
set_option maxRecDepth 20000 in
theorem gX9_go_X9_demandTable : GoodIn wsX9_go (wsV RX9 79 RX9 yX9_demandTable wsX9_demandTable) := goodIn_app (goodIn_of _ (by decide +kernel)) ggX9_go_X9_demandTable
set_option maxRecDepth 20000 in
theorem ggX9_go_X7_emptyBox : GoodIn wsX9_go wsX7_emptyBox := goodIn_r _ [115, 61, 116, 117, 161, 162, 163, 164, 165, 166, 167, 168] (by decide +kernel) (by decide +kernel)
set_option maxRecDepth 20000 in
theorem gX9_go_X7_emptyBox : GoodIn wsX9_go (wsV RX9 264 RX7 yX7_emptyBox wsX7_emptyBox) := goodIn_app (goodIn_of _ (by decide +kernel)) ggX9_go_X7_emptyBox
set_option maxRecDepth 20000 in
theorem ggX9_go_X9_mendSwitches : GoodIn wsX9_go wsX9_mendSwitches := goodIn_r _ [121, 122, 123, 124, 125, 110, 33, 34, 35, 36, 37, 111, 39, 40, 41, 42, 43, 44, 45, 46, 47, 48, 49, 50, 51, 52, 53, 54, 126, 127, 128, 129, 130, 131, 132, 133, 134, 135, 136, 137, 138, 139, 161, 162, 163, 164, 165, 166, 167, 168, 172, 173, 174, 175, 176, 177, 178, 145, 146, 147, 148, 149, 150, 151, 152, 153, 169, 170, 171, 154, 155] (by decide +kernel) (by decide +kernel)
set_option maxRecDepth 20000 in
theorem gX9_go_X9_mendSwitches : GoodIn wsX9_go (wsV RX9 267 RX9 yX9_mendSwitches wsX9_mendSwitches) := goodIn_app (goodIn_of _ (by decide +kernel)) ggX9_go_X9_mendSwitches
set_option maxRecDepth 20000 in
theorem ggX9_go_X9_mendCoils : GoodIn wsX9_go wsX9_mendCoils := goodIn_r _ [142, 122, 123, 143, 110, 33, 34, 35, 36, 37, 111, 39, 40, 41, 42, 43, 44, 45, 46, 47, 48, 49, 50, 51, 52, 53, 54, 144, 72, 73, 74, 75, 76, 126, 127, 128, 129, 130, 131, 132, 133, 134, 135, 136, 137, 138, 139, 161, 162, 163, 164, 165, 166, 167, 168, 172, 173, 174, 175, 176, 177, 178, 169, 170, 171, 154, 155] (by decide +kernel) (by decide +kernel)
set_option maxRecDepth 20000 in
theorem gX9_go_X9_mendCoils : GoodIn wsX9_go (va_wsS RX9 271 yX9_mendCoils wsX9_mendCoils) := goodIn_app (goodIn_of _ (by decide +kernel)) ggX9_go_X9_mendCoils
theorem dX9_go_0 : decode cX9_go 0 = .ok (.aload_n 0, 1) := by decide +kernel
theorem dX9_go_1 : decode cX9_go 1 = .ok (.iload_n 1, 1) := by decide +kernel
theorem dX9_go_2 : decode cX9_go 2 = .ok (.invokevirtual 225, 3) := by decide +kernel
theorem dX9_go_5 : decode cX9_go 5 = .ok (.astore_n 2, 1) := by decide +kernel
theorem dX9_go_6 : decode cX9_go 6 = .ok (.aload_n 0, 1) := by decide +kernel
theorem dX9_go_7 : decode cX9_go 7 = .ok (.getfield 43, 3) := by decide +kernel
theorem dX9_go_10 : decode cX9_go 10 = .ok (.aload_n 0, 1) := by decide +kernel
theorem dX9_go_11 : decode cX9_go 11 = .ok (.getfield 12, 3) := by decide +kernel
theorem dX9_go_14 : decode cX9_go 14 = .ok (.aload_n 2, 1) := by decide +kernel
theorem dX9_go_15 : decode cX9_go 15 = .ok (.getfield 246, 3) := by decide +kernel
theorem dX9_go_18 : decode cX9_go 18 = .ok (.invokevirtual 249, 3) := by decide +kernel
theorem dX9_go_21 : decode cX9_go 21 = .ok (.aload_n 0, 1) := by decide +kernel
theorem dX9_go_22 : decode cX9_go 22 = .ok (.getfield 43, 3) := by decide +kernel
theorem dX9_go_25 : decode cX9_go 25 = .ok (.getfield 256, 3) := by decide +kernel
theorem dX9_go_28 : decode cX9_go 28 = .ok (.ifCond .ne 14, 3) := by decide +kernel
theorem dX9_go_31 : decode cX9_go 31 = .ok (.new 63, 3) := by decide +kernel
theorem dX9_go_34 : decode cX9_go 34 = .ok (.dup, 1) := by decide +kernel
theorem dX9_go_35 : decode cX9_go 35 = .ok (.ldc_w 262, 3) := by decide +kernel
theorem dX9_go_38 : decode cX9_go 38 = .ok (.invokespecial 67, 3) := by decide +kernel
theorem dX9_go_41 : decode cX9_go 41 = .ok (.athrow, 1) := by decide +kernel
theorem dX9_go_42 : decode cX9_go 42 = .ok (.iconst 0, 1) := by decide +kernel
theorem dX9_go_43 : decode cX9_go 43 = .ok (.istore_n 3, 1) := by decide +kernel
theorem dX9_go_44 : decode cX9_go 44 = .ok (.iconst 0, 1) := by decide +kernel
theorem dX9_go_45 : decode cX9_go 45 = .ok (.istore 4, 2) := by decide +kernel
theorem dX9_go_47 : decode cX9_go 47 = .ok (.iload 4, 2) := by decide +kernel
theorem dX9_go_49 : decode cX9_go 49 = .ok (.aload_n 0, 1) := by decide +kernel
theorem dX9_go_50 : decode cX9_go 50 = .ok (.getfield 43, 3) := by decide +kernel
theorem dX9_go_53 : decode cX9_go 53 = .ok (.getfield 256, 3) := by decide +kernel
theorem dX9_go_56 : decode cX9_go 56 = .ok (.if_icmp .ge 54, 3) := by decide +kernel
theorem dX9_go_59 : decode cX9_go 59 = .ok (.aload_n 0, 1) := by decide +kernel
theorem dX9_go_60 : decode cX9_go 60 = .ok (.aload_n 0, 1) := by decide +kernel
theorem dX9_go_61 : decode cX9_go 61 = .ok (.getfield 43, 3) := by decide +kernel
theorem dX9_go_64 : decode cX9_go 64 = .ok (.iload 4, 2) := by decide +kernel
theorem dX9_go_66 : decode cX9_go 66 = .ok (.invokevirtual 259, 3) := by decide +kernel
theorem dX9_go_69 : decode cX9_go 69 = .ok (.invokevirtual 79, 3) := by decide +kernel
theorem dX9_go_72 : decode cX9_go 72 = .ok (.astore 5, 2) := by decide +kernel
theorem dX9_go_74 : decode cX9_go 74 = .ok (.iload_n 3, 1) := by decide +kernel
theorem dX9_go_75 : decode cX9_go 75 = .ok (.aload 5, 2) := by decide +kernel
theorem dX9_go_77 : decode cX9_go 77 = .ok (.invokevirtual 264, 3) := by decide +kernel
theorem dX9_go_80 : decode cX9_go 80 = .ok (.iadd, 1) := by decide +kernel
theorem dX9_go_81 : decode cX9_go 81 = .ok (.istore_n 3, 1) := by decide +kernel
theorem dX9_go_82 : decode cX9_go 82 = .ok (.aload_n 0, 1) := by decide +kernel
theorem dX9_go_83 : decode cX9_go 83 = .ok (.aload 5, 2) := by decide +kernel
theorem dX9_go_85 : decode cX9_go 85 = .ok (.aload_n 2, 1) := by decide +kernel
theorem dX9_go_86 : decode cX9_go 86 = .ok (.invokevirtual 267, 3) := by decide +kernel
theorem dX9_go_89 : decode cX9_go 89 = .ok (.aload 5, 2) := by decide +kernel
theorem dX9_go_91 : decode cX9_go 91 = .ok (.aload_n 2, 1) := by decide +kernel
theorem dX9_go_92 : decode cX9_go 92 = .ok (.invokestatic 271, 3) := by decide +kernel
theorem dX9_go_95 : decode cX9_go 95 = .ok (.aload_n 2, 1) := by decide +kernel
theorem dX9_go_96 : decode cX9_go 96 = .ok (.aload 5, 2) := by decide +kernel
theorem dX9_go_98 : decode cX9_go 98 = .ok (.getfield 274, 3) := by decide +kernel
theorem dX9_go_101 : decode cX9_go 101 = .ok (.putfield 246, 3) := by decide +kernel
theorem dX9_go_104 : decode cX9_go 104 = .ok (.iinc 4 1, 3) := by decide +kernel
theorem dX9_go_107 : decode cX9_go 107 = .ok (.goto (-60), 3) := by decide +kernel
theorem dX9_go_110 : decode cX9_go 110 = .ok (.iload_n 3, 1) := by decide +kernel
theorem dX9_go_111 : decode cX9_go 111 = .ok (.ireturn, 1) := by decide +kernel
set_option maxRecDepth 20000 in
theorem ggX9_vanAt_X9_demandVan : GoodIn wsX9_vanAt wsX9_demandVan := goodIn_ca (goodIn_r _ [6, 7, 8, 9, 10, 13, 14, 15, 16, 17, 18, 19, 20, 21] (by decide +kernel) (by decide +kernel)) (goodIn_sub (fun _ h => List.mem_cons_of_mem _ (List.mem_append_right _ h)) (by decide +kernel))
set_option maxRecDepth 20000 in
theorem gX9_vanAt_X9_demandVan : GoodIn wsX9_vanAt (wsV RX9 225 RX9 yX9_demandVan wsX9_demandVan) := goodIn_app (goodIn_of _ (by decide +kernel)) ggX9_vanAt_X9_demandVan
theorem dX9_vanAt_0 : decode cX9_vanAt 0 = .ok (.aload_n 0, 1) := by decide +kernel
theorem dX9_vanAt_1 : decode cX9_vanAt 1 = .ok (.iload_n 1, 1) := by decide +kernel
theorem dX9_vanAt_2 : decode cX9_vanAt 2 = .ok (.invokevirtual 225, 3) := by decide +kernel
theorem dX9_vanAt_5 : decode cX9_vanAt 5 = .ok (.getfield 246, 3) := by decide +kernel
theorem dX9_vanAt_8 : decode cX9_vanAt 8 = .ok (.ireturn, 1) := by decide +kernel
set_option maxRecDepth 20000 in
theorem ggX9_demandTable_Jx4a65c_size_8abf5 : GoodIn wsX9_demandTable wsJx4a65c_size_8abf5 := goodIn_r _ [9, 10, 37, 38, 39] (by decide +kernel) (by decide +kernel)
set_option maxRecDepth 20000 in
theorem gX9_demandTable_Jx4a65c_size_8abf5 : GoodIn wsX9_demandTable (wsV RX9 59 RJx4a65c yJx4a65c_size_8abf5 wsJx4a65c_size_8abf5) := goodIn_app (goodIn_of _ (by decide +kernel)) ggX9_demandTable_Jx4a65c_size_8abf5
set_option maxRecDepth 20000 in
theorem ggX9_demandTable_Jx4a65c_get_915e3 : GoodIn wsX9_demandTable wsJx4a65c_get_915e3 := goodIn_r _ [14, 10, 15, 16, 17, 18, 19, 20, 21, 22, 23, 24, 25, 8, 26, 27, 37, 38, 39] (by decide +kernel) (by decide +kernel)
set_option maxRecDepth 20000 in
theorem gX9_demandTable_Jx4a65c_get_915e3 : GoodIn wsX9_demandTable (wsV RX9 166 RJx4a65c yJx4a65c_get_915e3 wsJx4a65c_get_915e3) := goodIn_app (goodIn_of _ (by decide +kernel)) ggX9_demandTable_Jx4a65c_get_915e3
theorem dX9_demandTable_0 : decode cX9_demandTable 0 = .ok (.iload_n 1, 1) := by decide +kernel
theorem dX9_demandTable_1 : decode cX9_demandTable 1 = .ok (.ifCond .lt 14, 3) := by decide +kernel
theorem dX9_demandTable_4 : decode cX9_demandTable 4 = .ok (.iload_n 1, 1) := by decide +kernel
theorem dX9_demandTable_5 : decode cX9_demandTable 5 = .ok (.aload_n 0, 1) := by decide +kernel
theorem dX9_demandTable_6 : decode cX9_demandTable 6 = .ok (.getfield 12, 3) := by decide +kernel
theorem dX9_demandTable_9 : decode cX9_demandTable 9 = .ok (.invokevirtual 59, 3) := by decide +kernel
theorem dX9_demandTable_12 : decode cX9_demandTable 12 = .ok (.if_icmp .lt 14, 3) := by decide +kernel
theorem dX9_demandTable_15 : decode cX9_demandTable 15 = .ok (.new 275, 3) := by decide +kernel
theorem dX9_demandTable_18 : decode cX9_demandTable 18 = .ok (.dup, 1) := by decide +kernel
theorem dX9_demandTable_19 : decode cX9_demandTable 19 = .ok (.ldc_w 277, 3) := by decide +kernel
theorem dX9_demandTable_22 : decode cX9_demandTable 22 = .ok (.invokespecial 279, 3) := by decide +kernel
theorem dX9_demandTable_25 : decode cX9_demandTable 25 = .ok (.athrow, 1) := by decide +kernel
theorem dX9_demandTable_26 : decode cX9_demandTable 26 = .ok (.aload_n 0, 1) := by decide +kernel
theorem dX9_demandTable_27 : decode cX9_demandTable 27 = .ok (.getfield 12, 3) := by decide +kernel
theorem dX9_demandTable_30 : decode cX9_demandTable 30 = .ok (.iload_n 1, 1) := by decide +kernel
theorem dX9_demandTable_31 : decode cX9_demandTable 31 = .ok (.invokevirtual 166, 3) := by decide +kernel
theorem dX9_demandTable_34 : decode cX9_demandTable 34 = .ok (.checkcast 70, 3) := by decide +kernel
theorem dX9_demandTable_37 : decode cX9_demandTable 37 = .ok (.areturn, 1) := by decide +kernel
set_option maxRecDepth 20000 in
theorem ggX9_demandBumper_Jx4a65c_size_8abf5 : GoodIn wsX9_demandBumper wsJx4a65c_size_8abf5 := goodIn_r _ [9, 10, 36, 37, 38] (by decide +kernel) (by decide +kernel)
set_option maxRecDepth 20000 in
theorem gX9_demandBumper_Jx4a65c_size_8abf5 : GoodIn wsX9_demandBumper (wsV RX9 59 RJx4a65c yJx4a65c_size_8abf5 wsJx4a65c_size_8abf5) := goodIn_app (goodIn_of _ (by decide +kernel)) ggX9_demandBumper_Jx4a65c_size_8abf5
set_option maxRecDepth 20000 in
theorem ggX9_demandBumper_Jx4a65c_get_915e3 : GoodIn wsX9_demandBumper wsJx4a65c_get_915e3 := goodIn_r _ [14, 10, 15, 16, 17, 18, 19, 20, 21, 22, 23, 24, 25, 8, 26, 27, 36, 37, 38] (by decide +kernel) (by decide +kernel)
set_option maxRecDepth 20000 in
theorem gX9_demandBumper_Jx4a65c_get_915e3 : GoodIn wsX9_demandBumper (wsV RX9 166 RJx4a65c yJx4a65c_get_915e3 wsJx4a65c_get_915e3) := goodIn_app (goodIn_of _ (by decide +kernel)) ggX9_demandBumper_Jx4a65c_get_915e3
theorem dX9_demandBumper_0 : decode cX9_demandBumper 0 = .ok (.iload_n 1, 1) := by decide +kernel
theorem dX9_demandBumper_1 : decode cX9_demandBumper 1 = .ok (.ifCond .lt 14, 3) := by decide +kernel
theorem dX9_demandBumper_4 : decode cX9_demandBumper 4 = .ok (.iload_n 1, 1) := by decide +kernel
theorem dX9_demandBumper_5 : decode cX9_demandBumper 5 = .ok (.aload_n 0, 1) := by decide +kernel
theorem dX9_demandBumper_6 : decode cX9_demandBumper 6 = .ok (.getfield 87, 3) := by decide +kernel
theorem dX9_demandBumper_9 : decode cX9_demandBumper 9 = .ok (.invokevirtual 59, 3) := by decide +kernel
theorem dX9_demandBumper_12 : decode cX9_demandBumper 12 = .ok (.if_icmp .lt 14, 3) := by decide +kernel
theorem dX9_demandBumper_15 : decode cX9_demandBumper 15 = .ok (.new 275, 3) := by decide +kernel
theorem dX9_demandBumper_18 : decode cX9_demandBumper 18 = .ok (.dup, 1) := by decide +kernel
theorem dX9_demandBumper_19 : decode cX9_demandBumper 19 = .ok (.ldc_w 280, 3) := by decide +kernel
theorem dX9_demandBumper_22 : decode cX9_demandBumper 22 = .ok (.invokespecial 279, 3) := by decide +kernel
theorem dX9_demandBumper_25 : decode cX9_demandBumper 25 = .ok (.athrow, 1) := by decide +kernel
theorem dX9_demandBumper_26 : decode cX9_demandBumper 26 = .ok (.aload_n 0, 1) := by decide +kernel
theorem dX9_demandBumper_27 : decode cX9_demandBumper 27 = .ok (.getfield 87, 3) := by decide +kernel
theorem dX9_demandBumper_30 : decode cX9_demandBumper 30 = .ok (.iload_n 1, 1) := by decide +kernel
theorem dX9_demandBumper_31 : decode cX9_demandBumper 31 = .ok (.invokevirtual 166, 3) := by decide +kernel
theorem dX9_demandBumper_34 : decode cX9_demandBumper 34 = .ok (.checkcast 92, 3) := by decide +kernel
theorem dX9_demandBumper_37 : decode cX9_demandBumper 37 = .ok (.areturn, 1) := by decide +kernel
set_option maxRecDepth 20000 in
theorem ggX9_demandGame_Jx4a65c_size_8abf5 : GoodIn wsX9_demandGame wsJx4a65c_size_8abf5 := goodIn_r _ [9, 10, 37, 38, 39] (by decide +kernel) (by decide +kernel)
set_option maxRecDepth 20000 in
theorem gX9_demandGame_Jx4a65c_size_8abf5 : GoodIn wsX9_demandGame (wsV RX9 59 RJx4a65c yJx4a65c_size_8abf5 wsJx4a65c_size_8abf5) := goodIn_app (goodIn_of _ (by decide +kernel)) ggX9_demandGame_Jx4a65c_size_8abf5
set_option maxRecDepth 20000 in
theorem ggX9_demandGame_Jx4a65c_get_915e3 : GoodIn wsX9_demandGame wsJx4a65c_get_915e3 := goodIn_r _ [14, 10, 15, 16, 17, 18, 19, 20, 21, 22, 23, 24, 25, 8, 26, 27, 37, 38, 39] (by decide +kernel) (by decide +kernel)
set_option maxRecDepth 20000 in
theorem gX9_demandGame_Jx4a65c_get_915e3 : GoodIn wsX9_demandGame (wsV RX9 166 RJx4a65c yJx4a65c_get_915e3 wsJx4a65c_get_915e3) := goodIn_app (goodIn_of _ (by decide +kernel)) ggX9_demandGame_Jx4a65c_get_915e3
theorem dX9_demandGame_0 : decode cX9_demandGame 0 = .ok (.iload_n 1, 1) := by decide +kernel
theorem dX9_demandGame_1 : decode cX9_demandGame 1 = .ok (.ifCond .lt 14, 3) := by decide +kernel
theorem dX9_demandGame_4 : decode cX9_demandGame 4 = .ok (.iload_n 1, 1) := by decide +kernel
theorem dX9_demandGame_5 : decode cX9_demandGame 5 = .ok (.aload_n 0, 1) := by decide +kernel
theorem dX9_demandGame_6 : decode cX9_demandGame 6 = .ok (.getfield 16, 3) := by decide +kernel
theorem dX9_demandGame_9 : decode cX9_demandGame 9 = .ok (.invokevirtual 59, 3) := by decide +kernel
theorem dX9_demandGame_12 : decode cX9_demandGame 12 = .ok (.if_icmp .lt 14, 3) := by decide +kernel
theorem dX9_demandGame_15 : decode cX9_demandGame 15 = .ok (.new 275, 3) := by decide +kernel
theorem dX9_demandGame_18 : decode cX9_demandGame 18 = .ok (.dup, 1) := by decide +kernel
theorem dX9_demandGame_19 : decode cX9_demandGame 19 = .ok (.ldc_w 282, 3) := by decide +kernel
theorem dX9_demandGame_22 : decode cX9_demandGame 22 = .ok (.invokespecial 279, 3) := by decide +kernel
theorem dX9_demandGame_25 : decode cX9_demandGame 25 = .ok (.athrow, 1) := by decide +kernel
theorem dX9_demandGame_26 : decode cX9_demandGame 26 = .ok (.aload_n 0, 1) := by decide +kernel
theorem dX9_demandGame_27 : decode cX9_demandGame 27 = .ok (.getfield 16, 3) := by decide +kernel
theorem dX9_demandGame_30 : decode cX9_demandGame 30 = .ok (.iload_n 1, 1) := by decide +kernel
theorem dX9_demandGame_31 : decode cX9_demandGame 31 = .ok (.invokevirtual 166, 3) := by decide +kernel
theorem dX9_demandGame_34 : decode cX9_demandGame 34 = .ok (.checkcast 143, 3) := by decide +kernel
theorem dX9_demandGame_37 : decode cX9_demandGame 37 = .ok (.areturn, 1) := by decide +kernel
theorem dX9_demandVan_0 : decode cX9_demandVan 0 = .ok (.iload_n 1, 1) := by decide +kernel
theorem dX9_demandVan_1 : decode cX9_demandVan 1 = .ok (.ifCond .eq 19, 3) := by decide +kernel
theorem dX9_demandVan_4 : decode cX9_demandVan 4 = .ok (.iload_n 1, 1) := by decide +kernel
theorem dX9_demandVan_5 : decode cX9_demandVan 5 = .ok (.iconst 1, 1) := by decide +kernel
theorem dX9_demandVan_6 : decode cX9_demandVan 6 = .ok (.if_icmp .eq 14, 3) := by decide +kernel
theorem dX9_demandVan_9 : decode cX9_demandVan 9 = .ok (.new 275, 3) := by decide +kernel
theorem dX9_demandVan_12 : decode cX9_demandVan 12 = .ok (.dup, 1) := by decide +kernel
theorem dX9_demandVan_13 : decode cX9_demandVan 13 = .ok (.ldc_w 284, 3) := by decide +kernel
theorem dX9_demandVan_16 : decode cX9_demandVan 16 = .ok (.invokespecial 279, 3) := by decide +kernel
theorem dX9_demandVan_19 : decode cX9_demandVan 19 = .ok (.athrow, 1) := by decide +kernel
theorem dX9_demandVan_20 : decode cX9_demandVan 20 = .ok (.iload_n 1, 1) := by decide +kernel
theorem dX9_demandVan_21 : decode cX9_demandVan 21 = .ok (.ifCond .ne 10, 3) := by decide +kernel
theorem dX9_demandVan_24 : decode cX9_demandVan 24 = .ok (.aload_n 0, 1) := by decide +kernel
theorem dX9_demandVan_25 : decode cX9_demandVan 25 = .ok (.getfield 22, 3) := by decide +kernel
theorem dX9_demandVan_28 : decode cX9_demandVan 28 = .ok (.goto 7, 3) := by decide +kernel
theorem dX9_demandVan_31 : decode cX9_demandVan 31 = .ok (.aload_n 0, 1) := by decide +kernel
theorem dX9_demandVan_32 : decode cX9_demandVan 32 = .ok (.getfield 26, 3) := by decide +kernel
theorem dX9_demandVan_35 : decode cX9_demandVan 35 = .ok (.areturn, 1) := by decide +kernel
theorem dX9_demandIndex_0 : decode cX9_demandIndex 0 = .ok (.iload_n 0, 1) := by decide +kernel
theorem dX9_demandIndex_1 : decode cX9_demandIndex 1 = .ok (.ifCond .lt 8, 3) := by decide +kernel
theorem dX9_demandIndex_4 : decode cX9_demandIndex 4 = .ok (.iload_n 0, 1) := by decide +kernel
theorem dX9_demandIndex_5 : decode cX9_demandIndex 5 = .ok (.iload_n 1, 1) := by decide +kernel
theorem dX9_demandIndex_6 : decode cX9_demandIndex 6 = .ok (.if_icmp .lt 14, 3) := by decide +kernel
theorem dX9_demandIndex_9 : decode cX9_demandIndex 9 = .ok (.new 275, 3) := by decide +kernel
theorem dX9_demandIndex_12 : decode cX9_demandIndex 12 = .ok (.dup, 1) := by decide +kernel
theorem dX9_demandIndex_13 : decode cX9_demandIndex 13 = .ok (.ldc_w 286, 3) := by decide +kernel
theorem dX9_demandIndex_16 : decode cX9_demandIndex 16 = .ok (.invokespecial 279, 3) := by decide +kernel
theorem dX9_demandIndex_19 : decode cX9_demandIndex 19 = .ok (.athrow, 1) := by decide +kernel
theorem dX9_demandIndex_20 : decode cX9_demandIndex 20 = .ok (.return_, 1) := by decide +kernel
theorem dX9_demandRange_0 : decode cX9_demandRange 0 = .ok (.iload_n 0, 1) := by decide +kernel
theorem dX9_demandRange_1 : decode cX9_demandRange 1 = .ok (.iload_n 1, 1) := by decide +kernel
theorem dX9_demandRange_2 : decode cX9_demandRange 2 = .ok (.if_icmp .lt 8, 3) := by decide +kernel
theorem dX9_demandRange_5 : decode cX9_demandRange 5 = .ok (.iload_n 0, 1) := by decide +kernel
theorem dX9_demandRange_6 : decode cX9_demandRange 6 = .ok (.iload_n 2, 1) := by decide +kernel
theorem dX9_demandRange_7 : decode cX9_demandRange 7 = .ok (.if_icmp .le 14, 3) := by decide +kernel
theorem dX9_demandRange_10 : decode cX9_demandRange 10 = .ok (.new 288, 3) := by decide +kernel
theorem dX9_demandRange_13 : decode cX9_demandRange 13 = .ok (.dup, 1) := by decide +kernel
theorem dX9_demandRange_14 : decode cX9_demandRange 14 = .ok (.ldc_w 290, 3) := by decide +kernel
theorem dX9_demandRange_17 : decode cX9_demandRange 17 = .ok (.invokespecial 292, 3) := by decide +kernel
theorem dX9_demandRange_20 : decode cX9_demandRange 20 = .ok (.athrow, 1) := by decide +kernel
theorem dX9_demandRange_21 : decode cX9_demandRange 21 = .ok (.return_, 1) := by decide +kernel
theorem dX9_demandLeast_0 : decode cX9_demandLeast 0 = .ok (.iload_n 0, 1) := by decide +kernel
theorem dX9_demandLeast_1 : decode cX9_demandLeast 1 = .ok (.iload_n 1, 1) := by decide +kernel
theorem dX9_demandLeast_2 : decode cX9_demandLeast 2 = .ok (.if_icmp .ge 14, 3) := by decide +kernel
theorem dX9_demandLeast_5 : decode cX9_demandLeast 5 = .ok (.new 288, 3) := by decide +kernel
theorem dX9_demandLeast_8 : decode cX9_demandLeast 8 = .ok (.dup, 1) := by decide +kernel
theorem dX9_demandLeast_9 : decode cX9_demandLeast 9 = .ok (.ldc_w 293, 3) := by decide +kernel
theorem dX9_demandLeast_12 : decode cX9_demandLeast 12 = .ok (.invokespecial 292, 3) := by decide +kernel
theorem dX9_demandLeast_15 : decode cX9_demandLeast 15 = .ok (.athrow, 1) := by decide +kernel
theorem dX9_demandLeast_16 : decode cX9_demandLeast 16 = .ok (.return_, 1) := by decide +kernel
theorem dX9_demandNoGame_0 : decode cX9_demandNoGame 0 = .ok (.aload_n 0, 1) := by decide +kernel
theorem dX9_demandNoGame_1 : decode cX9_demandNoGame 1 = .ok (.getfield 152, 3) := by decide +kernel
theorem dX9_demandNoGame_4 : decode cX9_demandNoGame 4 = .ok (.iconst (-1), 1) := by decide +kernel
theorem dX9_demandNoGame_5 : decode cX9_demandNoGame 5 = .ok (.if_icmp .eq 14, 3) := by decide +kernel
theorem dX9_demandNoGame_8 : decode cX9_demandNoGame 8 = .ok (.new 63, 3) := by decide +kernel
theorem dX9_demandNoGame_11 : decode cX9_demandNoGame 11 = .ok (.dup, 1) := by decide +kernel
theorem dX9_demandNoGame_12 : decode cX9_demandNoGame 12 = .ok (.ldc_w 295, 3) := by decide +kernel
theorem dX9_demandNoGame_15 : decode cX9_demandNoGame 15 = .ok (.invokespecial 67, 3) := by decide +kernel
theorem dX9_demandNoGame_18 : decode cX9_demandNoGame 18 = .ok (.athrow, 1) := by decide +kernel
theorem dX9_demandNoGame_19 : decode cX9_demandNoGame 19 = .ok (.return_, 1) := by decide +kernel
set_option maxRecDepth 20000 in
theorem ggX9_runBall_X0_isOut : GoodIn wsX9_runBall wsX0_isOut := goodIn_r _ [5, 6, 140, 141, 142, 143] (by decide +kernel) (by decide +kernel)
set_option maxRecDepth 20000 in
theorem gX9_runBall_X0_isOut : GoodIn wsX9_runBall (wsV RX9 297 RX0 yX0_isOut wsX0_isOut) := goodIn_app (goodIn_of _ (by decide +kernel)) ggX9_runBall_X0_isOut
set_option maxRecDepth 20000 in
theorem ggX9_runBall_X0_fall : GoodIn wsX9_runBall wsX0_fall := goodIn_r _ [10, 11, 12, 13, 14, 15, 140, 141, 142, 143] (by decide +kernel) (by decide +kernel)
set_option maxRecDepth 20000 in
theorem gX9_runBall_X0_fall : GoodIn wsX9_runBall (wsV RX9 300 RX0 yX0_fall wsX0_fall) := goodIn_app (goodIn_of _ (by decide +kernel)) ggX9_runBall_X0_fall
set_option maxRecDepth 20000 in
theorem ggX9_runBall_X0_moveAcross : GoodIn wsX9_runBall wsX0_moveAcross := goodIn_r _ [19, 20, 21, 6, 22, 23, 24, 25, 26, 27, 28, 29, 30, 31, 32, 33, 34, 35, 36, 37, 38, 39, 40, 41, 42, 43, 44, 45, 46, 47, 48, 49, 50, 51, 52, 53, 54, 55, 56, 57, 58, 59, 60, 61, 62, 63, 64, 65, 66, 67, 68, 69, 70, 14, 71, 72, 73, 13, 15, 74, 75, 76, 77, 78, 140, 141, 142, 143, 144, 145, 146, 147, 148, 149, 150, 151, 152, 153, 154, 155, 156, 157, 158, 159, 160, 161] (by decide +kernel) (by decide +kernel)
set_option maxRecDepth 20000 in
theorem gX9_runBall_X0_moveAcross : GoodIn wsX9_runBall (wsV RX9 303 RX0 yX0_moveAcross wsX0_moveAcross) := goodIn_app (goodIn_of _ (by decide +kernel)) ggX9_runBall_X0_moveAcross
set_option maxRecDepth 20000 in
theorem ggX9_runBall_X0_moveDownwards : GoodIn wsX9_runBall wsX0_moveDownwards := goodIn_r _ [82, 6, 11, 20, 22, 23, 83, 2, 3, 4, 5, 24, 25, 26, 27, 28, 29, 30, 31, 32, 33, 34, 35, 36, 37, 38, 39, 40, 41, 42, 43, 44, 45, 46, 47, 48, 49, 50, 51, 52, 53, 54, 55, 56, 57, 58, 59, 60, 61, 62, 63, 64, 65, 66, 67, 68, 69, 70, 14, 71, 72, 73, 13, 15, 74, 75, 76, 77, 78, 140, 141, 142, 143, 144, 145, 146, 147, 148, 149, 150, 151, 152, 153, 154, 155, 156, 157, 158, 159, 160, 161] (by decide +kernel) (by decide +kernel)
set_option maxRecDepth 20000 in
theorem gX9_runBall_X0_moveDownwards : GoodIn wsX9_runBall (wsV RX9 307 RX0 yX0_moveDownwards wsX0_moveDownwards) := goodIn_app (goodIn_of _ (by decide +kernel)) ggX9_runBall_X0_moveDownwards
set_option maxRecDepth 20000 in
theorem ggX9_runBall_X9_hitBumper : GoodIn wsX9_runBall wsX9_hitBumper := goodIn_r _ [87, 88, 89, 90, 91, 92, 32, 33, 34, 35, 36, 93, 38, 39, 40, 41, 42, 43, 44, 45, 46, 47, 48, 49, 50, 51, 52, 53, 94, 95, 96, 97, 98, 99, 100, 101, 102, 103, 104, 105, 106, 107, 108, 109, 110, 111, 112, 113, 114, 115, 116, 117, 118, 119, 120, 121, 122, 123, 124, 125, 126, 127, 128, 129, 130, 131, 132, 133, 134, 135, 136, 144, 145, 146, 147, 148, 149, 150, 151, 155, 156, 157, 158, 159, 160, 161, 152, 153, 154, 162, 163, 164, 165, 166, 167, 168, 169, 170, 171, 172, 173, 174, 175, 176, 177, 178] (by decide +kernel) (by decide +kernel)
set_option maxRecDepth 20000 in
theorem gX9_runBall_X9_hitBumper : GoodIn wsX9_runBall (va_wsS RX9 310 yX9_hitBumper wsX9_hitBumper) := goodIn_app (goodIn_of _ (by decide +kernel)) ggX9_runBall_X9_hitBumper
set_option maxRecDepth 20000 in
theorem ggX9_runBall_X9_closeSticking : GoodIn wsX9_runBall wsX9_closeSticking := goodIn_r _ [139, 88, 89, 91, 92, 32, 33, 34, 35, 36, 93, 38, 39, 40, 41, 42, 43, 44, 45, 46, 47, 48, 49, 50, 51, 52, 53, 94, 95, 96, 97, 98, 99, 100, 101, 102, 103, 104, 105, 106, 107, 108, 109, 110, 111, 112, 113, 114, 115, 116, 117, 118, 119, 120, 121, 122, 123, 124, 125, 126, 127, 128, 129, 130, 131, 132, 133, 134, 135, 136, 144, 145, 146, 147, 148, 149, 150, 151, 155, 156, 157, 158, 159, 160, 161, 152, 153, 154, 162, 163, 164, 165, 166, 167, 168, 169, 170, 171, 172, 173, 174, 175, 176, 177, 178] (by decide +kernel) (by decide +kernel)
set_option maxRecDepth 20000 in
theorem gX9_runBall_X9_closeSticking : GoodIn wsX9_runBall (va_wsS RX9 314 yX9_closeSticking wsX9_closeSticking) := goodIn_app (goodIn_of _ (by decide +kernel)) ggX9_runBall_X9_closeSticking
theorem dX9_runBall_0 : decode cX9_runBall 0 = .ok (.iconst 1, 1) := by decide +kernel
theorem dX9_runBall_1 : decode cX9_runBall 1 = .ok (.istore_n 3, 1) := by decide +kernel
theorem dX9_runBall_2 : decode cX9_runBall 2 = .ok (.iload_n 3, 1) := by decide +kernel
theorem dX9_runBall_3 : decode cX9_runBall 3 = .ok (.sipush 300, 3) := by decide +kernel
theorem dX9_runBall_6 : decode cX9_runBall 6 = .ok (.if_icmp .gt 63, 3) := by decide +kernel
theorem dX9_runBall_9 : decode cX9_runBall 9 = .ok (.aload_n 2, 1) := by decide +kernel
theorem dX9_runBall_10 : decode cX9_runBall 10 = .ok (.invokevirtual 297, 3) := by decide +kernel
theorem dX9_runBall_13 : decode cX9_runBall 13 = .ok (.ifCond .ne 56, 3) := by decide +kernel
theorem dX9_runBall_16 : decode cX9_runBall 16 = .ok (.aload_n 2, 1) := by decide +kernel
theorem dX9_runBall_17 : decode cX9_runBall 17 = .ok (.invokevirtual 300, 3) := by decide +kernel
theorem dX9_runBall_20 : decode cX9_runBall 20 = .ok (.aload_n 2, 1) := by decide +kernel
theorem dX9_runBall_21 : decode cX9_runBall 21 = .ok (.aload_n 0, 1) := by decide +kernel
theorem dX9_runBall_22 : decode cX9_runBall 22 = .ok (.invokevirtual 303, 3) := by decide +kernel
theorem dX9_runBall_25 : decode cX9_runBall 25 = .ok (.istore 4, 2) := by decide +kernel
theorem dX9_runBall_27 : decode cX9_runBall 27 = .ok (.aload_n 2, 1) := by decide +kernel
theorem dX9_runBall_28 : decode cX9_runBall 28 = .ok (.aload_n 0, 1) := by decide +kernel
theorem dX9_runBall_29 : decode cX9_runBall 29 = .ok (.invokevirtual 307, 3) := by decide +kernel
theorem dX9_runBall_32 : decode cX9_runBall 32 = .ok (.istore 5, 2) := by decide +kernel
theorem dX9_runBall_34 : decode cX9_runBall 34 = .ok (.aload_n 0, 1) := by decide +kernel
theorem dX9_runBall_35 : decode cX9_runBall 35 = .ok (.aload_n 1, 1) := by decide +kernel
theorem dX9_runBall_36 : decode cX9_runBall 36 = .ok (.iload 4, 2) := by decide +kernel
theorem dX9_runBall_38 : decode cX9_runBall 38 = .ok (.iload_n 3, 1) := by decide +kernel
theorem dX9_runBall_39 : decode cX9_runBall 39 = .ok (.invokestatic 310, 3) := by decide +kernel
theorem dX9_runBall_42 : decode cX9_runBall 42 = .ok (.aload_n 0, 1) := by decide +kernel
theorem dX9_runBall_43 : decode cX9_runBall 43 = .ok (.aload_n 1, 1) := by decide +kernel
theorem dX9_runBall_44 : decode cX9_runBall 44 = .ok (.iload 5, 2) := by decide +kernel
theorem dX9_runBall_46 : decode cX9_runBall 46 = .ok (.iload_n 3, 1) := by decide +kernel
theorem dX9_runBall_47 : decode cX9_runBall 47 = .ok (.invokestatic 310, 3) := by decide +kernel
theorem dX9_runBall_50 : decode cX9_runBall 50 = .ok (.iload_n 3, 1) := by decide +kernel
theorem dX9_runBall_51 : decode cX9_runBall 51 = .ok (.bipush 10, 2) := by decide +kernel
theorem dX9_runBall_53 : decode cX9_runBall 53 = .ok (.irem, 1) := by decide +kernel
theorem dX9_runBall_54 : decode cX9_runBall 54 = .ok (.ifCond .ne 9, 3) := by decide +kernel
theorem dX9_runBall_57 : decode cX9_runBall 57 = .ok (.aload_n 0, 1) := by decide +kernel
theorem dX9_runBall_58 : decode cX9_runBall 58 = .ok (.aload_n 1, 1) := by decide +kernel
theorem dX9_runBall_59 : decode cX9_runBall 59 = .ok (.iload_n 3, 1) := by decide +kernel
theorem dX9_runBall_60 : decode cX9_runBall 60 = .ok (.invokestatic 314, 3) := by decide +kernel
theorem dX9_runBall_63 : decode cX9_runBall 63 = .ok (.iinc 3 1, 3) := by decide +kernel
theorem dX9_runBall_66 : decode cX9_runBall 66 = .ok (.goto (-64), 3) := by decide +kernel
theorem dX9_runBall_69 : decode cX9_runBall 69 = .ok (.return_, 1) := by decide +kernel
set_option maxRecDepth 20000 in
theorem ggX9_hitBumper_Jx4a65c_size_8abf5 : GoodIn wsX9_hitBumper wsJx4a65c_size_8abf5 := goodIn_r _ [9, 10, 86, 87, 88] (by decide +kernel) (by decide +kernel)
set_option maxRecDepth 20000 in
theorem gX9_hitBumper_Jx4a65c_size_8abf5 : GoodIn wsX9_hitBumper (wsV RX9 59 RJx4a65c yJx4a65c_size_8abf5 wsJx4a65c_size_8abf5) := goodIn_app (goodIn_of _ (by decide +kernel)) ggX9_hitBumper_Jx4a65c_size_8abf5
set_option maxRecDepth 20000 in
theorem ggX9_hitBumper_Jx4a65c_get_915e3 : GoodIn wsX9_hitBumper wsJx4a65c_get_915e3 := goodIn_r _ [14, 10, 15, 16, 17, 18, 19, 20, 21, 22, 23, 24, 25, 8, 26, 27, 86, 87, 88] (by decide +kernel) (by decide +kernel)
set_option maxRecDepth 20000 in
theorem gX9_hitBumper_Jx4a65c_get_915e3 : GoodIn wsX9_hitBumper (wsV RX9 166 RJx4a65c yJx4a65c_get_915e3 wsJx4a65c_get_915e3) := goodIn_app (goodIn_of _ (by decide +kernel)) ggX9_hitBumper_Jx4a65c_get_915e3
set_option maxRecDepth 20000 in
theorem ggX9_hitBumper_X2_closeSwitch : GoodIn wsX9_hitBumper wsX2_closeSwitch := goodIn_r _ [32, 33, 34, 35, 36, 37, 38, 39, 40, 41, 42, 43, 44, 45, 46, 47, 48, 49, 50, 51, 52, 53, 54, 55, 56, 57, 58, 59, 60, 61, 62, 63, 64, 65, 66, 67, 68, 69, 70, 89, 90, 91, 92, 93, 94, 95, 96, 97, 98, 99, 100, 101, 102, 103, 104, 105] (by decide +kernel) (by decide +kernel)
set_option maxRecDepth 20000 in
theorem gX9_hitBumper_X2_closeSwitch : GoodIn wsX9_hitBumper (wsV RX9 318 RX2 yX2_closeSwitch wsX2_closeSwitch) := goodIn_app (goodIn_of _ (by decide +kernel)) ggX9_hitBumper_X2_closeSwitch
theorem dX9_hitBumper_0 : decode cX9_hitBumper 0 = .ok (.iload_n 2, 1) := by decide +kernel
theorem dX9_hitBumper_1 : decode cX9_hitBumper 1 = .ok (.ifCond .lt 14, 3) := by decide +kernel
theorem dX9_hitBumper_4 : decode cX9_hitBumper 4 = .ok (.iload_n 2, 1) := by decide +kernel
theorem dX9_hitBumper_5 : decode cX9_hitBumper 5 = .ok (.aload_n 0, 1) := by decide +kernel
theorem dX9_hitBumper_6 : decode cX9_hitBumper 6 = .ok (.getfield 87, 3) := by decide +kernel
theorem dX9_hitBumper_9 : decode cX9_hitBumper 9 = .ok (.invokevirtual 59, 3) := by decide +kernel
theorem dX9_hitBumper_12 : decode cX9_hitBumper 12 = .ok (.if_icmp .lt 4, 3) := by decide +kernel
theorem dX9_hitBumper_15 : decode cX9_hitBumper 15 = .ok (.return_, 1) := by decide +kernel
theorem dX9_hitBumper_16 : decode cX9_hitBumper 16 = .ok (.aload_n 0, 1) := by decide +kernel
theorem dX9_hitBumper_17 : decode cX9_hitBumper 17 = .ok (.getfield 87, 3) := by decide +kernel
theorem dX9_hitBumper_20 : decode cX9_hitBumper 20 = .ok (.iload_n 2, 1) := by decide +kernel
theorem dX9_hitBumper_21 : decode cX9_hitBumper 21 = .ok (.invokevirtual 166, 3) := by decide +kernel
theorem dX9_hitBumper_24 : decode cX9_hitBumper 24 = .ok (.checkcast 92, 3) := by decide +kernel
theorem dX9_hitBumper_27 : decode cX9_hitBumper 27 = .ok (.astore 4, 2) := by decide +kernel
theorem dX9_hitBumper_29 : decode cX9_hitBumper 29 = .ok (.aload 4, 2) := by decide +kernel
theorem dX9_hitBumper_31 : decode cX9_hitBumper 31 = .ok (.dup, 1) := by decide +kernel
theorem dX9_hitBumper_32 : decode cX9_hitBumper 32 = .ok (.getfield 138, 3) := by decide +kernel
theorem dX9_hitBumper_35 : decode cX9_hitBumper 35 = .ok (.iconst 1, 1) := by decide +kernel
theorem dX9_hitBumper_36 : decode cX9_hitBumper 36 = .ok (.iadd, 1) := by decide +kernel
theorem dX9_hitBumper_37 : decode cX9_hitBumper 37 = .ok (.putfield 138, 3) := by decide +kernel
theorem dX9_hitBumper_40 : decode cX9_hitBumper 40 = .ok (.aload 4, 2) := by decide +kernel
theorem dX9_hitBumper_42 : decode cX9_hitBumper 42 = .ok (.getfield 131, 3) := by decide +kernel
theorem dX9_hitBumper_45 : decode cX9_hitBumper 45 = .ok (.iconst (-1), 1) := by decide +kernel
theorem dX9_hitBumper_46 : decode cX9_hitBumper 46 = .ok (.if_icmp .ne 10, 3) := by decide +kernel
theorem dX9_hitBumper_49 : decode cX9_hitBumper 49 = .ok (.aload_n 1, 1) := by decide +kernel
theorem dX9_hitBumper_50 : decode cX9_hitBumper 50 = .ok (.iload_n 2, 1) := by decide +kernel
theorem dX9_hitBumper_51 : decode cX9_hitBumper 51 = .ok (.iload_n 3, 1) := by decide +kernel
theorem dX9_hitBumper_52 : decode cX9_hitBumper 52 = .ok (.iconst (-1), 1) := by decide +kernel
theorem dX9_hitBumper_53 : decode cX9_hitBumper 53 = .ok (.invokevirtual 318, 3) := by decide +kernel
theorem dX9_hitBumper_56 : decode cX9_hitBumper 56 = .ok (.return_, 1) := by decide +kernel
set_option maxRecDepth 20000 in
theorem ggX9_closeSticking_Jx4a65c_size_8abf5 : GoodIn wsX9_closeSticking wsJx4a65c_size_8abf5 := goodIn_r _ [8, 9, 85, 86, 87] (by decide +kernel) (by decide +kernel)
set_option maxRecDepth 20000 in
theorem gX9_closeSticking_Jx4a65c_size_8abf5 : GoodIn wsX9_closeSticking (wsV RX9 59 RJx4a65c yJx4a65c_size_8abf5 wsJx4a65c_size_8abf5) := goodIn_app (goodIn_of _ (by decide +kernel)) ggX9_closeSticking_Jx4a65c_size_8abf5
set_option maxRecDepth 20000 in
theorem ggX9_closeSticking_Jx4a65c_get_915e3 : GoodIn wsX9_closeSticking wsJx4a65c_get_915e3 := goodIn_r _ [13, 9, 14, 15, 16, 17, 18, 19, 20, 21, 22, 23, 24, 7, 25, 26, 85, 86, 87] (by decide +kernel) (by decide +kernel)
set_option maxRecDepth 20000 in
theorem gX9_closeSticking_Jx4a65c_get_915e3 : GoodIn wsX9_closeSticking (wsV RX9 166 RJx4a65c yJx4a65c_get_915e3 wsJx4a65c_get_915e3) := goodIn_app (goodIn_of _ (by decide +kernel)) ggX9_closeSticking_Jx4a65c_get_915e3
set_option maxRecDepth 20000 in
theorem ggX9_closeSticking_X2_closeSwitch : GoodIn wsX9_closeSticking wsX2_closeSwitch := goodIn_r _ [31, 32, 33, 34, 35, 36, 37, 38, 39, 40, 41, 42, 43, 44, 45, 46, 47, 48, 49, 50, 51, 52, 53, 54, 55, 56, 57, 58, 59, 60, 61, 62, 63, 64, 65, 66, 67, 68, 69, 88, 89, 90, 91, 92, 93, 94, 95, 96, 97, 98, 99, 100, 101, 102, 103, 104] (by decide +kernel) (by decide +kernel)
set_option maxRecDepth 20000 in
theorem gX9_closeSticking_X2_closeSwitch : GoodIn wsX9_closeSticking (wsV RX9 318 RX2 yX2_closeSwitch wsX2_closeSwitch) := goodIn_app (goodIn_of _ (by decide +kernel)) ggX9_closeSticking_X2_closeSwitch
theorem dX9_closeSticking_0 : decode cX9_closeSticking 0 = .ok (.iconst 0, 1) := by decide +kernel
theorem dX9_closeSticking_1 : decode cX9_closeSticking 1 = .ok (.istore_n 3, 1) := by decide +kernel
theorem dX9_closeSticking_2 : decode cX9_closeSticking 2 = .ok (.iload_n 3, 1) := by decide +kernel
theorem dX9_closeSticking_3 : decode cX9_closeSticking 3 = .ok (.aload_n 0, 1) := by decide +kernel
theorem dX9_closeSticking_4 : decode cX9_closeSticking 4 = .ok (.getfield 87, 3) := by decide +kernel
theorem dX9_closeSticking_7 : decode cX9_closeSticking 7 = .ok (.invokevirtual 59, 3) := by decide +kernel
theorem dX9_closeSticking_10 : decode cX9_closeSticking 10 = .ok (.if_icmp .ge 39, 3) := by decide +kernel
theorem dX9_closeSticking_13 : decode cX9_closeSticking 13 = .ok (.aload_n 0, 1) := by decide +kernel
theorem dX9_closeSticking_14 : decode cX9_closeSticking 14 = .ok (.getfield 87, 3) := by decide +kernel
theorem dX9_closeSticking_17 : decode cX9_closeSticking 17 = .ok (.iload_n 3, 1) := by decide +kernel
theorem dX9_closeSticking_18 : decode cX9_closeSticking 18 = .ok (.invokevirtual 166, 3) := by decide +kernel
theorem dX9_closeSticking_21 : decode cX9_closeSticking 21 = .ok (.checkcast 92, 3) := by decide +kernel
theorem dX9_closeSticking_24 : decode cX9_closeSticking 24 = .ok (.getfield 131, 3) := by decide +kernel
theorem dX9_closeSticking_27 : decode cX9_closeSticking 27 = .ok (.istore 4, 2) := by decide +kernel
theorem dX9_closeSticking_29 : decode cX9_closeSticking 29 = .ok (.iload 4, 2) := by decide +kernel
theorem dX9_closeSticking_31 : decode cX9_closeSticking 31 = .ok (.iconst (-1), 1) := by decide +kernel
theorem dX9_closeSticking_32 : decode cX9_closeSticking 32 = .ok (.if_icmp .eq 11, 3) := by decide +kernel
theorem dX9_closeSticking_35 : decode cX9_closeSticking 35 = .ok (.aload_n 1, 1) := by decide +kernel
theorem dX9_closeSticking_36 : decode cX9_closeSticking 36 = .ok (.iload_n 3, 1) := by decide +kernel
theorem dX9_closeSticking_37 : decode cX9_closeSticking 37 = .ok (.iload_n 2, 1) := by decide +kernel
theorem dX9_closeSticking_38 : decode cX9_closeSticking 38 = .ok (.iload 4, 2) := by decide +kernel
theorem dX9_closeSticking_40 : decode cX9_closeSticking 40 = .ok (.invokevirtual 318, 3) := by decide +kernel
theorem dX9_closeSticking_43 : decode cX9_closeSticking 43 = .ok (.iinc 3 1, 3) := by decide +kernel
theorem dX9_closeSticking_46 : decode cX9_closeSticking 46 = .ok (.goto (-44), 3) := by decide +kernel
theorem dX9_closeSticking_49 : decode cX9_closeSticking 49 = .ok (.return_, 1) := by decide +kernel
set_option maxRecDepth 20000 in
theorem ggX9_replayedScore_X5_restart : GoodIn wsX9_replayedScore wsX5_restart := goodIn_r _ [9, 10, 11, 77, 78, 79, 80] (by decide +kernel) (by decide +kernel)
set_option maxRecDepth 20000 in
theorem gX9_replayedScore_X5_restart : GoodIn wsX9_replayedScore (wsV RX9 321 RX5 yX5_restart wsX5_restart) := goodIn_app (goodIn_of _ (by decide +kernel)) ggX9_replayedScore_X5_restart
set_option maxRecDepth 20000 in
theorem ggX9_replayedScore_X2_entryOf : GoodIn wsX9_replayedScore wsX2_entryOf := goodIn_r _ [16, 17, 71, 72, 73, 74, 75, 76] (by decide +kernel) (by decide +kernel)
set_option maxRecDepth 20000 in
theorem gX9_replayedScore_X2_entryOf : GoodIn wsX9_replayedScore (wsV RX9 205 RX2 yX2_entryOf wsX2_entryOf) := goodIn_app (goodIn_of _ (by decide +kernel)) ggX9_replayedScore_X2_entryOf
set_option maxRecDepth 20000 in
theorem ggX9_replayedScore_X2_stickingIn : GoodIn wsX9_replayedScore wsX2_stickingIn := goodIn_r _ [20, 21] (by decide +kernel) (by decide +kernel)
set_option maxRecDepth 20000 in
theorem gX9_replayedScore_X2_stickingIn : GoodIn wsX9_replayedScore (va_wsS RX9 324 yX2_stickingIn wsX2_stickingIn) := goodIn_app (goodIn_of _ (by decide +kernel)) ggX9_replayedScore_X2_stickingIn
set_option maxRecDepth 20000 in
theorem ggX9_replayedScore_X9_isMended : GoodIn wsX9_replayedScore wsX9_isMended := goodIn_r _ [26, 27, 62, 63, 64, 65, 66, 67, 68, 69, 70] (by decide +kernel) (by decide +kernel)
set_option maxRecDepth 20000 in
theorem gX9_replayedScore_X9_isMended : GoodIn wsX9_replayedScore (wsV RX9 328 RX9 yX9_isMended wsX9_isMended) := goodIn_app (goodIn_of _ (by decide +kernel)) ggX9_replayedScore_X9_isMended
set_option maxRecDepth 20000 in
theorem ggX9_replayedScore_X2_switchIn : GoodIn wsX9_replayedScore wsX2_switchIn := goodIn_r _ [30, 31] (by decide +kernel) (by decide +kernel)
set_option maxRecDepth 20000 in
theorem gX9_replayedScore_X2_switchIn : GoodIn wsX9_replayedScore (va_wsS RX9 333 yX2_switchIn wsX2_switchIn) := goodIn_app (goodIn_of _ (by decide +kernel)) ggX9_replayedScore_X2_switchIn
set_option maxRecDepth 20000 in
theorem ggX9_replayedScore_X5_takeSwitch : GoodIn wsX9_replayedScore wsX5_takeSwitch := goodIn_r _ [35, 10, 36, 11, 37, 38, 39, 40, 41, 42, 43, 44, 45, 46, 47, 48, 49, 50, 51, 52, 53, 54, 55, 8, 56, 57, 58, 59, 60, 61, 77, 78, 79, 80, 81, 82, 83, 84, 85, 86, 87] (by decide +kernel) (by decide +kernel)
set_option maxRecDepth 20000 in
theorem gX9_replayedScore_X5_takeSwitch : GoodIn wsX9_replayedScore (wsV RX9 336 RX5 yX5_takeSwitch wsX5_takeSwitch) := goodIn_app (goodIn_of _ (by decide +kernel)) ggX9_replayedScore_X5_takeSwitch
theorem dX9_replayedScore_0 : decode cX9_replayedScore 0 = .ok (.aload_n 0, 1) := by decide +kernel
theorem dX9_replayedScore_1 : decode cX9_replayedScore 1 = .ok (.getfield 36, 3) := by decide +kernel
theorem dX9_replayedScore_4 : decode cX9_replayedScore 4 = .ok (.invokevirtual 321, 3) := by decide +kernel
theorem dX9_replayedScore_7 : decode cX9_replayedScore 7 = .ok (.iconst 0, 1) := by decide +kernel
theorem dX9_replayedScore_8 : decode cX9_replayedScore 8 = .ok (.istore_n 3, 1) := by decide +kernel
theorem dX9_replayedScore_9 : decode cX9_replayedScore 9 = .ok (.iload_n 3, 1) := by decide +kernel
theorem dX9_replayedScore_10 : decode cX9_replayedScore 10 = .ok (.aload_n 1, 1) := by decide +kernel
theorem dX9_replayedScore_11 : decode cX9_replayedScore 11 = .ok (.getfield 202, 3) := by decide +kernel
theorem dX9_replayedScore_14 : decode cX9_replayedScore 14 = .ok (.if_icmp .ge 48, 3) := by decide +kernel
theorem dX9_replayedScore_17 : decode cX9_replayedScore 17 = .ok (.aload_n 1, 1) := by decide +kernel
theorem dX9_replayedScore_18 : decode cX9_replayedScore 18 = .ok (.iload_n 3, 1) := by decide +kernel
theorem dX9_replayedScore_19 : decode cX9_replayedScore 19 = .ok (.invokevirtual 205, 3) := by decide +kernel
theorem dX9_replayedScore_22 : decode cX9_replayedScore 22 = .ok (.lstore 4, 2) := by decide +kernel
theorem dX9_replayedScore_24 : decode cX9_replayedScore 24 = .ok (.iload_n 2, 1) := by decide +kernel
theorem dX9_replayedScore_25 : decode cX9_replayedScore 25 = .ok (.ifCond .eq 15, 3) := by decide +kernel
theorem dX9_replayedScore_28 : decode cX9_replayedScore 28 = .ok (.aload_n 0, 1) := by decide +kernel
theorem dX9_replayedScore_29 : decode cX9_replayedScore 29 = .ok (.lload 4, 2) := by decide +kernel
theorem dX9_replayedScore_31 : decode cX9_replayedScore 31 = .ok (.invokestatic 324, 3) := by decide +kernel
theorem dX9_replayedScore_34 : decode cX9_replayedScore 34 = .ok (.invokevirtual 328, 3) := by decide +kernel
theorem dX9_replayedScore_37 : decode cX9_replayedScore 37 = .ok (.ifCond .ne 19, 3) := by decide +kernel
theorem dX9_replayedScore_40 : decode cX9_replayedScore 40 = .ok (.aload_n 0, 1) := by decide +kernel
theorem dX9_replayedScore_41 : decode cX9_replayedScore 41 = .ok (.getfield 36, 3) := by decide +kernel
theorem dX9_replayedScore_44 : decode cX9_replayedScore 44 = .ok (.aload_n 1, 1) := by decide +kernel
theorem dX9_replayedScore_45 : decode cX9_replayedScore 45 = .ok (.getfield 332, 3) := by decide +kernel
theorem dX9_replayedScore_48 : decode cX9_replayedScore 48 = .ok (.lload 4, 2) := by decide +kernel
theorem dX9_replayedScore_50 : decode cX9_replayedScore 50 = .ok (.invokestatic 333, 3) := by decide +kernel
theorem dX9_replayedScore_53 : decode cX9_replayedScore 53 = .ok (.invokevirtual 336, 3) := by decide +kernel
theorem dX9_replayedScore_56 : decode cX9_replayedScore 56 = .ok (.iinc 3 1, 3) := by decide +kernel
theorem dX9_replayedScore_59 : decode cX9_replayedScore 59 = .ok (.goto (-50), 3) := by decide +kernel
theorem dX9_replayedScore_62 : decode cX9_replayedScore 62 = .ok (.aload_n 0, 1) := by decide +kernel
theorem dX9_replayedScore_63 : decode cX9_replayedScore 63 = .ok (.getfield 36, 3) := by decide +kernel
theorem dX9_replayedScore_66 : decode cX9_replayedScore 66 = .ok (.getfield 173, 3) := by decide +kernel
theorem dX9_replayedScore_69 : decode cX9_replayedScore 69 = .ok (.ireturn, 1) := by decide +kernel
theorem dX9_isMended_0 : decode cX9_isMended 0 = .ok (.iload_n 1, 1) := by decide +kernel
theorem dX9_isMended_1 : decode cX9_isMended 1 = .ok (.ifCond .lt 25, 3) := by decide +kernel
theorem dX9_isMended_4 : decode cX9_isMended 4 = .ok (.iload_n 1, 1) := by decide +kernel
theorem dX9_isMended_5 : decode cX9_isMended 5 = .ok (.aload_n 0, 1) := by decide +kernel
theorem dX9_isMended_6 : decode cX9_isMended 6 = .ok (.getfield 29, 3) := by decide +kernel
theorem dX9_isMended_9 : decode cX9_isMended 9 = .ok (.arraylength, 1) := by decide +kernel
theorem dX9_isMended_10 : decode cX9_isMended 10 = .ok (.if_icmp .ge 16, 3) := by decide +kernel
theorem dX9_isMended_13 : decode cX9_isMended 13 = .ok (.aload_n 0, 1) := by decide +kernel
theorem dX9_isMended_14 : decode cX9_isMended 14 = .ok (.getfield 29, 3) := by decide +kernel
theorem dX9_isMended_17 : decode cX9_isMended 17 = .ok (.iload_n 1, 1) := by decide +kernel
theorem dX9_isMended_18 : decode cX9_isMended 18 = .ok (.baload, 1) := by decide +kernel
theorem dX9_isMended_19 : decode cX9_isMended 19 = .ok (.ifCond .eq 7, 3) := by decide +kernel
theorem dX9_isMended_22 : decode cX9_isMended 22 = .ok (.iconst 1, 1) := by decide +kernel
theorem dX9_isMended_23 : decode cX9_isMended 23 = .ok (.goto 4, 3) := by decide +kernel
theorem dX9_isMended_26 : decode cX9_isMended 26 = .ok (.iconst 0, 1) := by decide +kernel
theorem dX9_isMended_27 : decode cX9_isMended 27 = .ok (.ireturn, 1) := by decide +kernel
set_option maxRecDepth 20000 in
theorem ggX9_ranksAt_Jx4a65c_size_8abf5 : GoodIn wsX9_ranksAt wsJx4a65c_size_8abf5 := goodIn_r _ [8, 9, 48, 49, 50] (by decide +kernel) (by decide +kernel)
set_option maxRecDepth 20000 in
theorem gX9_ranksAt_Jx4a65c_size_8abf5 : GoodIn wsX9_ranksAt (wsV RX9 59 RJx4a65c yJx4a65c_size_8abf5 wsJx4a65c_size_8abf5) := goodIn_app (goodIn_of _ (by decide +kernel)) ggX9_ranksAt_Jx4a65c_size_8abf5
set_option maxRecDepth 20000 in
theorem ggX9_ranksAt_Jx4a65c_get_915e3 : GoodIn wsX9_ranksAt wsJx4a65c_get_915e3 := goodIn_r _ [13, 9, 14, 15, 16, 17, 18, 19, 20, 21, 22, 23, 24, 7, 25, 26, 48, 49, 50] (by decide +kernel) (by decide +kernel)
set_option maxRecDepth 20000 in
theorem gX9_ranksAt_Jx4a65c_get_915e3 : GoodIn wsX9_ranksAt (wsV RX9 166 RJx4a65c yJx4a65c_get_915e3 wsJx4a65c_get_915e3) := goodIn_app (goodIn_of _ (by decide +kernel)) ggX9_ranksAt_Jx4a65c_get_915e3
set_option maxRecDepth 20000 in
theorem ggX9_ranksAt_X2_isOver : GoodIn wsX9_ranksAt wsX2_isOver := goodIn_r _ [31, 32, 42, 43, 44, 45, 46, 47] (by decide +kernel) (by decide +kernel)
set_option maxRecDepth 20000 in
theorem gX9_ranksAt_X2_isOver : GoodIn wsX9_ranksAt (wsV RX9 187 RX2 yX2_isOver wsX2_isOver) := goodIn_app (goodIn_of _ (by decide +kernel)) ggX9_ranksAt_X2_isOver
theorem dX9_ranksAt_0 : decode cX9_ranksAt 0 = .ok (.iload_n 1, 1) := by decide +kernel
theorem dX9_ranksAt_1 : decode cX9_ranksAt 1 = .ok (.ifCond .lt 53, 3) := by decide +kernel
theorem dX9_ranksAt_4 : decode cX9_ranksAt 4 = .ok (.iload_n 1, 1) := by decide +kernel
theorem dX9_ranksAt_5 : decode cX9_ranksAt 5 = .ok (.aload_n 0, 1) := by decide +kernel
theorem dX9_ranksAt_6 : decode cX9_ranksAt 6 = .ok (.getfield 16, 3) := by decide +kernel
theorem dX9_ranksAt_9 : decode cX9_ranksAt 9 = .ok (.invokevirtual 59, 3) := by decide +kernel
theorem dX9_ranksAt_12 : decode cX9_ranksAt 12 = .ok (.if_icmp .ge 42, 3) := by decide +kernel
theorem dX9_ranksAt_15 : decode cX9_ranksAt 15 = .ok (.aload_n 0, 1) := by decide +kernel
theorem dX9_ranksAt_16 : decode cX9_ranksAt 16 = .ok (.getfield 16, 3) := by decide +kernel
theorem dX9_ranksAt_19 : decode cX9_ranksAt 19 = .ok (.iload_n 1, 1) := by decide +kernel
theorem dX9_ranksAt_20 : decode cX9_ranksAt 20 = .ok (.invokevirtual 166, 3) := by decide +kernel
theorem dX9_ranksAt_23 : decode cX9_ranksAt 23 = .ok (.checkcast 143, 3) := by decide +kernel
theorem dX9_ranksAt_26 : decode cX9_ranksAt 26 = .ok (.getfield 340, 3) := by decide +kernel
theorem dX9_ranksAt_29 : decode cX9_ranksAt 29 = .ok (.iload_n 2, 1) := by decide +kernel
theorem dX9_ranksAt_30 : decode cX9_ranksAt 30 = .ok (.if_icmp .ne 24, 3) := by decide +kernel
theorem dX9_ranksAt_33 : decode cX9_ranksAt 33 = .ok (.aload_n 0, 1) := by decide +kernel
theorem dX9_ranksAt_34 : decode cX9_ranksAt 34 = .ok (.getfield 16, 3) := by decide +kernel
theorem dX9_ranksAt_37 : decode cX9_ranksAt 37 = .ok (.iload_n 1, 1) := by decide +kernel
theorem dX9_ranksAt_38 : decode cX9_ranksAt 38 = .ok (.invokevirtual 166, 3) := by decide +kernel
theorem dX9_ranksAt_41 : decode cX9_ranksAt 41 = .ok (.checkcast 143, 3) := by decide +kernel
theorem dX9_ranksAt_44 : decode cX9_ranksAt 44 = .ok (.invokevirtual 187, 3) := by decide +kernel
theorem dX9_ranksAt_47 : decode cX9_ranksAt 47 = .ok (.ifCond .eq 7, 3) := by decide +kernel
theorem dX9_ranksAt_50 : decode cX9_ranksAt 50 = .ok (.iconst 1, 1) := by decide +kernel
theorem dX9_ranksAt_51 : decode cX9_ranksAt 51 = .ok (.goto 4, 3) := by decide +kernel
theorem dX9_ranksAt_54 : decode cX9_ranksAt 54 = .ok (.iconst 0, 1) := by decide +kernel
theorem dX9_ranksAt_55 : decode cX9_ranksAt 55 = .ok (.ireturn, 1) := by decide +kernel
set_option maxRecDepth 20000 in
theorem ggX9_countAhead_Jx4a65c_size_8abf5 : GoodIn wsX9_countAhead wsJx4a65c_size_8abf5 := goodIn_r _ [7, 8, 18, 19, 20] (by decide +kernel) (by decide +kernel)
set_option maxRecDepth 20000 in
theorem gX9_countAhead_Jx4a65c_size_8abf5 : GoodIn wsX9_countAhead (wsV RX9 59 RJx4a65c yJx4a65c_size_8abf5 wsJx4a65c_size_8abf5) := goodIn_app (goodIn_of _ (by decide +kernel)) ggX9_countAhead_Jx4a65c_size_8abf5
theorem dX9_countAhead_0 : decode cX9_countAhead 0 = .ok (.iload_n 1, 1) := by decide +kernel
theorem dX9_countAhead_1 : decode cX9_countAhead 1 = .ok (.ifCond .lt 12, 3) := by decide +kernel
theorem dX9_countAhead_4 : decode cX9_countAhead 4 = .ok (.iload_n 1, 1) := by decide +kernel
theorem dX9_countAhead_5 : decode cX9_countAhead 5 = .ok (.aload_n 0, 1) := by decide +kernel
theorem dX9_countAhead_6 : decode cX9_countAhead 6 = .ok (.getfield 47, 3) := by decide +kernel
theorem dX9_countAhead_9 : decode cX9_countAhead 9 = .ok (.arraylength, 1) := by decide +kernel
theorem dX9_countAhead_10 : decode cX9_countAhead 10 = .ok (.if_icmp .lt 5, 3) := by decide +kernel
theorem dX9_countAhead_13 : decode cX9_countAhead 13 = .ok (.iconst (-1), 1) := by decide +kernel
theorem dX9_countAhead_14 : decode cX9_countAhead 14 = .ok (.ireturn, 1) := by decide +kernel
theorem dX9_countAhead_15 : decode cX9_countAhead 15 = .ok (.iconst 0, 1) := by decide +kernel
theorem dX9_countAhead_16 : decode cX9_countAhead 16 = .ok (.istore_n 2, 1) := by decide +kernel
theorem dX9_countAhead_17 : decode cX9_countAhead 17 = .ok (.iconst 0, 1) := by decide +kernel
theorem dX9_countAhead_18 : decode cX9_countAhead 18 = .ok (.istore_n 3, 1) := by decide +kernel
theorem dX9_countAhead_19 : decode cX9_countAhead 19 = .ok (.iload_n 3, 1) := by decide +kernel
theorem dX9_countAhead_20 : decode cX9_countAhead 20 = .ok (.aload_n 0, 1) := by decide +kernel
theorem dX9_countAhead_21 : decode cX9_countAhead 21 = .ok (.getfield 16, 3) := by decide +kernel
theorem dX9_countAhead_24 : decode cX9_countAhead 24 = .ok (.invokevirtual 59, 3) := by decide +kernel
theorem dX9_countAhead_27 : decode cX9_countAhead 27 = .ok (.if_icmp .ge 56, 3) := by decide +kernel
theorem dX9_countAhead_30 : decode cX9_countAhead 30 = .ok (.iload_n 3, 1) := by decide +kernel
theorem dX9_countAhead_31 : decode cX9_countAhead 31 = .ok (.aload_n 0, 1) := by decide +kernel
theorem dX9_countAhead_32 : decode cX9_countAhead 32 = .ok (.getfield 47, 3) := by decide +kernel
theorem dX9_countAhead_35 : decode cX9_countAhead 35 = .ok (.arraylength, 1) := by decide +kernel
theorem dX9_countAhead_36 : decode cX9_countAhead 36 = .ok (.if_icmp .ge 47, 3) := by decide +kernel
theorem dX9_countAhead_39 : decode cX9_countAhead 39 = .ok (.aload_n 0, 1) := by decide +kernel
theorem dX9_countAhead_40 : decode cX9_countAhead 40 = .ok (.getfield 47, 3) := by decide +kernel
theorem dX9_countAhead_43 : decode cX9_countAhead 43 = .ok (.iload_n 3, 1) := by decide +kernel
theorem dX9_countAhead_44 : decode cX9_countAhead 44 = .ok (.iaload, 1) := by decide +kernel
theorem dX9_countAhead_45 : decode cX9_countAhead 45 = .ok (.aload_n 0, 1) := by decide +kernel
theorem dX9_countAhead_46 : decode cX9_countAhead 46 = .ok (.getfield 47, 3) := by decide +kernel
theorem dX9_countAhead_49 : decode cX9_countAhead 49 = .ok (.iload_n 1, 1) := by decide +kernel
theorem dX9_countAhead_50 : decode cX9_countAhead 50 = .ok (.iaload, 1) := by decide +kernel
theorem dX9_countAhead_51 : decode cX9_countAhead 51 = .ok (.if_icmp .gt 23, 3) := by decide +kernel
theorem dX9_countAhead_54 : decode cX9_countAhead 54 = .ok (.aload_n 0, 1) := by decide +kernel
theorem dX9_countAhead_55 : decode cX9_countAhead 55 = .ok (.getfield 47, 3) := by decide +kernel
theorem dX9_countAhead_58 : decode cX9_countAhead 58 = .ok (.iload_n 3, 1) := by decide +kernel
theorem dX9_countAhead_59 : decode cX9_countAhead 59 = .ok (.iaload, 1) := by decide +kernel
theorem dX9_countAhead_60 : decode cX9_countAhead 60 = .ok (.aload_n 0, 1) := by decide +kernel
theorem dX9_countAhead_61 : decode cX9_countAhead 61 = .ok (.getfield 47, 3) := by decide +kernel
theorem dX9_countAhead_64 : decode cX9_countAhead 64 = .ok (.iload_n 1, 1) := by decide +kernel
theorem dX9_countAhead_65 : decode cX9_countAhead 65 = .ok (.iaload, 1) := by decide +kernel
theorem dX9_countAhead_66 : decode cX9_countAhead 66 = .ok (.if_icmp .ne 11, 3) := by decide +kernel
theorem dX9_countAhead_69 : decode cX9_countAhead 69 = .ok (.iload_n 3, 1) := by decide +kernel
theorem dX9_countAhead_70 : decode cX9_countAhead 70 = .ok (.iload_n 1, 1) := by decide +kernel
theorem dX9_countAhead_71 : decode cX9_countAhead 71 = .ok (.if_icmp .ge 6, 3) := by decide +kernel
theorem dX9_countAhead_74 : decode cX9_countAhead 74 = .ok (.iinc 2 1, 3) := by decide +kernel
theorem dX9_countAhead_77 : decode cX9_countAhead 77 = .ok (.iinc 3 1, 3) := by decide +kernel
theorem dX9_countAhead_80 : decode cX9_countAhead 80 = .ok (.goto (-61), 3) := by decide +kernel
theorem dX9_countAhead_83 : decode cX9_countAhead 83 = .ok (.iload_n 2, 1) := by decide +kernel
theorem dX9_countAhead_84 : decode cX9_countAhead 84 = .ok (.ireturn, 1) := by decide +kernel
set_option maxRecDepth 20000 in
theorem ggX9_mendSwitches_Jx4a65c_size_8abf5 : GoodIn wsX9_mendSwitches wsJx4a65c_size_8abf5 := goodIn_r _ [9, 10, 66, 67, 68] (by decide +kernel) (by decide +kernel)
set_option maxRecDepth 20000 in
theorem gX9_mendSwitches_Jx4a65c_size_8abf5 : GoodIn wsX9_mendSwitches (wsV RX9 59 RJx4a65c yJx4a65c_size_8abf5 wsJx4a65c_size_8abf5) := goodIn_app (goodIn_of _ (by decide +kernel)) ggX9_mendSwitches_Jx4a65c_size_8abf5
set_option maxRecDepth 20000 in
theorem ggX9_mendSwitches_Jx4a65c_get_915e3 : GoodIn wsX9_mendSwitches wsJx4a65c_get_915e3 := goodIn_r _ [14, 10, 15, 16, 17, 18, 19, 20, 21, 22, 23, 24, 25, 8, 26, 27, 66, 67, 68] (by decide +kernel) (by decide +kernel)
set_option maxRecDepth 20000 in
theorem gX9_mendSwitches_Jx4a65c_get_915e3 : GoodIn wsX9_mendSwitches (wsV RX9 166 RJx4a65c yJx4a65c_get_915e3 wsJx4a65c_get_915e3) := goodIn_app (goodIn_of _ (by decide +kernel)) ggX9_mendSwitches_Jx4a65c_get_915e3
set_option maxRecDepth 20000 in
theorem ggX9_mendSwitches_X8_takeSpare : GoodIn wsX9_mendSwitches wsX8_takeSpare := goodIn_r _ [32, 33, 34, 35, 31, 36, 37, 38, 39, 40, 41, 69, 70] (by decide +kernel) (by decide +kernel)
set_option maxRecDepth 20000 in
theorem gX9_mendSwitches_X8_takeSpare : GoodIn wsX9_mendSwitches (wsV RX9 343 RX8 yX8_takeSpare wsX8_takeSpare) := goodIn_app (goodIn_of _ (by decide +kernel)) ggX9_mendSwitches_X8_takeSpare
theorem dX9_mendSwitches_0 : decode cX9_mendSwitches 0 = .ok (.iconst 0, 1) := by decide +kernel
theorem dX9_mendSwitches_1 : decode cX9_mendSwitches 1 = .ok (.istore_n 3, 1) := by decide +kernel
theorem dX9_mendSwitches_2 : decode cX9_mendSwitches 2 = .ok (.iload_n 3, 1) := by decide +kernel
theorem dX9_mendSwitches_3 : decode cX9_mendSwitches 3 = .ok (.aload_n 1, 1) := by decide +kernel
theorem dX9_mendSwitches_4 : decode cX9_mendSwitches 4 = .ok (.getfield 87, 3) := by decide +kernel
theorem dX9_mendSwitches_7 : decode cX9_mendSwitches 7 = .ok (.invokevirtual 59, 3) := by decide +kernel
theorem dX9_mendSwitches_10 : decode cX9_mendSwitches 10 = .ok (.if_icmp .ge 66, 3) := by decide +kernel
theorem dX9_mendSwitches_13 : decode cX9_mendSwitches 13 = .ok (.aload_n 1, 1) := by decide +kernel
theorem dX9_mendSwitches_14 : decode cX9_mendSwitches 14 = .ok (.getfield 87, 3) := by decide +kernel
theorem dX9_mendSwitches_17 : decode cX9_mendSwitches 17 = .ok (.iload_n 3, 1) := by decide +kernel
theorem dX9_mendSwitches_18 : decode cX9_mendSwitches 18 = .ok (.invokevirtual 166, 3) := by decide +kernel
theorem dX9_mendSwitches_21 : decode cX9_mendSwitches 21 = .ok (.checkcast 92, 3) := by decide +kernel
theorem dX9_mendSwitches_24 : decode cX9_mendSwitches 24 = .ok (.astore 4, 2) := by decide +kernel
theorem dX9_mendSwitches_26 : decode cX9_mendSwitches 26 = .ok (.aload 4, 2) := by decide +kernel
theorem dX9_mendSwitches_28 : decode cX9_mendSwitches 28 = .ok (.getfield 131, 3) := by decide +kernel
theorem dX9_mendSwitches_31 : decode cX9_mendSwitches 31 = .ok (.istore 5, 2) := by decide +kernel
theorem dX9_mendSwitches_33 : decode cX9_mendSwitches 33 = .ok (.iload 5, 2) := by decide +kernel
theorem dX9_mendSwitches_35 : decode cX9_mendSwitches 35 = .ok (.ifCond .lt 35, 3) := by decide +kernel
theorem dX9_mendSwitches_38 : decode cX9_mendSwitches 38 = .ok (.iload 5, 2) := by decide +kernel
theorem dX9_mendSwitches_40 : decode cX9_mendSwitches 40 = .ok (.aload_n 0, 1) := by decide +kernel
theorem dX9_mendSwitches_41 : decode cX9_mendSwitches 41 = .ok (.getfield 29, 3) := by decide +kernel
theorem dX9_mendSwitches_44 : decode cX9_mendSwitches 44 = .ok (.arraylength, 1) := by decide +kernel
theorem dX9_mendSwitches_45 : decode cX9_mendSwitches 45 = .ok (.if_icmp .ge 25, 3) := by decide +kernel
theorem dX9_mendSwitches_48 : decode cX9_mendSwitches 48 = .ok (.aload_n 2, 1) := by decide +kernel
theorem dX9_mendSwitches_49 : decode cX9_mendSwitches 49 = .ok (.iconst 0, 1) := by decide +kernel
theorem dX9_mendSwitches_50 : decode cX9_mendSwitches 50 = .ok (.invokevirtual 343, 3) := by decide +kernel
theorem dX9_mendSwitches_53 : decode cX9_mendSwitches 53 = .ok (.ifCond .eq 17, 3) := by decide +kernel
theorem dX9_mendSwitches_56 : decode cX9_mendSwitches 56 = .ok (.aload_n 0, 1) := by decide +kernel
theorem dX9_mendSwitches_57 : decode cX9_mendSwitches 57 = .ok (.getfield 29, 3) := by decide +kernel
theorem dX9_mendSwitches_60 : decode cX9_mendSwitches 60 = .ok (.iload 5, 2) := by decide +kernel
theorem dX9_mendSwitches_62 : decode cX9_mendSwitches 62 = .ok (.iconst 1, 1) := by decide +kernel
theorem dX9_mendSwitches_63 : decode cX9_mendSwitches 63 = .ok (.bastore, 1) := by decide +kernel
theorem dX9_mendSwitches_64 : decode cX9_mendSwitches 64 = .ok (.aload 4, 2) := by decide +kernel
theorem dX9_mendSwitches_66 : decode cX9_mendSwitches 66 = .ok (.iconst (-1), 1) := by decide +kernel
theorem dX9_mendSwitches_67 : decode cX9_mendSwitches 67 = .ok (.putfield 131, 3) := by decide +kernel
theorem dX9_mendSwitches_70 : decode cX9_mendSwitches 70 = .ok (.iinc 3 1, 3) := by decide +kernel
theorem dX9_mendSwitches_73 : decode cX9_mendSwitches 73 = .ok (.goto (-71), 3) := by decide +kernel
theorem dX9_mendSwitches_76 : decode cX9_mendSwitches 76 = .ok (.return_, 1) := by decide +kernel
set_option maxRecDepth 20000 in
theorem ggX9_mendCoils_Jx4a65c_size_8abf5 : GoodIn wsX9_mendCoils wsJx4a65c_size_8abf5 := goodIn_r _ [8, 9, 62, 63, 64] (by decide +kernel) (by decide +kernel)
set_option maxRecDepth 20000 in
theorem gX9_mendCoils_Jx4a65c_size_8abf5 : GoodIn wsX9_mendCoils (wsV RX9 59 RJx4a65c yJx4a65c_size_8abf5 wsJx4a65c_size_8abf5) := goodIn_app (goodIn_of _ (by decide +kernel)) ggX9_mendCoils_Jx4a65c_size_8abf5
set_option maxRecDepth 20000 in
theorem ggX9_mendCoils_Jx4a65c_get_915e3 : GoodIn wsX9_mendCoils wsJx4a65c_get_915e3 := goodIn_r _ [13, 9, 14, 15, 16, 17, 18, 19, 20, 21, 22, 23, 24, 7, 25, 26, 62, 63, 64] (by decide +kernel) (by decide +kernel)
set_option maxRecDepth 20000 in
theorem gX9_mendCoils_Jx4a65c_get_915e3 : GoodIn wsX9_mendCoils (wsV RX9 166 RJx4a65c yJx4a65c_get_915e3 wsJx4a65c_get_915e3) := goodIn_app (goodIn_of _ (by decide +kernel)) ggX9_mendCoils_Jx4a65c_get_915e3
set_option maxRecDepth 20000 in
theorem ggX9_mendCoils_X1_isBroken : GoodIn wsX9_mendCoils wsX1_isBroken := goodIn_r _ [31, 32, 55, 56, 57, 58, 59, 60, 61] (by decide +kernel) (by decide +kernel)
set_option maxRecDepth 20000 in
theorem gX9_mendCoils_X1_isBroken : GoodIn wsX9_mendCoils (wsV RX9 346 RX1 yX1_isBroken wsX1_isBroken) := goodIn_app (goodIn_of _ (by decide +kernel)) ggX9_mendCoils_X1_isBroken
set_option maxRecDepth 20000 in
theorem ggX9_mendCoils_X8_takeSpare : GoodIn wsX9_mendCoils wsX8_takeSpare := goodIn_r _ [37, 38, 39, 40, 36, 41, 42, 43, 44, 45, 46, 65, 66] (by decide +kernel) (by decide +kernel)
set_option maxRecDepth 20000 in
theorem gX9_mendCoils_X8_takeSpare : GoodIn wsX9_mendCoils (wsV RX9 343 RX8 yX8_takeSpare wsX8_takeSpare) := goodIn_app (goodIn_of _ (by decide +kernel)) ggX9_mendCoils_X8_takeSpare
theorem dX9_mendCoils_0 : decode cX9_mendCoils 0 = .ok (.iconst 0, 1) := by decide +kernel
theorem dX9_mendCoils_1 : decode cX9_mendCoils 1 = .ok (.istore_n 2, 1) := by decide +kernel
theorem dX9_mendCoils_2 : decode cX9_mendCoils 2 = .ok (.iload_n 2, 1) := by decide +kernel
theorem dX9_mendCoils_3 : decode cX9_mendCoils 3 = .ok (.aload_n 0, 1) := by decide +kernel
theorem dX9_mendCoils_4 : decode cX9_mendCoils 4 = .ok (.getfield 87, 3) := by decide +kernel
theorem dX9_mendCoils_7 : decode cX9_mendCoils 7 = .ok (.invokevirtual 59, 3) := by decide +kernel
theorem dX9_mendCoils_10 : decode cX9_mendCoils 10 = .ok (.if_icmp .ge 41, 3) := by decide +kernel
theorem dX9_mendCoils_13 : decode cX9_mendCoils 13 = .ok (.aload_n 0, 1) := by decide +kernel
theorem dX9_mendCoils_14 : decode cX9_mendCoils 14 = .ok (.getfield 87, 3) := by decide +kernel
theorem dX9_mendCoils_17 : decode cX9_mendCoils 17 = .ok (.iload_n 2, 1) := by decide +kernel
theorem dX9_mendCoils_18 : decode cX9_mendCoils 18 = .ok (.invokevirtual 166, 3) := by decide +kernel
theorem dX9_mendCoils_21 : decode cX9_mendCoils 21 = .ok (.checkcast 92, 3) := by decide +kernel
theorem dX9_mendCoils_24 : decode cX9_mendCoils 24 = .ok (.astore_n 3, 1) := by decide +kernel
theorem dX9_mendCoils_25 : decode cX9_mendCoils 25 = .ok (.aload_n 3, 1) := by decide +kernel
theorem dX9_mendCoils_26 : decode cX9_mendCoils 26 = .ok (.invokevirtual 346, 3) := by decide +kernel
theorem dX9_mendCoils_29 : decode cX9_mendCoils 29 = .ok (.ifCond .eq 16, 3) := by decide +kernel
theorem dX9_mendCoils_32 : decode cX9_mendCoils 32 = .ok (.aload_n 1, 1) := by decide +kernel
theorem dX9_mendCoils_33 : decode cX9_mendCoils 33 = .ok (.iconst 1, 1) := by decide +kernel
theorem dX9_mendCoils_34 : decode cX9_mendCoils 34 = .ok (.invokevirtual 343, 3) := by decide +kernel
theorem dX9_mendCoils_37 : decode cX9_mendCoils 37 = .ok (.ifCond .eq 8, 3) := by decide +kernel
theorem dX9_mendCoils_40 : decode cX9_mendCoils 40 = .ok (.aload_n 3, 1) := by decide +kernel
theorem dX9_mendCoils_41 : decode cX9_mendCoils 41 = .ok (.iconst 0, 1) := by decide +kernel
theorem dX9_mendCoils_42 : decode cX9_mendCoils 42 = .ok (.putfield 138, 3) := by decide +kernel
theorem dX9_mendCoils_45 : decode cX9_mendCoils 45 = .ok (.iinc 2 1, 3) := by decide +kernel
theorem dX9_mendCoils_48 : decode cX9_mendCoils 48 = .ok (.goto (-46), 3) := by decide +kernel
theorem dX9_mendCoils_51 : decode cX9_mendCoils 51 = .ok (.return_, 1) := by decide +kernel
theorem dJ9_abs_0f7a4_0 : decode cJ9_abs_0f7a4 0 = .ok (.iload_n 0, 1) := by decide +kernel
theorem dJ9_abs_0f7a4_1 : decode cJ9_abs_0f7a4 1 = .ok (.ifCond .ge 8, 3) := by decide +kernel
theorem dJ9_abs_0f7a4_4 : decode cJ9_abs_0f7a4 4 = .ok (.iload_n 0, 1) := by decide +kernel
theorem dJ9_abs_0f7a4_5 : decode cJ9_abs_0f7a4 5 = .ok (.ineg, 1) := by decide +kernel
theorem dJ9_abs_0f7a4_6 : decode cJ9_abs_0f7a4 6 = .ok (.goto 4, 3) := by decide +kernel
theorem dJ9_abs_0f7a4_9 : decode cJ9_abs_0f7a4 9 = .ok (.iload_n 0, 1) := by decide +kernel
theorem dJ9_abs_0f7a4_10 : decode cJ9_abs_0f7a4 10 = .ok (.ireturn, 1) := by decide +kernel
theorem dJ9_max_7cf53_0 : decode cJ9_max_7cf53 0 = .ok (.iload_n 0, 1) := by decide +kernel
theorem dJ9_max_7cf53_1 : decode cJ9_max_7cf53 1 = .ok (.iload_n 1, 1) := by decide +kernel
theorem dJ9_max_7cf53_2 : decode cJ9_max_7cf53 2 = .ok (.if_icmp .lt 7, 3) := by decide +kernel
theorem dJ9_max_7cf53_5 : decode cJ9_max_7cf53 5 = .ok (.iload_n 0, 1) := by decide +kernel
theorem dJ9_max_7cf53_6 : decode cJ9_max_7cf53 6 = .ok (.goto 4, 3) := by decide +kernel
theorem dJ9_max_7cf53_9 : decode cJ9_max_7cf53 9 = .ok (.iload_n 1, 1) := by decide +kernel
theorem dJ9_max_7cf53_10 : decode cJ9_max_7cf53 10 = .ok (.ireturn, 1) := by decide +kernel
theorem dJ9_min_7cf53_0 : decode cJ9_min_7cf53 0 = .ok (.iload_n 0, 1) := by decide +kernel
theorem dJ9_min_7cf53_1 : decode cJ9_min_7cf53 1 = .ok (.iload_n 1, 1) := by decide +kernel
theorem dJ9_min_7cf53_2 : decode cJ9_min_7cf53 2 = .ok (.if_icmp .gt 7, 3) := by decide +kernel
theorem dJ9_min_7cf53_5 : decode cJ9_min_7cf53 5 = .ok (.iload_n 0, 1) := by decide +kernel
theorem dJ9_min_7cf53_6 : decode cJ9_min_7cf53 6 = .ok (.goto 4, 3) := by decide +kernel
theorem dJ9_min_7cf53_9 : decode cJ9_min_7cf53 9 = .ok (.iload_n 1, 1) := by decide +kernel
theorem dJ9_min_7cf53_10 : decode cJ9_min_7cf53 10 = .ok (.ireturn, 1) := by decide +kernel
theorem dJxa1e45_init_da8c8_0 : decode cJxa1e45_init_da8c8 0 = .ok (.aload_n 0, 1) := by decide +kernel
theorem dJxa1e45_init_da8c8_1 : decode cJxa1e45_init_da8c8 1 = .ok (.invokespecial 1, 3) := by decide +kernel
theorem dJxa1e45_init_da8c8_4 : decode cJxa1e45_init_da8c8 4 = .ok (.return_, 1) := by decide +kernel
set_option maxRecDepth 20000 in
theorem ggJxc12de_init_da8c8_Jxa1e45_init_da8c8 : GoodIn wsJxc12de_init_da8c8 wsJxa1e45_init_da8c8 := goodIn_r _ [5, 6, 7, 8] (by decide +kernel) (by decide +kernel)
set_option maxRecDepth 20000 in
theorem gJxc12de_init_da8c8_Jxa1e45_init_da8c8 : GoodIn wsJxc12de_init_da8c8 (wsJxa1e45_init_da8c8) := ggJxc12de_init_da8c8_Jxa1e45_init_da8c8
theorem dJxc12de_init_da8c8_0 : decode cJxc12de_init_da8c8 0 = .ok (.aload_n 0, 1) := by decide +kernel
theorem dJxc12de_init_da8c8_1 : decode cJxc12de_init_da8c8 1 = .ok (.invokespecial 1, 3) := by decide +kernel
theorem dJxc12de_init_da8c8_4 : decode cJxc12de_init_da8c8 4 = .ok (.aload_n 0, 1) := by decide +kernel
theorem dJxc12de_init_da8c8_5 : decode cJxc12de_init_da8c8 5 = .ok (.iconst 0, 1) := by decide +kernel
theorem dJxc12de_init_da8c8_6 : decode cJxc12de_init_da8c8 6 = .ok (.putfield 7, 3) := by decide +kernel
theorem dJxc12de_init_da8c8_9 : decode cJxc12de_init_da8c8 9 = .ok (.return_, 1) := by decide +kernel
set_option maxRecDepth 20000 in
theorem ggJx4a65c_init_da8c8_Jxc12de_init_da8c8 : GoodIn wsJx4a65c_init_da8c8 wsJxc12de_init_da8c8 := goodIn_r _ [6, 7, 8, 9, 10, 11, 12, 13, 14, 15, 16, 17] (by decide +kernel) (by decide +kernel)
set_option maxRecDepth 20000 in
theorem gJx4a65c_init_da8c8_Jxc12de_init_da8c8 : GoodIn wsJx4a65c_init_da8c8 (wsJxc12de_init_da8c8) := ggJx4a65c_init_da8c8_Jxc12de_init_da8c8
theorem dJx4a65c_init_da8c8_0 : decode cJx4a65c_init_da8c8 0 = .ok (.aload_n 0, 1) := by decide +kernel
theorem dJx4a65c_init_da8c8_1 : decode cJx4a65c_init_da8c8 1 = .ok (.invokespecial 1, 3) := by decide +kernel
theorem dJx4a65c_init_da8c8_4 : decode cJx4a65c_init_da8c8 4 = .ok (.aload_n 0, 1) := by decide +kernel
theorem dJx4a65c_init_da8c8_5 : decode cJx4a65c_init_da8c8 5 = .ok (.getstatic 39, 3) := by decide +kernel
theorem dJx4a65c_init_da8c8_8 : decode cJx4a65c_init_da8c8 8 = .ok (.putfield 9, 3) := by decide +kernel
theorem dJx4a65c_init_da8c8_11 : decode cJx4a65c_init_da8c8 11 = .ok (.return_, 1) := by decide +kernel
set_option maxRecDepth 20000 in
theorem ggJx4a65c_grow_92f84_J8_newLength_cabcc : GoodIn wsJx4a65c_grow_92f84 wsJ8_newLength_cabcc := goodIn_r _ [11, 12, 4, 5, 6, 13, 14, 15, 10, 16] (by decide +kernel) (by decide +kernel)
set_option maxRecDepth 20000 in
theorem gJx4a65c_grow_92f84_J8_newLength_cabcc : GoodIn wsJx4a65c_grow_92f84 (va_wsS RJx4a65c 73 yJ8_newLength_cabcc wsJ8_newLength_cabcc) := goodIn_app (goodIn_of _ (by decide +kernel)) ggJx4a65c_grow_92f84_J8_newLength_cabcc
set_option maxRecDepth 20000 in
theorem ggJx4a65c_grow_92f84_J7_copyOf_1904c : GoodIn wsJx4a65c_grow_92f84 wsJ7_copyOf_1904c := goodIn_r _ [20, 21, 22, 23, 24, 25, 26, 19, 27, 28, 29, 30, 31, 5, 32, 33, 34, 35, 36] (by decide +kernel) (by decide +kernel)
set_option maxRecDepth 20000 in
theorem gJx4a65c_grow_92f84_J7_copyOf_1904c : GoodIn wsJx4a65c_grow_92f84 (va_wsS RJx4a65c 66 yJ7_copyOf_1904c wsJ7_copyOf_1904c) := goodIn_app (goodIn_of _ (by decide +kernel)) ggJx4a65c_grow_92f84_J7_copyOf_1904c
theorem dJx4a65c_grow_92f84_0 : decode cJx4a65c_grow_92f84 0 = .ok (.aload_n 0, 1) := by decide +kernel
theorem dJx4a65c_grow_92f84_1 : decode cJx4a65c_grow_92f84 1 = .ok (.getfield 9, 3) := by decide +kernel
theorem dJx4a65c_grow_92f84_4 : decode cJx4a65c_grow_92f84 4 = .ok (.arraylength, 1) := by decide +kernel
theorem dJx4a65c_grow_92f84_5 : decode cJx4a65c_grow_92f84 5 = .ok (.istore_n 2, 1) := by decide +kernel
theorem dJx4a65c_grow_92f84_6 : decode cJx4a65c_grow_92f84 6 = .ok (.iload_n 2, 1) := by decide +kernel
theorem dJx4a65c_grow_92f84_7 : decode cJx4a65c_grow_92f84 7 = .ok (.ifCond .gt 13, 3) := by decide +kernel
theorem dJx4a65c_grow_92f84_10 : decode cJx4a65c_grow_92f84 10 = .ok (.aload_n 0, 1) := by decide +kernel
theorem dJx4a65c_grow_92f84_11 : decode cJx4a65c_grow_92f84 11 = .ok (.getfield 9, 3) := by decide +kernel
theorem dJx4a65c_grow_92f84_14 : decode cJx4a65c_grow_92f84 14 = .ok (.getstatic 39, 3) := by decide +kernel
theorem dJx4a65c_grow_92f84_17 : decode cJx4a65c_grow_92f84 17 = .ok (.if_acmp .eq 28, 3) := by decide +kernel
theorem dJx4a65c_grow_92f84_20 : decode cJx4a65c_grow_92f84 20 = .ok (.iload_n 2, 1) := by decide +kernel
theorem dJx4a65c_grow_92f84_21 : decode cJx4a65c_grow_92f84 21 = .ok (.iload_n 1, 1) := by decide +kernel
theorem dJx4a65c_grow_92f84_22 : decode cJx4a65c_grow_92f84 22 = .ok (.iload_n 2, 1) := by decide +kernel
theorem dJx4a65c_grow_92f84_23 : decode cJx4a65c_grow_92f84 23 = .ok (.isub, 1) := by decide +kernel
theorem dJx4a65c_grow_92f84_24 : decode cJx4a65c_grow_92f84 24 = .ok (.iload_n 2, 1) := by decide +kernel
theorem dJx4a65c_grow_92f84_25 : decode cJx4a65c_grow_92f84 25 = .ok (.iconst 1, 1) := by decide +kernel
theorem dJx4a65c_grow_92f84_26 : decode cJx4a65c_grow_92f84 26 = .ok (.ishr, 1) := by decide +kernel
theorem dJx4a65c_grow_92f84_27 : decode cJx4a65c_grow_92f84 27 = .ok (.invokestatic 73, 3) := by decide +kernel
theorem dJx4a65c_grow_92f84_30 : decode cJx4a65c_grow_92f84 30 = .ok (.istore_n 3, 1) := by decide +kernel
theorem dJx4a65c_grow_92f84_31 : decode cJx4a65c_grow_92f84 31 = .ok (.aload_n 0, 1) := by decide +kernel
theorem dJx4a65c_grow_92f84_32 : decode cJx4a65c_grow_92f84 32 = .ok (.aload_n 0, 1) := by decide +kernel
theorem dJx4a65c_grow_92f84_33 : decode cJx4a65c_grow_92f84 33 = .ok (.getfield 9, 3) := by decide +kernel
theorem dJx4a65c_grow_92f84_36 : decode cJx4a65c_grow_92f84 36 = .ok (.iload_n 3, 1) := by decide +kernel
theorem dJx4a65c_grow_92f84_37 : decode cJx4a65c_grow_92f84 37 = .ok (.invokestatic 66, 3) := by decide +kernel
theorem dJx4a65c_grow_92f84_40 : decode cJx4a65c_grow_92f84 40 = .ok (.dup_x1, 1) := by decide +kernel
theorem dJx4a65c_grow_92f84_41 : decode cJx4a65c_grow_92f84 41 = .ok (.putfield 9, 3) := by decide +kernel
theorem dJx4a65c_grow_92f84_44 : decode cJx4a65c_grow_92f84 44 = .ok (.areturn, 1) := by decide +kernel
theorem dJx4a65c_grow_92f84_45 : decode cJx4a65c_grow_92f84 45 = .ok (.aload_n 0, 1) := by decide +kernel
theorem dJx4a65c_grow_92f84_46 : decode cJx4a65c_grow_92f84 46 = .ok (.bipush 10, 2) := by decide +kernel
theorem dJx4a65c_grow_92f84_48 : decode cJx4a65c_grow_92f84 48 = .ok (.iload_n 1, 1) := by decide +kernel
theorem dJx4a65c_grow_92f84_49 : decode cJx4a65c_grow_92f84 49 = .ok (.invokestatic 79, 3) := by decide +kernel
theorem dJx4a65c_grow_92f84_52 : decode cJx4a65c_grow_92f84 52 = .ok (.anewarray 7, 3) := by decide +kernel
theorem dJx4a65c_grow_92f84_55 : decode cJx4a65c_grow_92f84 55 = .ok (.dup_x1, 1) := by decide +kernel
theorem dJx4a65c_grow_92f84_56 : decode cJx4a65c_grow_92f84 56 = .ok (.putfield 9, 3) := by decide +kernel
theorem dJx4a65c_grow_92f84_59 : decode cJx4a65c_grow_92f84 59 = .ok (.areturn, 1) := by decide +kernel
set_option maxRecDepth 20000 in
theorem ggJx4a65c_grow_d5877_Jx4a65c_grow_92f84 : GoodIn wsJx4a65c_grow_d5877 wsJx4a65c_grow_92f84 := goodIn_r _ [6, 7, 8, 9, 10, 11, 12, 13, 14, 15, 16, 17, 18, 19, 20, 21, 22, 23, 24, 25, 26, 27, 28, 29, 30, 31, 32, 33, 34, 35, 36, 37, 38, 39, 40, 41, 42, 43, 44, 45] (by decide +kernel) (by decide +kernel)
set_option maxRecDepth 20000 in
theorem gJx4a65c_grow_d5877_Jx4a65c_grow_92f84 : GoodIn wsJx4a65c_grow_d5877 (wsV RJx4a65c 69 RJx4a65c yJx4a65c_grow_92f84 wsJx4a65c_grow_92f84) := goodIn_app (goodIn_of _ (by decide +kernel)) ggJx4a65c_grow_d5877_Jx4a65c_grow_92f84
theorem dJx4a65c_grow_d5877_0 : decode cJx4a65c_grow_d5877 0 = .ok (.aload_n 0, 1) := by decide +kernel
theorem dJx4a65c_grow_d5877_1 : decode cJx4a65c_grow_d5877 1 = .ok (.aload_n 0, 1) := by decide +kernel
theorem dJx4a65c_grow_d5877_2 : decode cJx4a65c_grow_d5877 2 = .ok (.getfield 48, 3) := by decide +kernel
theorem dJx4a65c_grow_d5877_5 : decode cJx4a65c_grow_d5877 5 = .ok (.iconst 1, 1) := by decide +kernel
theorem dJx4a65c_grow_d5877_6 : decode cJx4a65c_grow_d5877 6 = .ok (.iadd, 1) := by decide +kernel
theorem dJx4a65c_grow_d5877_7 : decode cJx4a65c_grow_d5877 7 = .ok (.invokevirtual 69, 3) := by decide +kernel
theorem dJx4a65c_grow_d5877_10 : decode cJx4a65c_grow_d5877 10 = .ok (.areturn, 1) := by decide +kernel
theorem dJx4a65c_size_8abf5_0 : decode cJx4a65c_size_8abf5 0 = .ok (.aload_n 0, 1) := by decide +kernel
theorem dJx4a65c_size_8abf5_1 : decode cJx4a65c_size_8abf5 1 = .ok (.getfield 48, 3) := by decide +kernel
theorem dJx4a65c_size_8abf5_4 : decode cJx4a65c_size_8abf5 4 = .ok (.ireturn, 1) := by decide +kernel
theorem dJx4a65c_elementData_915e3_0 : decode cJx4a65c_elementData_915e3 0 = .ok (.aload_n 0, 1) := by decide +kernel
theorem dJx4a65c_elementData_915e3_1 : decode cJx4a65c_elementData_915e3 1 = .ok (.getfield 9, 3) := by decide +kernel
theorem dJx4a65c_elementData_915e3_4 : decode cJx4a65c_elementData_915e3 4 = .ok (.iload_n 1, 1) := by decide +kernel
theorem dJx4a65c_elementData_915e3_5 : decode cJx4a65c_elementData_915e3 5 = .ok (.aaload, 1) := by decide +kernel
theorem dJx4a65c_elementData_915e3_6 : decode cJx4a65c_elementData_915e3 6 = .ok (.areturn, 1) := by decide +kernel
set_option maxRecDepth 20000 in
theorem ggJx4a65c_get_915e3_J15_checkIndex_7cf53 : GoodIn wsJx4a65c_get_915e3 wsJ15_checkIndex_7cf53 := goodIn_r _ [5, 6, 7, 8, 9] (by decide +kernel) (by decide +kernel)
set_option maxRecDepth 20000 in
theorem gJx4a65c_get_915e3_J15_checkIndex_7cf53 : GoodIn wsJx4a65c_get_915e3 (va_wsS RJx4a65c 118 yJ15_checkIndex_7cf53 wsJ15_checkIndex_7cf53) := goodIn_app (goodIn_of _ (by decide +kernel)) ggJx4a65c_get_915e3_J15_checkIndex_7cf53
set_option maxRecDepth 20000 in
theorem ggJx4a65c_get_915e3_Jx4a65c_elementData_915e3 : GoodIn wsJx4a65c_get_915e3 wsJx4a65c_elementData_915e3 := goodIn_r _ [14, 15, 16, 17, 18] (by decide +kernel) (by decide +kernel)
set_option maxRecDepth 20000 in
theorem gJx4a65c_get_915e3_Jx4a65c_elementData_915e3 : GoodIn wsJx4a65c_get_915e3 (wsV RJx4a65c 123 RJx4a65c yJx4a65c_elementData_915e3 wsJx4a65c_elementData_915e3) := goodIn_app (goodIn_of _ (by decide +kernel)) ggJx4a65c_get_915e3_Jx4a65c_elementData_915e3
theorem dJx4a65c_get_915e3_0 : decode cJx4a65c_get_915e3 0 = .ok (.iload_n 1, 1) := by decide +kernel
theorem dJx4a65c_get_915e3_1 : decode cJx4a65c_get_915e3 1 = .ok (.aload_n 0, 1) := by decide +kernel
theorem dJx4a65c_get_915e3_2 : decode cJx4a65c_get_915e3 2 = .ok (.getfield 48, 3) := by decide +kernel
theorem dJx4a65c_get_915e3_5 : decode cJx4a65c_get_915e3 5 = .ok (.invokestatic 118, 3) := by decide +kernel
theorem dJx4a65c_get_915e3_8 : decode cJx4a65c_get_915e3 8 = .ok (.pop, 1) := by decide +kernel
theorem dJx4a65c_get_915e3_9 : decode cJx4a65c_get_915e3 9 = .ok (.aload_n 0, 1) := by decide +kernel
theorem dJx4a65c_get_915e3_10 : decode cJx4a65c_get_915e3 10 = .ok (.iload_n 1, 1) := by decide +kernel
theorem dJx4a65c_get_915e3_11 : decode cJx4a65c_get_915e3 11 = .ok (.invokevirtual 123, 3) := by decide +kernel
theorem dJx4a65c_get_915e3_14 : decode cJx4a65c_get_915e3 14 = .ok (.areturn, 1) := by decide +kernel
set_option maxRecDepth 20000 in
theorem ggJx4a65c_add_72be8_Jx4a65c_grow_d5877 : GoodIn wsJx4a65c_add_72be8 wsJx4a65c_grow_d5877 := goodIn_r _ [6, 1, 7, 8, 9, 5, 10, 11, 12, 13, 14, 15, 16, 17, 18, 19, 20, 21, 22, 23, 24, 25, 26, 27, 28, 29, 30, 31, 32, 33, 34, 35, 36, 37, 38, 39, 40, 41, 42, 43, 44, 45, 46, 47, 48, 49] (by decide +kernel) (by decide +kernel)
set_option maxRecDepth 20000 in
theorem gJx4a65c_add_72be8_Jx4a65c_grow_d5877 : GoodIn wsJx4a65c_add_72be8 (wsV RJx4a65c 129 RJx4a65c yJx4a65c_grow_d5877 wsJx4a65c_grow_d5877) := goodIn_app (goodIn_of _ (by decide +kernel)) ggJx4a65c_add_72be8_Jx4a65c_grow_d5877
theorem dJx4a65c_add_72be8_0 : decode cJx4a65c_add_72be8 0 = .ok (.iload_n 3, 1) := by decide +kernel
theorem dJx4a65c_add_72be8_1 : decode cJx4a65c_add_72be8 1 = .ok (.aload_n 2, 1) := by decide +kernel
theorem dJx4a65c_add_72be8_2 : decode cJx4a65c_add_72be8 2 = .ok (.arraylength, 1) := by decide +kernel
theorem dJx4a65c_add_72be8_3 : decode cJx4a65c_add_72be8 3 = .ok (.if_icmp .ne 8, 3) := by decide +kernel
theorem dJx4a65c_add_72be8_6 : decode cJx4a65c_add_72be8 6 = .ok (.aload_n 0, 1) := by decide +kernel
theorem dJx4a65c_add_72be8_7 : decode cJx4a65c_add_72be8 7 = .ok (.invokevirtual 129, 3) := by decide +kernel
theorem dJx4a65c_add_72be8_10 : decode cJx4a65c_add_72be8 10 = .ok (.astore_n 2, 1) := by decide +kernel
theorem dJx4a65c_add_72be8_11 : decode cJx4a65c_add_72be8 11 = .ok (.aload_n 2, 1) := by decide +kernel
theorem dJx4a65c_add_72be8_12 : decode cJx4a65c_add_72be8 12 = .ok (.iload_n 3, 1) := by decide +kernel
theorem dJx4a65c_add_72be8_13 : decode cJx4a65c_add_72be8 13 = .ok (.aload_n 1, 1) := by decide +kernel
theorem dJx4a65c_add_72be8_14 : decode cJx4a65c_add_72be8 14 = .ok (.aastore, 1) := by decide +kernel
theorem dJx4a65c_add_72be8_15 : decode cJx4a65c_add_72be8 15 = .ok (.aload_n 0, 1) := by decide +kernel
theorem dJx4a65c_add_72be8_16 : decode cJx4a65c_add_72be8 16 = .ok (.iload_n 3, 1) := by decide +kernel
theorem dJx4a65c_add_72be8_17 : decode cJx4a65c_add_72be8 17 = .ok (.iconst 1, 1) := by decide +kernel
theorem dJx4a65c_add_72be8_18 : decode cJx4a65c_add_72be8 18 = .ok (.iadd, 1) := by decide +kernel
theorem dJx4a65c_add_72be8_19 : decode cJx4a65c_add_72be8 19 = .ok (.putfield 48, 3) := by decide +kernel
theorem dJx4a65c_add_72be8_22 : decode cJx4a65c_add_72be8 22 = .ok (.return_, 1) := by decide +kernel
set_option maxRecDepth 20000 in
theorem ggJx4a65c_add_9ea2d_Jx4a65c_add_72be8 : GoodIn wsJx4a65c_add_9ea2d wsJx4a65c_add_72be8 := goodIn_r _ [9, 4, 10, 11, 12, 8, 13, 14, 15, 16, 17, 3, 18, 19, 20, 21, 22, 23, 24, 25, 26, 27, 28, 29, 30, 31, 32, 33, 34, 35, 36, 37, 38, 39, 40, 41, 42, 43, 44, 45, 46, 47, 48, 49, 50, 51, 52, 53, 54, 55] (by decide +kernel) (by decide +kernel)
set_option maxRecDepth 20000 in
theorem gJx4a65c_add_9ea2d_Jx4a65c_add_72be8 : GoodIn wsJx4a65c_add_9ea2d (wsV RJx4a65c 131 RJx4a65c yJx4a65c_add_72be8 wsJx4a65c_add_72be8) := goodIn_app (goodIn_of _ (by decide +kernel)) ggJx4a65c_add_9ea2d_Jx4a65c_add_72be8
theorem dJx4a65c_add_9ea2d_0 : decode cJx4a65c_add_9ea2d 0 = .ok (.aload_n 0, 1) := by decide +kernel
theorem dJx4a65c_add_9ea2d_1 : decode cJx4a65c_add_9ea2d 1 = .ok (.dup, 1) := by decide +kernel
theorem dJx4a65c_add_9ea2d_2 : decode cJx4a65c_add_9ea2d 2 = .ok (.getfield 63, 3) := by decide +kernel
theorem dJx4a65c_add_9ea2d_5 : decode cJx4a65c_add_9ea2d 5 = .ok (.iconst 1, 1) := by decide +kernel
theorem dJx4a65c_add_9ea2d_6 : decode cJx4a65c_add_9ea2d 6 = .ok (.iadd, 1) := by decide +kernel
theorem dJx4a65c_add_9ea2d_7 : decode cJx4a65c_add_9ea2d 7 = .ok (.putfield 63, 3) := by decide +kernel
theorem dJx4a65c_add_9ea2d_10 : decode cJx4a65c_add_9ea2d 10 = .ok (.aload_n 0, 1) := by decide +kernel
theorem dJx4a65c_add_9ea2d_11 : decode cJx4a65c_add_9ea2d 11 = .ok (.aload_n 1, 1) := by decide +kernel
theorem dJx4a65c_add_9ea2d_12 : decode cJx4a65c_add_9ea2d 12 = .ok (.aload_n 0, 1) := by decide +kernel
theorem dJx4a65c_add_9ea2d_13 : decode cJx4a65c_add_9ea2d 13 = .ok (.getfield 9, 3) := by decide +kernel
theorem dJx4a65c_add_9ea2d_16 : decode cJx4a65c_add_9ea2d 16 = .ok (.aload_n 0, 1) := by decide +kernel
theorem dJx4a65c_add_9ea2d_17 : decode cJx4a65c_add_9ea2d 17 = .ok (.getfield 48, 3) := by decide +kernel
theorem dJx4a65c_add_9ea2d_20 : decode cJx4a65c_add_9ea2d 20 = .ok (.invokevirtual 131, 3) := by decide +kernel
theorem dJx4a65c_add_9ea2d_23 : decode cJx4a65c_add_9ea2d 23 = .ok (.iconst 1, 1) := by decide +kernel
theorem dJx4a65c_add_9ea2d_24 : decode cJx4a65c_add_9ea2d 24 = .ok (.ireturn, 1) := by decide +kernel
set_option maxRecDepth 20000 in
theorem ggJ7_copyOf_1904c_J7_copyOf_6403c : GoodIn wsJ7_copyOf_1904c wsJ7_copyOf_6403c := goodIn_r _ [8, 9, 10, 11, 12, 13, 14, 15, 16, 17, 18] (by decide +kernel) (by decide +kernel)
set_option maxRecDepth 20000 in
theorem gJ7_copyOf_1904c_J7_copyOf_6403c : GoodIn wsJ7_copyOf_1904c (va_wsS RJ7 300 yJ7_copyOf_6403c wsJ7_copyOf_6403c) := goodIn_app (goodIn_of _ (by decide +kernel)) ggJ7_copyOf_1904c_J7_copyOf_6403c
theorem dJ7_copyOf_1904c_0 : decode cJ7_copyOf_1904c 0 = .ok (.aload_n 0, 1) := by decide +kernel
theorem dJ7_copyOf_1904c_1 : decode cJ7_copyOf_1904c 1 = .ok (.iload_n 1, 1) := by decide +kernel
theorem dJ7_copyOf_1904c_2 : decode cJ7_copyOf_1904c 2 = .ok (.aload_n 0, 1) := by decide +kernel
theorem dJ7_copyOf_1904c_3 : decode cJ7_copyOf_1904c 3 = .ok (.invokevirtual 86, 3) := by decide +kernel
theorem dJ7_copyOf_1904c_6 : decode cJ7_copyOf_1904c 6 = .ok (.invokestatic 300, 3) := by decide +kernel
theorem dJ7_copyOf_1904c_9 : decode cJ7_copyOf_1904c 9 = .ok (.areturn, 1) := by decide +kernel
theorem dJ7_copyOf_6403c_0 : decode cJ7_copyOf_6403c 0 = .ok (.aload_n 2, 1) := by decide +kernel
theorem dJ7_copyOf_6403c_1 : decode cJ7_copyOf_6403c 1 = .ok (.ldc 110, 2) := by decide +kernel
theorem dJ7_copyOf_6403c_3 : decode cJ7_copyOf_6403c 3 = .ok (.if_acmp .ne 10, 3) := by decide +kernel
theorem dJ7_copyOf_6403c_6 : decode cJ7_copyOf_6403c 6 = .ok (.iload_n 1, 1) := by decide +kernel
theorem dJ7_copyOf_6403c_7 : decode cJ7_copyOf_6403c 7 = .ok (.anewarray 2, 3) := by decide +kernel
theorem dJ7_copyOf_6403c_10 : decode cJ7_copyOf_6403c 10 = .ok (.goto 14, 3) := by decide +kernel
theorem dJ7_copyOf_6403c_13 : decode cJ7_copyOf_6403c 13 = .ok (.aload_n 2, 1) := by decide +kernel
theorem dJ7_copyOf_6403c_14 : decode cJ7_copyOf_6403c 14 = .ok (.invokevirtual 90, 3) := by decide +kernel
theorem dJ7_copyOf_6403c_17 : decode cJ7_copyOf_6403c 17 = .ok (.iload_n 1, 1) := by decide +kernel
theorem dJ7_copyOf_6403c_18 : decode cJ7_copyOf_6403c 18 = .ok (.invokestatic 95, 3) := by decide +kernel
theorem dJ7_copyOf_6403c_21 : decode cJ7_copyOf_6403c 21 = .ok (.checkcast 110, 3) := by decide +kernel
theorem dJ7_copyOf_6403c_24 : decode cJ7_copyOf_6403c 24 = .ok (.astore_n 3, 1) := by decide +kernel
theorem dJ7_copyOf_6403c_25 : decode cJ7_copyOf_6403c 25 = .ok (.aload_n 0, 1) := by decide +kernel
theorem dJ7_copyOf_6403c_26 : decode cJ7_copyOf_6403c 26 = .ok (.iconst 0, 1) := by decide +kernel
theorem dJ7_copyOf_6403c_27 : decode cJ7_copyOf_6403c 27 = .ok (.aload_n 3, 1) := by decide +kernel
theorem dJ7_copyOf_6403c_28 : decode cJ7_copyOf_6403c 28 = .ok (.iconst 0, 1) := by decide +kernel
theorem dJ7_copyOf_6403c_29 : decode cJ7_copyOf_6403c 29 = .ok (.aload_n 0, 1) := by decide +kernel
theorem dJ7_copyOf_6403c_30 : decode cJ7_copyOf_6403c 30 = .ok (.arraylength, 1) := by decide +kernel
theorem dJ7_copyOf_6403c_31 : decode cJ7_copyOf_6403c 31 = .ok (.iload_n 1, 1) := by decide +kernel
theorem dJ7_copyOf_6403c_32 : decode cJ7_copyOf_6403c 32 = .ok (.invokestatic 304, 3) := by decide +kernel
theorem dJ7_copyOf_6403c_35 : decode cJ7_copyOf_6403c 35 = .ok (.invokestatic 150, 3) := by decide +kernel
theorem dJ7_copyOf_6403c_38 : decode cJ7_copyOf_6403c 38 = .ok (.aload_n 3, 1) := by decide +kernel
theorem dJ7_copyOf_6403c_39 : decode cJ7_copyOf_6403c 39 = .ok (.areturn, 1) := by decide +kernel
set_option maxRecDepth 20000 in
theorem ggJ15_checkIndex_7cf53_J3_checkIndex_8e157 : GoodIn wsJ15_checkIndex_7cf53 wsJ3_checkIndex_8e157 := goodIn_r _ [4] (by decide +kernel) (by decide +kernel)
set_option maxRecDepth 20000 in
theorem gJ15_checkIndex_7cf53_J3_checkIndex_8e157 : GoodIn wsJ15_checkIndex_7cf53 (va_wsS RJ15 105 yJ3_checkIndex_8e157 wsJ3_checkIndex_8e157) := goodIn_app (goodIn_of _ (by decide +kernel)) ggJ15_checkIndex_7cf53_J3_checkIndex_8e157
theorem dJ15_checkIndex_7cf53_0 : decode cJ15_checkIndex_7cf53 0 = .ok (.iload_n 0, 1) := by decide +kernel
theorem dJ15_checkIndex_7cf53_1 : decode cJ15_checkIndex_7cf53 1 = .ok (.iload_n 1, 1) := by decide +kernel
theorem dJ15_checkIndex_7cf53_2 : decode cJ15_checkIndex_7cf53 2 = .ok (.aconst_null, 1) := by decide +kernel
theorem dJ15_checkIndex_7cf53_3 : decode cJ15_checkIndex_7cf53 3 = .ok (.invokestatic 105, 3) := by decide +kernel
theorem dJ15_checkIndex_7cf53_6 : decode cJ15_checkIndex_7cf53 6 = .ok (.ireturn, 1) := by decide +kernel
set_option maxRecDepth 20000 in
theorem ggJ8_newLength_cabcc_J8_hugeLength_7cf53 : GoodIn wsJ8_newLength_cabcc wsJ8_hugeLength_7cf53 := goodIn_r _ [9, 5] (by decide +kernel) (by decide +kernel)
set_option maxRecDepth 20000 in
theorem gJ8_newLength_cabcc_J8_hugeLength_7cf53 : GoodIn wsJ8_newLength_cabcc (va_wsS RJ8 201 yJ8_hugeLength_7cf53 wsJ8_hugeLength_7cf53) := goodIn_app (goodIn_of _ (by decide +kernel)) ggJ8_newLength_cabcc_J8_hugeLength_7cf53
theorem dJ8_newLength_cabcc_0 : decode cJ8_newLength_cabcc 0 = .ok (.iload_n 0, 1) := by decide +kernel
theorem dJ8_newLength_cabcc_1 : decode cJ8_newLength_cabcc 1 = .ok (.iload_n 1, 1) := by decide +kernel
theorem dJ8_newLength_cabcc_2 : decode cJ8_newLength_cabcc 2 = .ok (.iload_n 2, 1) := by decide +kernel
theorem dJ8_newLength_cabcc_3 : decode cJ8_newLength_cabcc 3 = .ok (.invokestatic 194, 3) := by decide +kernel
theorem dJ8_newLength_cabcc_6 : decode cJ8_newLength_cabcc 6 = .ok (.iadd, 1) := by decide +kernel
theorem dJ8_newLength_cabcc_7 : decode cJ8_newLength_cabcc 7 = .ok (.istore_n 3, 1) := by decide +kernel
theorem dJ8_newLength_cabcc_8 : decode cJ8_newLength_cabcc 8 = .ok (.iconst 0, 1) := by decide +kernel
theorem dJ8_newLength_cabcc_9 : decode cJ8_newLength_cabcc 9 = .ok (.iload_n 3, 1) := by decide +kernel
theorem dJ8_newLength_cabcc_10 : decode cJ8_newLength_cabcc 10 = .ok (.if_icmp .ge 11, 3) := by decide +kernel
theorem dJ8_newLength_cabcc_13 : decode cJ8_newLength_cabcc 13 = .ok (.iload_n 3, 1) := by decide +kernel
theorem dJ8_newLength_cabcc_14 : decode cJ8_newLength_cabcc 14 = .ok (.ldc 200, 2) := by decide +kernel
theorem dJ8_newLength_cabcc_16 : decode cJ8_newLength_cabcc 16 = .ok (.if_icmp .gt 5, 3) := by decide +kernel
theorem dJ8_newLength_cabcc_19 : decode cJ8_newLength_cabcc 19 = .ok (.iload_n 3, 1) := by decide +kernel
theorem dJ8_newLength_cabcc_20 : decode cJ8_newLength_cabcc 20 = .ok (.ireturn, 1) := by decide +kernel
theorem dJ8_newLength_cabcc_21 : decode cJ8_newLength_cabcc 21 = .ok (.iload_n 0, 1) := by decide +kernel
theorem dJ8_newLength_cabcc_22 : decode cJ8_newLength_cabcc 22 = .ok (.iload_n 1, 1) := by decide +kernel
theorem dJ8_newLength_cabcc_23 : decode cJ8_newLength_cabcc 23 = .ok (.invokestatic 201, 3) := by decide +kernel
theorem dJ8_newLength_cabcc_26 : decode cJ8_newLength_cabcc 26 = .ok (.ireturn, 1) := by decide +kernel
theorem dJ8_hugeLength_7cf53_0 : decode cJ8_hugeLength_7cf53 0 = .ok (.iload_n 0, 1) := by decide +kernel
theorem dJ8_hugeLength_7cf53_1 : decode cJ8_hugeLength_7cf53 1 = .ok (.iload_n 1, 1) := by decide +kernel
theorem dJ8_hugeLength_7cf53_2 : decode cJ8_hugeLength_7cf53 2 = .ok (.iadd, 1) := by decide +kernel
theorem dJ8_hugeLength_7cf53_3 : decode cJ8_hugeLength_7cf53 3 = .ok (.istore_n 2, 1) := by decide +kernel
theorem dJ8_hugeLength_7cf53_4 : decode cJ8_hugeLength_7cf53 4 = .ok (.iload_n 2, 1) := by decide +kernel
theorem dJ8_hugeLength_7cf53_5 : decode cJ8_hugeLength_7cf53 5 = .ok (.ifCond .ge 44, 3) := by decide +kernel
theorem dJ8_hugeLength_7cf53_8 : decode cJ8_hugeLength_7cf53 8 = .ok (.new 204, 3) := by decide +kernel
theorem dJ8_hugeLength_7cf53_11 : decode cJ8_hugeLength_7cf53 11 = .ok (.dup, 1) := by decide +kernel
theorem dJ8_hugeLength_7cf53_12 : decode cJ8_hugeLength_7cf53 12 = .ok (.new 89, 3) := by decide +kernel
theorem dJ8_hugeLength_7cf53_15 : decode cJ8_hugeLength_7cf53 15 = .ok (.dup, 1) := by decide +kernel
theorem dJ8_hugeLength_7cf53_16 : decode cJ8_hugeLength_7cf53 16 = .ok (.invokespecial 91, 3) := by decide +kernel
theorem dJ8_hugeLength_7cf53_19 : decode cJ8_hugeLength_7cf53 19 = .ok (.ldc 206, 2) := by decide +kernel
theorem dJ8_hugeLength_7cf53_21 : decode cJ8_hugeLength_7cf53 21 = .ok (.invokevirtual 94, 3) := by decide +kernel
theorem dJ8_hugeLength_7cf53_24 : decode cJ8_hugeLength_7cf53 24 = .ok (.iload_n 0, 1) := by decide +kernel
theorem dJ8_hugeLength_7cf53_25 : decode cJ8_hugeLength_7cf53 25 = .ok (.invokevirtual 98, 3) := by decide +kernel
theorem dJ8_hugeLength_7cf53_28 : decode cJ8_hugeLength_7cf53 28 = .ok (.ldc 208, 2) := by decide +kernel
theorem dJ8_hugeLength_7cf53_30 : decode cJ8_hugeLength_7cf53 30 = .ok (.invokevirtual 94, 3) := by decide +kernel
theorem dJ8_hugeLength_7cf53_33 : decode cJ8_hugeLength_7cf53 33 = .ok (.iload_n 1, 1) := by decide +kernel
theorem dJ8_hugeLength_7cf53_34 : decode cJ8_hugeLength_7cf53 34 = .ok (.invokevirtual 98, 3) := by decide +kernel
theorem dJ8_hugeLength_7cf53_37 : decode cJ8_hugeLength_7cf53 37 = .ok (.ldc 210, 2) := by decide +kernel
theorem dJ8_hugeLength_7cf53_39 : decode cJ8_hugeLength_7cf53 39 = .ok (.invokevirtual 94, 3) := by decide +kernel
theorem dJ8_hugeLength_7cf53_42 : decode cJ8_hugeLength_7cf53 42 = .ok (.invokevirtual 101, 3) := by decide +kernel
theorem dJ8_hugeLength_7cf53_45 : decode cJ8_hugeLength_7cf53 45 = .ok (.invokespecial 212, 3) := by decide +kernel
theorem dJ8_hugeLength_7cf53_48 : decode cJ8_hugeLength_7cf53 48 = .ok (.athrow, 1) := by decide +kernel
theorem dJ8_hugeLength_7cf53_49 : decode cJ8_hugeLength_7cf53 49 = .ok (.iload_n 2, 1) := by decide +kernel
theorem dJ8_hugeLength_7cf53_50 : decode cJ8_hugeLength_7cf53 50 = .ok (.ldc 200, 2) := by decide +kernel
theorem dJ8_hugeLength_7cf53_52 : decode cJ8_hugeLength_7cf53 52 = .ok (.if_icmp .gt 6, 3) := by decide +kernel
theorem dJ8_hugeLength_7cf53_55 : decode cJ8_hugeLength_7cf53 55 = .ok (.ldc 200, 2) := by decide +kernel
theorem dJ8_hugeLength_7cf53_57 : decode cJ8_hugeLength_7cf53 57 = .ok (.ireturn, 1) := by decide +kernel
theorem dJ8_hugeLength_7cf53_58 : decode cJ8_hugeLength_7cf53 58 = .ok (.iload_n 2, 1) := by decide +kernel
theorem dJ8_hugeLength_7cf53_59 : decode cJ8_hugeLength_7cf53 59 = .ok (.ireturn, 1) := by decide +kernel
theorem dJ3_checkIndex_8e157_0 : decode cJ3_checkIndex_8e157 0 = .ok (.iload_n 0, 1) := by decide +kernel
theorem dJ3_checkIndex_8e157_1 : decode cJ3_checkIndex_8e157 1 = .ok (.ifCond .lt 8, 3) := by decide +kernel
theorem dJ3_checkIndex_8e157_4 : decode cJ3_checkIndex_8e157 4 = .ok (.iload_n 0, 1) := by decide +kernel
theorem dJ3_checkIndex_8e157_5 : decode cJ3_checkIndex_8e157 5 = .ok (.iload_n 1, 1) := by decide +kernel
theorem dJ3_checkIndex_8e157_6 : decode cJ3_checkIndex_8e157 6 = .ok (.if_icmp .lt 10, 3) := by decide +kernel
theorem dJ3_checkIndex_8e157_9 : decode cJ3_checkIndex_8e157 9 = .ok (.aload_n 2, 1) := by decide +kernel
theorem dJ3_checkIndex_8e157_10 : decode cJ3_checkIndex_8e157 10 = .ok (.iload_n 0, 1) := by decide +kernel
theorem dJ3_checkIndex_8e157_11 : decode cJ3_checkIndex_8e157 11 = .ok (.iload_n 1, 1) := by decide +kernel
theorem dJ3_checkIndex_8e157_12 : decode cJ3_checkIndex_8e157 12 = .ok (.invokestatic 95, 3) := by decide +kernel
theorem dJ3_checkIndex_8e157_15 : decode cJ3_checkIndex_8e157 15 = .ok (.athrow, 1) := by decide +kernel
theorem dJ3_checkIndex_8e157_16 : decode cJ3_checkIndex_8e157 16 = .ok (.iload_n 0, 1) := by decide +kernel
theorem dJ3_checkIndex_8e157_17 : decode cJ3_checkIndex_8e157 17 = .ok (.ireturn, 1) := by decide +kernel
