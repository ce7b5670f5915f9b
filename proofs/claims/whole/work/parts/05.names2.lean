theorem dX9_load_10 : decode cX9_load 10 = .ok (.invokestatic 55, 3) := by decide +kernel
theorem dX9_load_13 : decode cX9_load 13 = .ok (.iload_n 3, 1) := by decide +kernel
theorem dX9_load_14 : decode cX9_load 14 = .ok (.iconst 1, 1) := by decide +kernel
theorem dX9_load_15 : decode cX9_load 15 = .ok (.bipush 20, 2) := by decide +kernel
theorem dX9_load_17 : decode cX9_load 17 = .ok (.invokestatic 55, 3) := by decide +kernel
theorem dX9_load_20 : decode cX9_load 20 = .ok (.aload 4, 2) := by decide +kernel
theorem dX9_load_22 : decode cX9_load 22 = .ok (.iload_n 2, 1) := by decide +kernel
theorem dX9_load_23 : decode cX9_load 23 = .ok (.invokevirtual 229, 3) := by decide +kernel
theorem dX9_load_26 : decode cX9_load 26 = .ok (.iload_n 3, 1) := by decide +kernel
theorem dX9_load_27 : decode cX9_load 27 = .ok (.iadd, 1) := by decide +kernel
theorem dX9_load_28 : decode cX9_load 28 = .ok (.bipush 20, 2) := by decide +kernel
theorem dX9_load_30 : decode cX9_load 30 = .ok (.if_icmp .le 13, 3) := by decide +kernel
theorem dX9_load_33 : decode cX9_load 33 = .ok (.new 63, 3) := by decide +kernel
theorem dX9_load_36 : decode cX9_load 36 = .ok (.dup, 1) := by decide +kernel
theorem dX9_load_37 : decode cX9_load 37 = .ok (.ldc 232, 2) := by decide +kernel
theorem dX9_load_39 : decode cX9_load 39 = .ok (.invokespecial 67, 3) := by decide +kernel
theorem dX9_load_42 : decode cX9_load 42 = .ok (.athrow, 1) := by decide +kernel
theorem dX9_load_43 : decode cX9_load 43 = .ok (.aload 4, 2) := by decide +kernel
theorem dX9_load_45 : decode cX9_load 45 = .ok (.iload_n 2, 1) := by decide +kernel
theorem dX9_load_46 : decode cX9_load 46 = .ok (.iload_n 3, 1) := by decide +kernel
theorem dX9_load_47 : decode cX9_load 47 = .ok (.invokevirtual 234, 3) := by decide +kernel
theorem dX9_load_50 : decode cX9_load 50 = .ok (.aload 4, 2) := by decide +kernel
theorem dX9_load_52 : decode cX9_load 52 = .ok (.iload_n 2, 1) := by decide +kernel
theorem dX9_load_53 : decode cX9_load 53 = .ok (.invokevirtual 229, 3) := by decide +kernel
theorem dX9_load_56 : decode cX9_load 56 = .ok (.ireturn, 1) := by decide +kernel
set_option maxRecDepth 20000 in
theorem ggX9_parts_X9_demandVan : GoodIn wsX9_parts wsX9_demandVan := goodIn_ca (goodIn_r _ [5, 6, 7, 8, 9, 21, 22, 23, 24, 25, 26, 27, 28, 29] (by decide +kernel) (by decide +kernel)) (goodIn_sub (fun _ h => List.mem_cons_of_mem _ (List.mem_append_left _ (List.mem_append_right _ h))) (by decide +kernel))
set_option maxRecDepth 20000 in
theorem gX9_parts_X9_demandVan : GoodIn wsX9_parts (wsV RX9 225 RX9 yX9_demandVan wsX9_demandVan) := goodIn_app (goodIn_of _ (by decide +kernel)) ggX9_parts_X9_demandVan
set_option maxRecDepth 20000 in
theorem ggX9_parts_X9_demandRange : GoodIn wsX9_parts wsX9_demandRange := goodIn_ca (goodIn_r _ [12, 13, 14] (by decide +kernel) (by decide +kernel)) (goodIn_sub (fun _ h => List.mem_cons_of_mem _ (List.mem_append_right _ h)) (by decide +kernel))
set_option maxRecDepth 20000 in
theorem gX9_parts_X9_demandRange : GoodIn wsX9_parts (va_wsS RX9 55 yX9_demandRange wsX9_demandRange) := goodIn_app (goodIn_of _ (by decide +kernel)) ggX9_parts_X9_demandRange
set_option maxRecDepth 20000 in
theorem ggX9_parts_X8_spareOf : GoodIn wsX9_parts wsX8_spareOf := goodIn_r _ [19, 20, 30, 31] (by decide +kernel) (by decide +kernel)
set_option maxRecDepth 20000 in
theorem gX9_parts_X8_spareOf : GoodIn wsX9_parts (wsV RX9 229 RX8 yX8_spareOf wsX8_spareOf) := goodIn_app (goodIn_of _ (by decide +kernel)) ggX9_parts_X8_spareOf
theorem dX9_parts_0 : decode cX9_parts 0 = .ok (.aload_n 0, 1) := by decide +kernel
theorem dX9_parts_1 : decode cX9_parts 1 = .ok (.iload_n 1, 1) := by decide +kernel
theorem dX9_parts_2 : decode cX9_parts 2 = .ok (.invokevirtual 225, 3) := by decide +kernel
theorem dX9_parts_5 : decode cX9_parts 5 = .ok (.astore_n 3, 1) := by decide +kernel
theorem dX9_parts_6 : decode cX9_parts 6 = .ok (.iload_n 2, 1) := by decide +kernel
theorem dX9_parts_7 : decode cX9_parts 7 = .ok (.iconst 0, 1) := by decide +kernel
theorem dX9_parts_8 : decode cX9_parts 8 = .ok (.iconst 1, 1) := by decide +kernel
theorem dX9_parts_9 : decode cX9_parts 9 = .ok (.invokestatic 55, 3) := by decide +kernel
theorem dX9_parts_12 : decode cX9_parts 12 = .ok (.aload_n 3, 1) := by decide +kernel
theorem dX9_parts_13 : decode cX9_parts 13 = .ok (.iload_n 2, 1) := by decide +kernel
theorem dX9_parts_14 : decode cX9_parts 14 = .ok (.invokevirtual 229, 3) := by decide +kernel
theorem dX9_parts_17 : decode cX9_parts 17 = .ok (.ireturn, 1) := by decide +kernel
set_option maxRecDepth 20000 in
theorem ggX9_wanted_X9_demandRange : GoodIn wsX9_wanted wsX9_demandRange := goodIn_ca (goodIn_r _ [12, 13, 14] (by decide +kernel) (by decide +kernel)) (goodIn_sub (fun _ h => List.mem_cons_of_mem _ (List.mem_append_right _ h)) (by decide +kernel))
set_option maxRecDepth 20000 in
theorem gX9_wanted_X9_demandRange : GoodIn wsX9_wanted (va_wsS RX9 55 yX9_demandRange wsX9_demandRange) := goodIn_app (goodIn_of _ (by decide +kernel)) ggX9_wanted_X9_demandRange
set_option maxRecDepth 20000 in
theorem ggX9_wanted_Jx4a65c_size_8abf5 : GoodIn wsX9_wanted wsJx4a65c_size_8abf5 := goodIn_r _ [19, 20, 69, 70, 71] (by decide +kernel) (by decide +kernel)
set_option maxRecDepth 20000 in
theorem gX9_wanted_Jx4a65c_size_8abf5 : GoodIn wsX9_wanted (wsV RX9 59 RJx4a65c yJx4a65c_size_8abf5 wsJx4a65c_size_8abf5) := goodIn_app (goodIn_of _ (by decide +kernel)) ggX9_wanted_Jx4a65c_size_8abf5
set_option maxRecDepth 20000 in
theorem ggX9_wanted_Jx4a65c_get_915e3 : GoodIn wsX9_wanted wsJx4a65c_get_915e3 := goodIn_r _ [24, 20, 25, 26, 27, 28, 29, 30, 31, 32, 33, 34, 35, 18, 36, 37, 69, 70, 71] (by decide +kernel) (by decide +kernel)
set_option maxRecDepth 20000 in
theorem gX9_wanted_Jx4a65c_get_915e3 : GoodIn wsX9_wanted (wsV RX9 166 RJx4a65c yJx4a65c_get_915e3 wsJx4a65c_get_915e3) := goodIn_app (goodIn_of _ (by decide +kernel)) ggX9_wanted_Jx4a65c_get_915e3
set_option maxRecDepth 20000 in
theorem ggX9_wanted_X7_countFaults : GoodIn wsX9_wanted wsX7_countFaults := goodIn_r _ [42, 43, 44, 45, 46, 16, 17, 18, 19, 20, 47, 22, 23, 24, 25, 26, 27, 28, 29, 30, 31, 32, 33, 34, 35, 36, 37, 48, 49, 50, 51, 52, 53, 72, 73, 74, 75, 76, 77, 78, 79, 80, 81, 82, 83, 84, 85, 86, 69, 70, 71] (by decide +kernel) (by decide +kernel)
set_option maxRecDepth 20000 in
theorem gX9_wanted_X7_countFaults : GoodIn wsX9_wanted (wsV RX9 237 RX7 yX7_countFaults wsX7_countFaults) := goodIn_app (goodIn_of _ (by decide +kernel)) ggX9_wanted_X7_countFaults
set_option maxRecDepth 20000 in
theorem ggX9_wanted_X8_spareOf : GoodIn wsX9_wanted wsX8_spareOf := goodIn_r _ [58, 59, 87, 88] (by decide +kernel) (by decide +kernel)
set_option maxRecDepth 20000 in
theorem gX9_wanted_X8_spareOf : GoodIn wsX9_wanted (wsV RX9 229 RX8 yX8_spareOf wsX8_spareOf) := goodIn_app (goodIn_of _ (by decide +kernel)) ggX9_wanted_X8_spareOf
theorem dX9_wanted_0 : decode cX9_wanted 0 = .ok (.iload_n 1, 1) := by decide +kernel
theorem dX9_wanted_1 : decode cX9_wanted 1 = .ok (.iconst 0, 1) := by decide +kernel
theorem dX9_wanted_2 : decode cX9_wanted 2 = .ok (.iconst 1, 1) := by decide +kernel
theorem dX9_wanted_3 : decode cX9_wanted 3 = .ok (.invokestatic 55, 3) := by decide +kernel
theorem dX9_wanted_6 : decode cX9_wanted 6 = .ok (.iconst 0, 1) := by decide +kernel
theorem dX9_wanted_7 : decode cX9_wanted 7 = .ok (.istore_n 2, 1) := by decide +kernel
theorem dX9_wanted_8 : decode cX9_wanted 8 = .ok (.iconst 0, 1) := by decide +kernel
theorem dX9_wanted_9 : decode cX9_wanted 9 = .ok (.istore_n 3, 1) := by decide +kernel
theorem dX9_wanted_10 : decode cX9_wanted 10 = .ok (.iload_n 3, 1) := by decide +kernel
theorem dX9_wanted_11 : decode cX9_wanted 11 = .ok (.aload_n 0, 1) := by decide +kernel
theorem dX9_wanted_12 : decode cX9_wanted 12 = .ok (.getfield 12, 3) := by decide +kernel
theorem dX9_wanted_15 : decode cX9_wanted 15 = .ok (.invokevirtual 59, 3) := by decide +kernel
theorem dX9_wanted_18 : decode cX9_wanted 18 = .ok (.if_icmp .ge 27, 3) := by decide +kernel
theorem dX9_wanted_21 : decode cX9_wanted 21 = .ok (.iload_n 2, 1) := by decide +kernel
theorem dX9_wanted_22 : decode cX9_wanted 22 = .ok (.aload_n 0, 1) := by decide +kernel
theorem dX9_wanted_23 : decode cX9_wanted 23 = .ok (.getfield 12, 3) := by decide +kernel
theorem dX9_wanted_26 : decode cX9_wanted 26 = .ok (.iload_n 3, 1) := by decide +kernel
theorem dX9_wanted_27 : decode cX9_wanted 27 = .ok (.invokevirtual 166, 3) := by decide +kernel
theorem dX9_wanted_30 : decode cX9_wanted 30 = .ok (.checkcast 70, 3) := by decide +kernel
theorem dX9_wanted_33 : decode cX9_wanted 33 = .ok (.iload_n 1, 1) := by decide +kernel
theorem dX9_wanted_34 : decode cX9_wanted 34 = .ok (.invokevirtual 237, 3) := by decide +kernel
theorem dX9_wanted_37 : decode cX9_wanted 37 = .ok (.iadd, 1) := by decide +kernel
theorem dX9_wanted_38 : decode cX9_wanted 38 = .ok (.istore_n 2, 1) := by decide +kernel
theorem dX9_wanted_39 : decode cX9_wanted 39 = .ok (.iinc 3 1, 3) := by decide +kernel
theorem dX9_wanted_42 : decode cX9_wanted 42 = .ok (.goto (-32), 3) := by decide +kernel
theorem dX9_wanted_45 : decode cX9_wanted 45 = .ok (.iconst 0, 1) := by decide +kernel
theorem dX9_wanted_46 : decode cX9_wanted 46 = .ok (.iload_n 2, 1) := by decide +kernel
theorem dX9_wanted_47 : decode cX9_wanted 47 = .ok (.aload_n 0, 1) := by decide +kernel
theorem dX9_wanted_48 : decode cX9_wanted 48 = .ok (.getfield 22, 3) := by decide +kernel
theorem dX9_wanted_51 : decode cX9_wanted 51 = .ok (.iload_n 1, 1) := by decide +kernel
theorem dX9_wanted_52 : decode cX9_wanted 52 = .ok (.invokevirtual 229, 3) := by decide +kernel
theorem dX9_wanted_55 : decode cX9_wanted 55 = .ok (.isub, 1) := by decide +kernel
theorem dX9_wanted_56 : decode cX9_wanted 56 = .ok (.aload_n 0, 1) := by decide +kernel
theorem dX9_wanted_57 : decode cX9_wanted 57 = .ok (.getfield 26, 3) := by decide +kernel
theorem dX9_wanted_60 : decode cX9_wanted 60 = .ok (.iload_n 1, 1) := by decide +kernel
theorem dX9_wanted_61 : decode cX9_wanted 61 = .ok (.invokevirtual 229, 3) := by decide +kernel
theorem dX9_wanted_64 : decode cX9_wanted 64 = .ok (.isub, 1) := by decide +kernel
theorem dX9_wanted_65 : decode cX9_wanted 65 = .ok (.invokestatic 240, 3) := by decide +kernel
theorem dX9_wanted_68 : decode cX9_wanted 68 = .ok (.ireturn, 1) := by decide +kernel
set_option maxRecDepth 20000 in
theorem ggX9_way_X9_demandVan : GoodIn wsX9_way wsX9_demandVan := goodIn_ca (goodIn_r _ [9, 10, 11, 12, 13, 98, 99, 100, 101, 102, 103, 104, 105, 106] (by decide +kernel) (by decide +kernel)) (goodIn_sub (fun _ h => List.mem_cons_of_mem _ (List.mem_append_right _ h)) (by decide +kernel))
set_option maxRecDepth 20000 in
theorem gX9_way_X9_demandVan : GoodIn wsX9_way (wsV RX9 225 RX9 yX9_demandVan wsX9_demandVan) := goodIn_app (goodIn_of _ (by decide +kernel)) ggX9_way_X9_demandVan
set_option maxRecDepth 20000 in
theorem ggX9_way_X4_search : GoodIn wsX9_way wsX4_search := goodIn_r _ [18, 19, 20, 21, 22, 17, 23, 24, 25, 26, 27, 28, 29, 30, 31, 32, 33, 34, 35, 36, 37, 38, 39, 40, 41, 42, 43, 44, 45, 46, 47, 48, 49, 50, 51, 52, 53, 54, 55, 56, 57, 58, 59, 60, 61, 62, 63, 64, 65, 66, 67, 68, 69, 70, 71, 72, 73, 74, 75, 76, 77, 78, 79, 80, 81, 82, 83, 84, 85, 86, 87, 88, 89, 90, 91, 92, 93, 94, 95, 96, 97, 109, 110, 111, 112, 113, 114, 115, 116, 117, 118, 119, 120, 121, 122, 123, 124, 125, 126, 127, 128, 129, 130, 131] (by decide +kernel) (by decide +kernel)
set_option maxRecDepth 20000 in
theorem gX9_way_X4_search : GoodIn wsX9_way (wsV RX9 249 RX4 yX4_search wsX4_search) := goodIn_app (goodIn_of _ (by decide +kernel)) ggX9_way_X4_search
theorem dX9_way_0 : decode cX9_way 0 = .ok (.aload_n 0, 1) := by decide +kernel
theorem dX9_way_1 : decode cX9_way 1 = .ok (.getfield 43, 3) := by decide +kernel
theorem dX9_way_4 : decode cX9_way 4 = .ok (.aload_n 0, 1) := by decide +kernel
theorem dX9_way_5 : decode cX9_way 5 = .ok (.getfield 12, 3) := by decide +kernel
theorem dX9_way_8 : decode cX9_way 8 = .ok (.aload_n 0, 1) := by decide +kernel
theorem dX9_way_9 : decode cX9_way 9 = .ok (.iload_n 1, 1) := by decide +kernel
theorem dX9_way_10 : decode cX9_way 10 = .ok (.invokevirtual 225, 3) := by decide +kernel
theorem dX9_way_13 : decode cX9_way 13 = .ok (.getfield 246, 3) := by decide +kernel
theorem dX9_way_16 : decode cX9_way 16 = .ok (.invokevirtual 249, 3) := by decide +kernel
theorem dX9_way_19 : decode cX9_way 19 = .ok (.aload_n 0, 1) := by decide +kernel
theorem dX9_way_20 : decode cX9_way 20 = .ok (.getfield 43, 3) := by decide +kernel
theorem dX9_way_23 : decode cX9_way 23 = .ok (.getfield 253, 3) := by decide +kernel
theorem dX9_way_26 : decode cX9_way 26 = .ok (.ireturn, 1) := by decide +kernel
set_option maxRecDepth 20000 in
theorem ggX9_planned_X9_demandVan : GoodIn wsX9_planned wsX9_demandVan := goodIn_ca (goodIn_r _ [9, 10, 11, 12, 13, 105, 106, 107, 108, 109, 110, 111, 112, 113] (by decide +kernel) (by decide +kernel)) (goodIn_sub (fun _ h => List.mem_cons_of_mem _ (List.mem_append_right _ h)) (by decide +kernel))
set_option maxRecDepth 20000 in
theorem gX9_planned_X9_demandVan : GoodIn wsX9_planned (wsV RX9 225 RX9 yX9_demandVan wsX9_demandVan) := goodIn_app (goodIn_of _ (by decide +kernel)) ggX9_planned_X9_demandVan
set_option maxRecDepth 20000 in
theorem ggX9_planned_X4_search : GoodIn wsX9_planned wsX4_search := goodIn_r _ [18, 19, 20, 21, 22, 17, 23, 24, 25, 26, 27, 28, 29, 30, 31, 32, 33, 34, 35, 36, 37, 38, 39, 40, 41, 42, 43, 44, 45, 46, 47, 48, 49, 50, 51, 52, 53, 54, 55, 56, 57, 58, 59, 60, 61, 62, 63, 64, 65, 66, 67, 68, 69, 70, 71, 72, 73, 74, 75, 76, 77, 78, 79, 80, 81, 82, 83, 84, 85, 86, 87, 88, 89, 90, 91, 92, 93, 94, 95, 96, 97, 116, 117, 118, 119, 120, 121, 122, 123, 124, 125, 126, 127, 128, 129, 130, 131, 132, 133, 134, 135, 136, 137, 138] (by decide +kernel) (by decide +kernel)
set_option maxRecDepth 20000 in
theorem gX9_planned_X4_search : GoodIn wsX9_planned (wsV RX9 249 RX4 yX4_search wsX4_search) := goodIn_app (goodIn_of _ (by decide +kernel)) ggX9_planned_X4_search
set_option maxRecDepth 20000 in
theorem ggX9_planned_X9_demandIndex : GoodIn wsX9_planned wsX9_demandIndex := goodIn_ca (goodIn_r _ [100, 10, 11] (by decide +kernel) (by decide +kernel)) (goodIn_sub (fun _ h => List.mem_cons_of_mem _ (List.mem_append_right _ h)) (by decide +kernel))
set_option maxRecDepth 20000 in
theorem gX9_planned_X9_demandIndex : GoodIn wsX9_planned (va_wsS RX9 114 yX9_demandIndex wsX9_demandIndex) := goodIn_app (goodIn_of _ (by decide +kernel)) ggX9_planned_X9_demandIndex
set_option maxRecDepth 20000 in
theorem ggX9_planned_X4_tableOf : GoodIn wsX9_planned wsX4_tableOf := goodIn_r _ [104, 24, 86, 116, 117, 118, 119, 120] (by decide +kernel) (by decide +kernel)
set_option maxRecDepth 20000 in
theorem gX9_planned_X4_tableOf : GoodIn wsX9_planned (wsV RX9 259 RX4 yX4_tableOf wsX4_tableOf) := goodIn_app (goodIn_of _ (by decide +kernel)) ggX9_planned_X4_tableOf
theorem dX9_planned_0 : decode cX9_planned 0 = .ok (.aload_n 0, 1) := by decide +kernel
theorem dX9_planned_1 : decode cX9_planned 1 = .ok (.getfield 43, 3) := by decide +kernel
theorem dX9_planned_4 : decode cX9_planned 4 = .ok (.aload_n 0, 1) := by decide +kernel
theorem dX9_planned_5 : decode cX9_planned 5 = .ok (.getfield 12, 3) := by decide +kernel
theorem dX9_planned_8 : decode cX9_planned 8 = .ok (.aload_n 0, 1) := by decide +kernel
theorem dX9_planned_9 : decode cX9_planned 9 = .ok (.iload_n 1, 1) := by decide +kernel
theorem dX9_planned_10 : decode cX9_planned 10 = .ok (.invokevirtual 225, 3) := by decide +kernel
theorem dX9_planned_13 : decode cX9_planned 13 = .ok (.getfield 246, 3) := by decide +kernel
theorem dX9_planned_16 : decode cX9_planned 16 = .ok (.invokevirtual 249, 3) := by decide +kernel
theorem dX9_planned_19 : decode cX9_planned 19 = .ok (.iload_n 2, 1) := by decide +kernel
theorem dX9_planned_20 : decode cX9_planned 20 = .ok (.aload_n 0, 1) := by decide +kernel
theorem dX9_planned_21 : decode cX9_planned 21 = .ok (.getfield 43, 3) := by decide +kernel
theorem dX9_planned_24 : decode cX9_planned 24 = .ok (.getfield 256, 3) := by decide +kernel
theorem dX9_planned_27 : decode cX9_planned 27 = .ok (.invokestatic 114, 3) := by decide +kernel
theorem dX9_planned_30 : decode cX9_planned 30 = .ok (.aload_n 0, 1) := by decide +kernel
theorem dX9_planned_31 : decode cX9_planned 31 = .ok (.getfield 43, 3) := by decide +kernel
theorem dX9_planned_34 : decode cX9_planned 34 = .ok (.iload_n 2, 1) := by decide +kernel
theorem dX9_planned_35 : decode cX9_planned 35 = .ok (.invokevirtual 259, 3) := by decide +kernel
theorem dX9_planned_38 : decode cX9_planned 38 = .ok (.ireturn, 1) := by decide +kernel
set_option maxRecDepth 20000 in
theorem ggX9_go_X9_demandVan : GoodIn wsX9_go wsX9_demandVan := goodIn_ca (goodIn_r _ [12, 13, 14, 15, 16, 145, 146, 147, 148, 149, 150, 151, 152, 153] (by decide +kernel) (by decide +kernel)) (goodIn_sub (fun _ h => List.mem_cons_of_mem _ (List.mem_append_right _ h)) (by decide +kernel))
set_option maxRecDepth 20000 in
theorem gX9_go_X9_demandVan : GoodIn wsX9_go (wsV RX9 225 RX9 yX9_demandVan wsX9_demandVan) := goodIn_app (goodIn_of _ (by decide +kernel)) ggX9_go_X9_demandVan
set_option maxRecDepth 20000 in
theorem ggX9_go_X4_search : GoodIn wsX9_go wsX4_search := goodIn_r _ [21, 22, 23, 24, 25, 20, 26, 27, 28, 29, 30, 31, 32, 33, 34, 35, 36, 37, 38, 39, 40, 41, 42, 43, 44, 45, 46, 47, 48, 49, 50, 51, 52, 53, 54, 55, 56, 57, 58, 59, 60, 61, 62, 63, 64, 65, 66, 67, 68, 69, 70, 71, 72, 73, 74, 75, 76, 77, 78, 79, 80, 81, 82, 83, 84, 85, 86, 87, 88, 89, 90, 91, 92, 93, 94, 95, 96, 97, 98, 99, 100, 156, 157, 158, 159, 160, 161, 162, 163, 164, 165, 166, 167, 168, 169, 170, 171, 172, 173, 174, 175, 176, 177, 178] (by decide +kernel) (by decide +kernel)
set_option maxRecDepth 20000 in
theorem gX9_go_X4_search : GoodIn wsX9_go (wsV RX9 249 RX4 yX4_search wsX4_search) := goodIn_app (goodIn_of _ (by decide +kernel)) ggX9_go_X4_search
set_option maxRecDepth 20000 in
theorem ggX9_go_X4_tableOf : GoodIn wsX9_go wsX4_tableOf := goodIn_r _ [104, 27, 89, 156, 157, 158, 159, 160] (by decide +kernel) (by decide +kernel)
set_option maxRecDepth 20000 in
theorem gX9_go_X4_tableOf : GoodIn wsX9_go (wsV RX9 259 RX4 yX4_tableOf wsX4_tableOf) := goodIn_app (goodIn_of _ (by decide +kernel)) ggX9_go_X4_tableOf
set_option maxRecDepth 20000 in
theorem ggX9_go_X9_demandTable : GoodIn wsX9_go wsX9_demandTable := goodIn_ca (goodIn_r _ [108, 13, 14, 4, 109, 110, 33, 34, 35, 36, 37, 111, 39, 40, 41, 42, 43, 44, 45, 46, 47, 48, 49, 50, 51, 52, 53, 54, 145, 146, 147, 148, 149, 150, 151, 152, 153, 169, 170, 171] (by decide +kernel) (by decide +kernel)) (goodIn_sub (fun _ h => List.mem_cons_of_mem _ (List.mem_append_right _ h)) (by decide +kernel))
set_option maxRecDepth 20000 in
theorem gX9_go_X9_demandTable : GoodIn wsX9_go (wsV RX9 79 RX9 yX9_demandTable wsX9_demandTable) := goodIn_app (goodIn_of _ (by decide +kernel)) ggX9_go_X9_demandTable
set_option maxRecDepth 20000 in
theorem ggX9_go_X7_emptyBox : GoodIn wsX9_go wsX7_emptyBox := goodIn_r _ [115, 61, 116, 117, 161, 162, 163, 164, 165, 166, 167, 168] (by decide +kernel) (by decide +kernel)
set_option maxRecDepth 20000 in
theorem gX9_go_X7_emptyBox : GoodIn wsX9_go (wsV RX9 264 RX7 yX7_emptyBox wsX7_emptyBox) := goodIn_app (goodIn_of _ (by decide +kernel)) ggX9_go_X7_emptyBox
set_option maxRecDepth 20000 in
theorem ggX9_go_X9_mendSwitches : GoodIn wsX9_go wsX9_mendSwitches := goodIn_r _ [121, 122, 123, 124, 125, 110, 33, 34, 35, 36, 37, 111, 39, 40, 41, 42, 43, 44, 45, 46, 47, 48, 49, 50, 51, 52, 53, 54, 126, 127, 128, 129, 130, 131, 132, 133, 134, 135, 136, 137, 138, 139, 161, 162, 163, 164, 165, 166, 167, 168, 172, 173, 174, 175, 176, 177, 178, 145, 146, 147, 148, 149, 150, 151, 152, 153, 169, 170, 171, 154, 155] (by decide +kernel) (by decide +kernel)
set_option maxRecDepth 20000 in
theorem gX9_go_X9_mendSwitches : GoodIn wsX9_go (wsV RX9 267 RX9 yX9_mendSwitches wsX9_mendSwitches) := goodIn_app (goodIn_of _ (by decide +kernel)) ggX9_go_X9_mendSwitches
set_option maxRecDepth 20000 in
theorem ggX9_go_X9_mendCoils : GoodIn wsX9_go wsX9_mendCoils := goodIn_r _ [142, 122, 123, 143, 110, 33, 34, 35, 36, 37, 111, 39, 40, 41, 42, 43, 44, 45, 46, 47, 48, 49, 50, 51, 52, 53, 54, 144, 72, 73, 74, 75, 76, 126, 127, 128, 129, 130, 131, 132, 133, 134, 135, 136, 137, 138, 139, 161, 162, 163, 164, 165, 166, 167, 168, 172, 173, 174, 175, 176, 177, 178, 169, 170, 171, 154, 155] (by decide +kernel) (by decide +kernel)
set_option maxRecDepth 20000 in
theorem gX9_go_X9_mendCoils : GoodIn wsX9_go (va_wsS RX9 271 yX9_mendCoils wsX9_mendCoils) := goodIn_app (goodIn_of _ (by decide +kernel)) ggX9_go_X9_mendCoils
theorem dX9_go_0 : decode cX9_go 0 = .ok (.aload_n 0, 1) := by decide +kernel
theorem dX9_go_1 : decode cX9_go 1 = .ok (.iload_n 1, 1) := by decide +kernel
theorem dX9_go_2 : decode cX9_go 2 = .ok (.invokevirtual 225, 3) := by decide +kernel
theorem dX9_go_5 : decode cX9_go 5 = .ok (.astore_n 2, 1) := by decide +kernel
theorem dX9_go_6 : decode cX9_go 6 = .ok (.aload_n 0, 1) := by decide +kernel
theorem dX9_go_7 : decode cX9_go 7 = .ok (.getfield 43, 3) := by decide +kernel
theorem dX9_go_10 : decode cX9_go 10 = .ok (.aload_n 0, 1) := by decide +kernel
theorem dX9_go_11 : decode cX9_go 11 = .ok (.getfield 12, 3) := by decide +kernel
theorem dX9_go_14 : decode cX9_go 14 = .ok (.aload_n 2, 1) := by decide +kernel
theorem dX9_go_15 : decode cX9_go 15 = .ok (.getfield 246, 3) := by decide +kernel
theorem dX9_go_18 : decode cX9_go 18 = .ok (.invokevirtual 249, 3) := by decide +kernel
theorem dX9_go_21 : decode cX9_go 21 = .ok (.aload_n 0, 1) := by decide +kernel
theorem dX9_go_22 : decode cX9_go 22 = .ok (.getfield 43, 3) := by decide +kernel
theorem dX9_go_25 : decode cX9_go 25 = .ok (.getfield 256, 3) := by decide +kernel
theorem dX9_go_28 : decode cX9_go 28 = .ok (.ifCond .ne 14, 3) := by decide +kernel
theorem dX9_go_31 : decode cX9_go 31 = .ok (.new 63, 3) := by decide +kernel
theorem dX9_go_34 : decode cX9_go 34 = .ok (.dup, 1) := by decide +kernel
theorem dX9_go_35 : decode cX9_go 35 = .ok (.ldc_w 262, 3) := by decide +kernel
theorem dX9_go_38 : decode cX9_go 38 = .ok (.invokespecial 67, 3) := by decide +kernel
theorem dX9_go_41 : decode cX9_go 41 = .ok (.athrow, 1) := by decide +kernel
theorem dX9_go_42 : decode cX9_go 42 = .ok (.iconst 0, 1) := by decide +kernel
theorem dX9_go_43 : decode cX9_go 43 = .ok (.istore_n 3, 1) := by decide +kernel
theorem dX9_go_44 : decode cX9_go 44 = .ok (.iconst 0, 1) := by decide +kernel
theorem dX9_go_45 : decode cX9_go 45 = .ok (.istore 4, 2) := by decide +kernel
theorem dX9_go_47 : decode cX9_go 47 = .ok (.iload 4, 2) := by decide +kernel
theorem dX9_go_49 : decode cX9_go 49 = .ok (.aload_n 0, 1) := by decide +kernel
theorem dX9_go_50 : decode cX9_go 50 = .ok (.getfield 43, 3) := by decide +kernel
theorem dX9_go_53 : decode cX9_go 53 = .ok (.getfield 256, 3) := by decide +kernel
theorem dX9_go_56 : decode cX9_go 56 = .ok (.if_icmp .ge 54, 3) := by decide +kernel
theorem dX9_go_59 : decode cX9_go 59 = .ok (.aload_n 0, 1) := by decide +kernel
theorem dX9_go_60 : decode cX9_go 60 = .ok (.aload_n 0, 1) := by decide +kernel
theorem dX9_go_61 : decode cX9_go 61 = .ok (.getfield 43, 3) := by decide +kernel
theorem dX9_go_64 : decode cX9_go 64 = .ok (.iload 4, 2) := by decide +kernel
theorem dX9_go_66 : decode cX9_go 66 = .ok (.invokevirtual 259, 3) := by decide +kernel
theorem dX9_go_69 : decode cX9_go 69 = .ok (.invokevirtual 79, 3) := by decide +kernel
theorem dX9_go_72 : decode cX9_go 72 = .ok (.astore 5, 2) := by decide +kernel
theorem dX9_go_74 : decode cX9_go 74 = .ok (.iload_n 3, 1) := by decide +kernel
theorem dX9_go_75 : decode cX9_go 75 = .ok (.aload 5, 2) := by decide +kernel
theorem dX9_go_77 : decode cX9_go 77 = .ok (.invokevirtual 264, 3) := by decide +kernel
theorem dX9_go_80 : decode cX9_go 80 = .ok (.iadd, 1) := by decide +kernel
theorem dX9_go_81 : decode cX9_go 81 = .ok (.istore_n 3, 1) := by decide +kernel
theorem dX9_go_82 : decode cX9_go 82 = .ok (.aload_n 0, 1) := by decide +kernel
theorem dX9_go_83 : decode cX9_go 83 = .ok (.aload 5, 2) := by decide +kernel
theorem dX9_go_85 : decode cX9_go 85 = .ok (.aload_n 2, 1) := by decide +kernel
theorem dX9_go_86 : decode cX9_go 86 = .ok (.invokevirtual 267, 3) := by decide +kernel
theorem dX9_go_89 : decode cX9_go 89 = .ok (.aload 5, 2) := by decide +kernel
theorem dX9_go_91 : decode cX9_go 91 = .ok (.aload_n 2, 1) := by decide +kernel
theorem dX9_go_92 : decode cX9_go 92 = .ok (.invokestatic 271, 3) := by decide +kernel
theorem dX9_go_95 : decode cX9_go 95 = .ok (.aload_n 2, 1) := by decide +kernel
theorem dX9_go_96 : decode cX9_go 96 = .ok (.aload 5, 2) := by decide +kernel
theorem dX9_go_98 : decode cX9_go 98 = .ok (.getfield 274, 3) := by decide +kernel
theorem dX9_go_101 : decode cX9_go 101 = .ok (.putfield 246, 3) := by decide +kernel
theorem dX9_go_104 : decode cX9_go 104 = .ok (.iinc 4 1, 3) := by decide +kernel
theorem dX9_go_107 : decode cX9_go 107 = .ok (.goto (-60), 3) := by decide +kernel
theorem dX9_go_110 : decode cX9_go 110 = .ok (.iload_n 3, 1) := by decide +kernel
theorem dX9_go_111 : decode cX9_go 111 = .ok (.ireturn, 1) := by decide +kernel
set_option maxRecDepth 20000 in
theorem ggX9_vanAt_X9_demandVan : GoodIn wsX9_vanAt wsX9_demandVan := goodIn_ca (goodIn_r _ [6, 7, 8, 9, 10, 13, 14, 15, 16, 17, 18, 19, 20, 21] (by decide +kernel) (by decide +kernel)) (goodIn_sub (fun _ h => List.mem_cons_of_mem _ (List.mem_append_right _ h)) (by decide +kernel))
set_option maxRecDepth 20000 in
theorem gX9_vanAt_X9_demandVan : GoodIn wsX9_vanAt (wsV RX9 225 RX9 yX9_demandVan wsX9_demandVan) := goodIn_app (goodIn_of _ (by decide +kernel)) ggX9_vanAt_X9_demandVan
theorem dX9_vanAt_0 : decode cX9_vanAt 0 = .ok (.aload_n 0, 1) := by decide +kernel
theorem dX9_vanAt_1 : decode cX9_vanAt 1 = .ok (.iload_n 1, 1) := by decide +kernel
theorem dX9_vanAt_2 : decode cX9_vanAt 2 = .ok (.invokevirtual 225, 3) := by decide +kernel
theorem dX9_vanAt_5 : decode cX9_vanAt 5 = .ok (.getfield 246, 3) := by decide +kernel
theorem dX9_vanAt_8 : decode cX9_vanAt 8 = .ok (.ireturn, 1) := by decide +kernel
set_option maxRecDepth 20000 in
theorem ggX9_demandTable_Jx4a65c_size_8abf5 : GoodIn wsX9_demandTable wsJx4a65c_size_8abf5 := goodIn_r _ [9, 10, 37, 38, 39] (by decide +kernel) (by decide +kernel)
set_option maxRecDepth 20000 in
theorem gX9_demandTable_Jx4a65c_size_8abf5 : GoodIn wsX9_demandTable (wsV RX9 59 RJx4a65c yJx4a65c_size_8abf5 wsJx4a65c_size_8abf5) := goodIn_app (goodIn_of _ (by decide +kernel)) ggX9_demandTable_Jx4a65c_size_8abf5
set_option maxRecDepth 20000 in
theorem ggX9_demandTable_Jx4a65c_get_915e3 : GoodIn wsX9_demandTable wsJx4a65c_get_915e3 := goodIn_r _ [14, 10, 15, 16, 17, 18, 19, 20, 21, 22, 23, 24, 25, 8, 26, 27, 37, 38, 39] (by decide +kernel) (by decide +kernel)
set_option maxRecDepth 20000 in
theorem gX9_demandTable_Jx4a65c_get_915e3 : GoodIn wsX9_demandTable (wsV RX9 166 RJx4a65c yJx4a65c_get_915e3 wsJx4a65c_get_915e3) := goodIn_app (goodIn_of _ (by decide +kernel)) ggX9_demandTable_Jx4a65c_get_915e3
theorem dX9_demandTable_0 : decode cX9_demandTable 0 = .ok (.iload_n 1, 1) := by decide +kernel
theorem dX9_demandTable_1 : decode cX9_demandTable 1 = .ok (.ifCond .lt 14, 3) := by decide +kernel
theorem dX9_demandTable_4 : decode cX9_demandTable 4 = .ok (.iload_n 1, 1) := by decide +kernel
theorem dX9_demandTable_5 : decode cX9_demandTable 5 = .ok (.aload_n 0, 1) := by decide +kernel
theorem dX9_demandTable_6 : decode cX9_demandTable 6 = .ok (.getfield 12, 3) := by decide +kernel
theorem dX9_demandTable_9 : decode cX9_demandTable 9 = .ok (.invokevirtual 59, 3) := by decide +kernel
theorem dX9_demandTable_12 : decode cX9_demandTable 12 = .ok (.if_icmp .lt 14, 3) := by decide +kernel
theorem dX9_demandTable_15 : decode cX9_demandTable 15 = .ok (.new 275, 3) := by decide +kernel
theorem dX9_demandTable_18 : decode cX9_demandTable 18 = .ok (.dup, 1) := by decide +kernel
theorem dX9_demandTable_19 : decode cX9_demandTable 19 = .ok (.ldc_w 277, 3) := by decide +kernel
theorem dX9_demandTable_22 : decode cX9_demandTable 22 = .ok (.invokespecial 279, 3) := by decide +kernel
theorem dX9_demandTable_25 : decode cX9_demandTable 25 = .ok (.athrow, 1) := by decide +kernel
theorem dX9_demandTable_26 : decode cX9_demandTable 26 = .ok (.aload_n 0, 1) := by decide +kernel
theorem dX9_demandTable_27 : decode cX9_demandTable 27 = .ok (.getfield 12, 3) := by decide +kernel
theorem dX9_demandTable_30 : decode cX9_demandTable 30 = .ok (.iload_n 1, 1) := by decide +kernel
theorem dX9_demandTable_31 : decode cX9_demandTable 31 = .ok (.invokevirtual 166, 3) := by decide +kernel
theorem dX9_demandTable_34 : decode cX9_demandTable 34 = .ok (.checkcast 70, 3) := by decide +kernel
theorem dX9_demandTable_37 : decode cX9_demandTable 37 = .ok (.areturn, 1) := by decide +kernel
set_option maxRecDepth 20000 in
theorem ggX9_demandBumper_Jx4a65c_size_8abf5 : GoodIn wsX9_demandBumper wsJx4a65c_size_8abf5 := goodIn_r _ [9, 10, 36, 37, 38] (by decide +kernel) (by decide +kernel)
set_option maxRecDepth 20000 in
theorem gX9_demandBumper_Jx4a65c_size_8abf5 : GoodIn wsX9_demandBumper (wsV RX9 59 RJx4a65c yJx4a65c_size_8abf5 wsJx4a65c_size_8abf5) := goodIn_app (goodIn_of _ (by decide +kernel)) ggX9_demandBumper_Jx4a65c_size_8abf5
set_option maxRecDepth 20000 in
theorem ggX9_demandBumper_Jx4a65c_get_915e3 : GoodIn wsX9_demandBumper wsJx4a65c_get_915e3 := goodIn_r _ [14, 10, 15, 16, 17, 18, 19, 20, 21, 22, 23, 24, 25, 8, 26, 27, 36, 37, 38] (by decide +kernel) (by decide +kernel)
set_option maxRecDepth 20000 in
theorem gX9_demandBumper_Jx4a65c_get_915e3 : GoodIn wsX9_demandBumper (wsV RX9 166 RJx4a65c yJx4a65c_get_915e3 wsJx4a65c_get_915e3) := goodIn_app (goodIn_of _ (by decide +kernel)) ggX9_demandBumper_Jx4a65c_get_915e3
theorem dX9_demandBumper_0 : decode cX9_demandBumper 0 = .ok (.iload_n 1, 1) := by decide +kernel
theorem dX9_demandBumper_1 : decode cX9_demandBumper 1 = .ok (.ifCond .lt 14, 3) := by decide +kernel
theorem dX9_demandBumper_4 : decode cX9_demandBumper 4 = .ok (.iload_n 1, 1) := by decide +kernel
theorem dX9_demandBumper_5 : decode cX9_demandBumper 5 = .ok (.aload_n 0, 1) := by decide +kernel
theorem dX9_demandBumper_6 : decode cX9_demandBumper 6 = .ok (.getfield 87, 3) := by decide +kernel
theorem dX9_demandBumper_9 : decode cX9_demandBumper 9 = .ok (.invokevirtual 59, 3) := by decide +kernel
theorem dX9_demandBumper_12 : decode cX9_demandBumper 12 = .ok (.if_icmp .lt 14, 3) := by decide +kernel
theorem dX9_demandBumper_15 : decode cX9_demandBumper 15 = .ok (.new 275, 3) := by decide +kernel
theorem dX9_demandBumper_18 : decode cX9_demandBumper 18 = .ok (.dup, 1) := by decide +kernel
theorem dX9_demandBumper_19 : decode cX9_demandBumper 19 = .ok (.ldc_w 280, 3) := by decide +kernel
theorem dX9_demandBumper_22 : decode cX9_demandBumper 22 = .ok (.invokespecial 279, 3) := by decide +kernel
theorem dX9_demandBumper_25 : decode cX9_demandBumper 25 = .ok (.athrow, 1) := by decide +kernel
theorem dX9_demandBumper_26 : decode cX9_demandBumper 26 = .ok (.aload_n 0, 1) := by decide +kernel
theorem dX9_demandBumper_27 : decode cX9_demandBumper 27 = .ok (.getfield 87, 3) := by decide +kernel
theorem dX9_demandBumper_30 : decode cX9_demandBumper 30 = .ok (.iload_n 1, 1) := by decide +kernel
theorem dX9_demandBumper_31 : decode cX9_demandBumper 31 = .ok (.invokevirtual 166, 3) := by decide +kernel
theorem dX9_demandBumper_34 : decode cX9_demandBumper 34 = .ok (.checkcast 92, 3) := by decide +kernel
theorem dX9_demandBumper_37 : decode cX9_demandBumper 37 = .ok (.areturn, 1) := by decide +kernel
set_option maxRecDepth 20000 in
theorem ggX9_demandGame_Jx4a65c_size_8abf5 : GoodIn wsX9_demandGame wsJx4a65c_size_8abf5 := goodIn_r _ [9, 10, 37, 38, 39] (by decide +kernel) (by decide +kernel)
set_option maxRecDepth 20000 in
theorem gX9_demandGame_Jx4a65c_size_8abf5 : GoodIn wsX9_demandGame (wsV RX9 59 RJx4a65c yJx4a65c_size_8abf5 wsJx4a65c_size_8abf5) := goodIn_app (goodIn_of _ (by decide +kernel)) ggX9_demandGame_Jx4a65c_size_8abf5
set_option maxRecDepth 20000 in
theorem ggX9_demandGame_Jx4a65c_get_915e3 : GoodIn wsX9_demandGame wsJx4a65c_get_915e3 := goodIn_r _ [14, 10, 15, 16, 17, 18, 19, 20, 21, 22, 23, 24, 25, 8, 26, 27, 37, 38, 39] (by decide +kernel) (by decide +kernel)
set_option maxRecDepth 20000 in
theorem gX9_demandGame_Jx4a65c_get_915e3 : GoodIn wsX9_demandGame (wsV RX9 166 RJx4a65c yJx4a65c_get_915e3 wsJx4a65c_get_915e3) := goodIn_app (goodIn_of _ (by decide +kernel)) ggX9_demandGame_Jx4a65c_get_915e3
theorem dX9_demandGame_0 : decode cX9_demandGame 0 = .ok (.iload_n 1, 1) := by decide +kernel
theorem dX9_demandGame_1 : decode cX9_demandGame 1 = .ok (.ifCond .lt 14, 3) := by decide +kernel
theorem dX9_demandGame_4 : decode cX9_demandGame 4 = .ok (.iload_n 1, 1) := by decide +kernel
theorem dX9_demandGame_5 : decode cX9_demandGame 5 = .ok (.aload_n 0, 1) := by decide +kernel
theorem dX9_demandGame_6 : decode cX9_demandGame 6 = .ok (.getfield 16, 3) := by decide +kernel
theorem dX9_demandGame_9 : decode cX9_demandGame 9 = .ok (.invokevirtual 59, 3) := by decide +kernel
theorem dX9_demandGame_12 : decode cX9_demandGame 12 = .ok (.if_icmp .lt 14, 3) := by decide +kernel
theorem dX9_demandGame_15 : decode cX9_demandGame 15 = .ok (.new 275, 3) := by decide +kernel
theorem dX9_demandGame_18 : decode cX9_demandGame 18 = .ok (.dup, 1) := by decide +kernel
theorem dX9_demandGame_19 : decode cX9_demandGame 19 = .ok (.ldc_w 282, 3) := by decide +kernel
theorem dX9_demandGame_22 : decode cX9_demandGame 22 = .ok (.invokespecial 279, 3) := by decide +kernel
theorem dX9_demandGame_25 : decode cX9_demandGame 25 = .ok (.athrow, 1) := by decide +kernel
theorem dX9_demandGame_26 : decode cX9_demandGame 26 = .ok (.aload_n 0, 1) := by decide +kernel
theorem dX9_demandGame_27 : decode cX9_demandGame 27 = .ok (.getfield 16, 3) := by decide +kernel
theorem dX9_demandGame_30 : decode cX9_demandGame 30 = .ok (.iload_n 1, 1) := by decide +kernel
theorem dX9_demandGame_31 : decode cX9_demandGame 31 = .ok (.invokevirtual 166, 3) := by decide +kernel
theorem dX9_demandGame_34 : decode cX9_demandGame 34 = .ok (.checkcast 143, 3) := by decide +kernel
theorem dX9_demandGame_37 : decode cX9_demandGame 37 = .ok (.areturn, 1) := by decide +kernel
theorem dX9_demandVan_0 : decode cX9_demandVan 0 = .ok (.iload_n 1, 1) := by decide +kernel
theorem dX9_demandVan_1 : decode cX9_demandVan 1 = .ok (.ifCond .eq 19, 3) := by decide +kernel
theorem dX9_demandVan_4 : decode cX9_demandVan 4 = .ok (.iload_n 1, 1) := by decide +kernel
theorem dX9_demandVan_5 : decode cX9_demandVan 5 = .ok (.iconst 1, 1) := by decide +kernel
theorem dX9_demandVan_6 : decode cX9_demandVan 6 = .ok (.if_icmp .eq 14, 3) := by decide +kernel
theorem dX9_demandVan_9 : decode cX9_demandVan 9 = .ok (.new 275, 3) := by decide +kernel
theorem dX9_demandVan_12 : decode cX9_demandVan 12 = .ok (.dup, 1) := by decide +kernel
theorem dX9_demandVan_13 : decode cX9_demandVan 13 = .ok (.ldc_w 284, 3) := by decide +kernel
theorem dX9_demandVan_16 : decode cX9_demandVan 16 = .ok (.invokespecial 279, 3) := by decide +kernel
theorem dX9_demandVan_19 : decode cX9_demandVan 19 = .ok (.athrow, 1) := by decide +kernel
theorem dX9_demandVan_20 : decode cX9_demandVan 20 = .ok (.iload_n 1, 1) := by decide +kernel
theorem dX9_demandVan_21 : decode cX9_demandVan 21 = .ok (.ifCond .ne 10, 3) := by decide +kernel
theorem dX9_demandVan_24 : decode cX9_demandVan 24 = .ok (.aload_n 0, 1) := by decide +kernel
theorem dX9_demandVan_25 : decode cX9_demandVan 25 = .ok (.getfield 22, 3) := by decide +kernel
theorem dX9_demandVan_28 : decode cX9_demandVan 28 = .ok (.goto 7, 3) := by decide +kernel
theorem dX9_demandVan_31 : decode cX9_demandVan 31 = .ok (.aload_n 0, 1) := by decide +kernel
theorem dX9_demandVan_32 : decode cX9_demandVan 32 = .ok (.getfield 26, 3) := by decide +kernel
theorem dX9_demandVan_35 : decode cX9_demandVan 35 = .ok (.areturn, 1) := by decide +kernel
theorem dX9_demandIndex_0 : decode cX9_demandIndex 0 = .ok (.iload_n 0, 1) := by decide +kernel
theorem dX9_demandIndex_1 : decode cX9_demandIndex 1 = .ok (.ifCond .lt 8, 3) := by decide +kernel
theorem dX9_demandIndex_4 : decode cX9_demandIndex 4 = .ok (.iload_n 0, 1) := by decide +kernel
theorem dX9_demandIndex_5 : decode cX9_demandIndex 5 = .ok (.iload_n 1, 1) := by decide +kernel
theorem dX9_demandIndex_6 : decode cX9_demandIndex 6 = .ok (.if_icmp .lt 14, 3) := by decide +kernel
theorem dX9_demandIndex_9 : decode cX9_demandIndex 9 = .ok (.new 275, 3) := by decide +kernel
theorem dX9_demandIndex_12 : decode cX9_demandIndex 12 = .ok (.dup, 1) := by decide +kernel
theorem dX9_demandIndex_13 : decode cX9_demandIndex 13 = .ok (.ldc_w 286, 3) := by decide +kernel
theorem dX9_demandIndex_16 : decode cX9_demandIndex 16 = .ok (.invokespecial 279, 3) := by decide +kernel
theorem dX9_demandIndex_19 : decode cX9_demandIndex 19 = .ok (.athrow, 1) := by decide +kernel
theorem dX9_demandIndex_20 : decode cX9_demandIndex 20 = .ok (.return_, 1) := by decide +kernel
theorem dX9_demandRange_0 : decode cX9_demandRange 0 = .ok (.iload_n 0, 1) := by decide +kernel
theorem dX9_demandRange_1 : decode cX9_demandRange 1 = .ok (.iload_n 1, 1) := by decide +kernel
theorem dX9_demandRange_2 : decode cX9_demandRange 2 = .ok (.if_icmp .lt 8, 3) := by decide +kernel
theorem dX9_demandRange_5 : decode cX9_demandRange 5 = .ok (.iload_n 0, 1) := by decide +kernel
theorem dX9_demandRange_6 : decode cX9_demandRange 6 = .ok (.iload_n 2, 1) := by decide +kernel
theorem dX9_demandRange_7 : decode cX9_demandRange 7 = .ok (.if_icmp .le 14, 3) := by decide +kernel
theorem dX9_demandRange_10 : decode cX9_demandRange 10 = .ok (.new 288, 3) := by decide +kernel
theorem dX9_demandRange_13 : decode cX9_demandRange 13 = .ok (.dup, 1) := by decide +kernel
theorem dX9_demandRange_14 : decode cX9_demandRange 14 = .ok (.ldc_w 290, 3) := by decide +kernel
theorem dX9_demandRange_17 : decode cX9_demandRange 17 = .ok (.invokespecial 292, 3) := by decide +kernel
theorem dX9_demandRange_20 : decode cX9_demandRange 20 = .ok (.athrow, 1) := by decide +kernel
theorem dX9_demandRange_21 : decode cX9_demandRange 21 = .ok (.return_, 1) := by decide +kernel
theorem dX9_demandLeast_0 : decode cX9_demandLeast 0 = .ok (.iload_n 0, 1) := by decide +kernel
theorem dX9_demandLeast_1 : decode cX9_demandLeast 1 = .ok (.iload_n 1, 1) := by decide +kernel
theorem dX9_demandLeast_2 : decode cX9_demandLeast 2 = .ok (.if_icmp .ge 14, 3) := by decide +kernel
theorem dX9_demandLeast_5 : decode cX9_demandLeast 5 = .ok (.new 288, 3) := by decide +kernel
theorem dX9_demandLeast_8 : decode cX9_demandLeast 8 = .ok (.dup, 1) := by decide +kernel
theorem dX9_demandLeast_9 : decode cX9_demandLeast 9 = .ok (.ldc_w 293, 3) := by decide +kernel
theorem dX9_demandLeast_12 : decode cX9_demandLeast 12 = .ok (.invokespecial 292, 3) := by decide +kernel
theorem dX9_demandLeast_15 : decode cX9_demandLeast 15 = .ok (.athrow, 1) := by decide +kernel
theorem dX9_demandLeast_16 : decode cX9_demandLeast 16 = .ok (.return_, 1) := by decide +kernel
theorem dX9_demandNoGame_0 : decode cX9_demandNoGame 0 = .ok (.aload_n 0, 1) := by decide +kernel
theorem dX9_demandNoGame_1 : decode cX9_demandNoGame 1 = .ok (.getfield 152, 3) := by decide +kernel
theorem dX9_demandNoGame_4 : decode cX9_demandNoGame 4 = .ok (.iconst (-1), 1) := by decide +kernel
theorem dX9_demandNoGame_5 : decode cX9_demandNoGame 5 = .ok (.if_icmp .eq 14, 3) := by decide +kernel
theorem dX9_demandNoGame_8 : decode cX9_demandNoGame 8 = .ok (.new 63, 3) := by decide +kernel
theorem dX9_demandNoGame_11 : decode cX9_demandNoGame 11 = .ok (.dup, 1) := by decide +kernel
theorem dX9_demandNoGame_12 : decode cX9_demandNoGame 12 = .ok (.ldc_w 295, 3) := by decide +kernel
theorem dX9_demandNoGame_15 : decode cX9_demandNoGame 15 = .ok (.invokespecial 67, 3) := by decide +kernel
theorem dX9_demandNoGame_18 : decode cX9_demandNoGame 18 = .ok (.athrow, 1) := by decide +kernel
theorem dX9_demandNoGame_19 : decode cX9_demandNoGame 19 = .ok (.return_, 1) := by decide +kernel
set_option maxRecDepth 20000 in
theorem ggX9_runBall_X0_isOut : GoodIn wsX9_runBall wsX0_isOut := goodIn_r _ [5, 6, 140, 141, 142, 143] (by decide +kernel) (by decide +kernel)
set_option maxRecDepth 20000 in
theorem gX9_runBall_X0_isOut : GoodIn wsX9_runBall (wsV RX9 297 RX0 yX0_isOut wsX0_isOut) := goodIn_app (goodIn_of _ (by decide +kernel)) ggX9_runBall_X0_isOut
set_option maxRecDepth 20000 in
theorem ggX9_runBall_X0_fall : GoodIn wsX9_runBall wsX0_fall := goodIn_r _ [10, 11, 12, 13, 14, 15, 140, 141, 142, 143] (by decide +kernel) (by decide +kernel)
set_option maxRecDepth 20000 in
theorem gX9_runBall_X0_fall : GoodIn wsX9_runBall (wsV RX9 300 RX0 yX0_fall wsX0_fall) := goodIn_app (goodIn_of _ (by decide +kernel)) ggX9_runBall_X0_fall
set_option maxRecDepth 20000 in
theorem ggX9_runBall_X0_moveAcross : GoodIn wsX9_runBall wsX0_moveAcross := goodIn_r _ [19, 20, 21, 6, 22, 23, 24, 25, 26, 27, 28, 29, 30, 31, 32, 33, 34, 35, 36, 37, 38, 39, 40, 41, 42, 43, 44, 45, 46, 47, 48, 49, 50, 51, 52, 53, 54, 55, 56, 57, 58, 59, 60, 61, 62, 63, 64, 65, 66, 67, 68, 69, 70, 14, 71, 72, 73, 13, 15, 74, 75, 76, 77, 78, 140, 141, 142, 143, 144, 145, 146, 147, 148, 149, 150, 151, 152, 153, 154, 155, 156, 157, 158, 159, 160, 161] (by decide +kernel) (by decide +kernel)
set_option maxRecDepth 20000 in
theorem gX9_runBall_X0_moveAcross : GoodIn wsX9_runBall (wsV RX9 303 RX0 yX0_moveAcross wsX0_moveAcross) := goodIn_app (goodIn_of _ (by decide +kernel)) ggX9_runBall_X0_moveAcross
set_option maxRecDepth 20000 in
theorem ggX9_runBall_X0_moveDownwards : GoodIn wsX9_runBall wsX0_moveDownwards := goodIn_r _ [82, 6, 11, 20, 22, 23, 83, 2, 3, 4, 5, 24, 25, 26, 27, 28, 29, 30, 31, 32, 33, 34, 35, 36, 37, 38, 39, 40, 41, 42, 43, 44, 45, 46, 47, 48, 49, 50, 51, 52, 53, 54, 55, 56, 57, 58, 59, 60, 61, 62, 63, 64, 65, 66, 67, 68, 69, 70, 14, 71, 72, 73, 13, 15, 74, 75, 76, 77, 78, 140, 141, 142, 143, 144, 145, 146, 147, 148, 149, 150, 151, 152, 153, 154, 155, 156, 157, 158, 159, 160, 161] (by decide +kernel) (by decide +kernel)
set_option maxRecDepth 20000 in
theorem gX9_runBall_X0_moveDownwards : GoodIn wsX9_runBall (wsV RX9 307 RX0 yX0_moveDownwards wsX0_moveDownwards) := goodIn_app (goodIn_of _ (by decide +kernel)) ggX9_runBall_X0_moveDownwards
set_option maxRecDepth 20000 in
theorem ggX9_runBall_X9_hitBumper : GoodIn wsX9_runBall wsX9_hitBumper := goodIn_r _ [87, 88, 89, 90, 91, 92, 32, 33, 34, 35, 36, 93, 38, 39, 40, 41, 42, 43, 44, 45, 46, 47, 48, 49, 50, 51, 52, 53, 94, 95, 96, 97, 98, 99, 100, 101, 102, 103, 104, 105, 106, 107, 108, 109, 110, 111, 112, 113, 114, 115, 116, 117, 118, 119, 120, 121, 122, 123, 124, 125, 126, 127, 128, 129, 130, 131, 132, 133, 134, 135, 136, 144, 145, 146, 147, 148, 149, 150, 151, 155, 156, 157, 158, 159, 160, 161, 152, 153, 154, 162, 163, 164, 165, 166, 167, 168, 169, 170, 171, 172, 173, 174, 175, 176, 177, 178] (by decide +kernel) (by decide +kernel)
set_option maxRecDepth 20000 in
theorem gX9_runBall_X9_hitBumper : GoodIn wsX9_runBall (va_wsS RX9 310 yX9_hitBumper wsX9_hitBumper) := goodIn_app (goodIn_of _ (by decide +kernel)) ggX9_runBall_X9_hitBumper
set_option maxRecDepth 20000 in
theorem ggX9_runBall_X9_closeSticking : GoodIn wsX9_runBall wsX9_closeSticking := goodIn_r _ [139, 88, 89, 91, 92, 32, 33, 34, 35, 36, 93, 38, 39, 40, 41, 42, 43, 44, 45, 46, 47, 48, 49, 50, 51, 52, 53, 94, 95, 96, 97, 98, 99, 100, 101, 102, 103, 104, 105, 106, 107, 108, 109, 110, 111, 112, 113, 114, 115, 116, 117, 118, 119, 120, 121, 122, 123, 124, 125, 126, 127, 128, 129, 130, 131, 132, 133, 134, 135, 136, 144, 145, 146, 147, 148, 149, 150, 151, 155, 156, 157, 158, 159, 160, 161, 152, 153, 154, 162, 163, 164, 165, 166, 167, 168, 169, 170, 171, 172, 173, 174, 175, 176, 177, 178] (by decide +kernel) (by decide +kernel)
set_option maxRecDepth 20000 in
theorem gX9_runBall_X9_closeSticking : GoodIn wsX9_runBall (va_wsS RX9 314 yX9_closeSticking wsX9_closeSticking) := goodIn_app (goodIn_of _ (by decide +kernel)) ggX9_runBall_X9_closeSticking
theorem dX9_runBall_0 : decode cX9_runBall 0 = .ok (.iconst 1, 1) := by decide +kernel
theorem dX9_runBall_1 : decode cX9_runBall 1 = .ok (.istore_n 3, 1) := by decide +kernel
theorem dX9_runBall_2 : decode cX9_runBall 2 = .ok (.iload_n 3, 1) := by decide +kernel
theorem dX9_runBall_3 : decode cX9_runBall 3 = .ok (.sipush 300, 3) := by decide +kernel
theorem dX9_runBall_6 : decode cX9_runBall 6 = .ok (.if_icmp .gt 63, 3) := by decide +kernel
theorem dX9_runBall_9 : decode cX9_runBall 9 = .ok (.aload_n 2, 1) := by decide +kernel
theorem dX9_runBall_10 : decode cX9_runBall 10 = .ok (.invokevirtual 297, 3) := by decide +kernel
theorem dX9_runBall_13 : decode cX9_runBall 13 = .ok (.ifCond .ne 56, 3) := by decide +kernel
theorem dX9_runBall_16 : decode cX9_runBall 16 = .ok (.aload_n 2, 1) := by decide +kernel
theorem dX9_runBall_17 : decode cX9_runBall 17 = .ok (.invokevirtual 300, 3) := by decide +kernel
theorem dX9_runBall_20 : decode cX9_runBall 20 = .ok (.aload_n 2, 1) := by decide +kernel
theorem dX9_runBall_21 : decode cX9_runBall 21 = .ok (.aload_n 0, 1) := by decide +kernel
theorem dX9_runBall_22 : decode cX9_runBall 22 = .ok (.invokevirtual 303, 3) := by decide +kernel
theorem dX9_runBall_25 : decode cX9_runBall 25 = .ok (.istore 4, 2) := by decide +kernel
theorem dX9_runBall_27 : decode cX9_runBall 27 = .ok (.aload_n 2, 1) := by decide +kernel
theorem dX9_runBall_28 : decode cX9_runBall 28 = .ok (.aload_n 0, 1) := by decide +kernel
theorem dX9_runBall_29 : decode cX9_runBall 29 = .ok (.invokevirtual 307, 3) := by decide +kernel
theorem dX9_runBall_32 : decode cX9_runBall 32 = .ok (.istore 5, 2) := by decide +kernel
theorem dX9_runBall_34 : decode cX9_runBall 34 = .ok (.aload_n 0, 1) := by decide +kernel
theorem dX9_runBall_35 : decode cX9_runBall 35 = .ok (.aload_n 1, 1) := by decide +kernel
theorem dX9_runBall_36 : decode cX9_runBall 36 = .ok (.iload 4, 2) := by decide +kernel
theorem dX9_runBall_38 : decode cX9_runBall 38 = .ok (.iload_n 3, 1) := by decide +kernel
theorem dX9_runBall_39 : decode cX9_runBall 39 = .ok (.invokestatic 310, 3) := by decide +kernel
theorem dX9_runBall_42 : decode cX9_runBall 42 = .ok (.aload_n 0, 1) := by decide +kernel
theorem dX9_runBall_43 : decode cX9_runBall 43 = .ok (.aload_n 1, 1) := by decide +kernel
theorem dX9_runBall_44 : decode cX9_runBall 44 = .ok (.iload 5, 2) := by decide +kernel
theorem dX9_runBall_46 : decode cX9_runBall 46 = .ok (.iload_n 3, 1) := by decide +kernel
theorem dX9_runBall_47 : decode cX9_runBall 47 = .ok (.invokestatic 310, 3) := by decide +kernel
theorem dX9_runBall_50 : decode cX9_runBall 50 = .ok (.iload_n 3, 1) := by decide +kernel
theorem dX9_runBall_51 : decode cX9_runBall 51 = .ok (.bipush 10, 2) := by decide +kernel
theorem dX9_runBall_53 : decode cX9_runBall 53 = .ok (.irem, 1) := by decide +kernel
theorem dX9_runBall_54 : decode cX9_runBall 54 = .ok (.ifCond .ne 9, 3) := by decide +kernel
theorem dX9_runBall_57 : decode cX9_runBall 57 = .ok (.aload_n 0, 1) := by decide +kernel
theorem dX9_runBall_58 : decode cX9_runBall 58 = .ok (.aload_n 1, 1) := by decide +kernel
theorem dX9_runBall_59 : decode cX9_runBall 59 = .ok (.iload_n 3, 1) := by decide +kernel
theorem dX9_runBall_60 : decode cX9_runBall 60 = .ok (.invokestatic 314, 3) := by decide +kernel
theorem dX9_runBall_63 : decode cX9_runBall 63 = .ok (.iinc 3 1, 3) := by decide +kernel
theorem dX9_runBall_66 : decode cX9_runBall 66 = .ok (.goto (-64), 3) := by decide +kernel
theorem dX9_runBall_69 : decode cX9_runBall 69 = .ok (.return_, 1) := by decide +kernel
set_option maxRecDepth 20000 in
theorem ggX9_hitBumper_Jx4a65c_size_8abf5 : GoodIn wsX9_hitBumper wsJx4a65c_size_8abf5 := goodIn_r _ [9, 10, 86, 87, 88] (by decide +kernel) (by decide +kernel)
set_option maxRecDepth 20000 in
theorem gX9_hitBumper_Jx4a65c_size_8abf5 : GoodIn wsX9_hitBumper (wsV RX9 59 RJx4a65c yJx4a65c_size_8abf5 wsJx4a65c_size_8abf5) := goodIn_app (goodIn_of _ (by decide +kernel)) ggX9_hitBumper_Jx4a65c_size_8abf5
set_option maxRecDepth 20000 in
theorem ggX9_hitBumper_Jx4a65c_get_915e3 : GoodIn wsX9_hitBumper wsJx4a65c_get_915e3 := goodIn_r _ [14, 10, 15, 16, 17, 18, 19, 20, 21, 22, 23, 24, 25, 8, 26, 27, 86, 87, 88] (by decide +kernel) (by decide +kernel)
set_option maxRecDepth 20000 in
theorem gX9_hitBumper_Jx4a65c_get_915e3 : GoodIn wsX9_hitBumper (wsV RX9 166 RJx4a65c yJx4a65c_get_915e3 wsJx4a65c_get_915e3) := goodIn_app (goodIn_of _ (by decide +kernel)) ggX9_hitBumper_Jx4a65c_get_915e3
set_option maxRecDepth 20000 in
theorem ggX9_hitBumper_X2_closeSwitch : GoodIn wsX9_hitBumper wsX2_closeSwitch := goodIn_r _ [32, 33, 34, 35, 36, 37, 38, 39, 40, 41, 42, 43, 44, 45, 46, 47, 48, 49, 50, 51, 52, 53, 54, 55, 56, 57, 58, 59, 60, 61, 62, 63, 64, 65, 66, 67, 68, 69, 70, 89, 90, 91, 92, 93, 94, 95, 96, 97, 98, 99, 100, 101, 102, 103, 104, 105] (by decide +kernel) (by decide +kernel)
set_option maxRecDepth 20000 in
theorem gX9_hitBumper_X2_closeSwitch : GoodIn wsX9_hitBumper (wsV RX9 318 RX2 yX2_closeSwitch wsX2_closeSwitch) := goodIn_app (goodIn_of _ (by decide +kernel)) ggX9_hitBumper_X2_closeSwitch
theorem dX9_hitBumper_0 : decode cX9_hitBumper 0 = .ok (.iload_n 2, 1) := by decide +kernel
theorem dX9_hitBumper_1 : decode cX9_hitBumper 1 = .ok (.ifCond .lt 14, 3) := by decide +kernel
theorem dX9_hitBumper_4 : decode cX9_hitBumper 4 = .ok (.iload_n 2, 1) := by decide +kernel
theorem dX9_hitBumper_5 : decode cX9_hitBumper 5 = .ok (.aload_n 0, 1) := by decide +kernel
theorem dX9_hitBumper_6 : decode cX9_hitBumper 6 = .ok (.getfield 87, 3) := by decide +kernel
theorem dX9_hitBumper_9 : decode cX9_hitBumper 9 = .ok (.invokevirtual 59, 3) := by decide +kernel
theorem dX9_hitBumper_12 : decode cX9_hitBumper 12 = .ok (.if_icmp .lt 4, 3) := by decide +kernel
theorem dX9_hitBumper_15 : decode cX9_hitBumper 15 = .ok (.return_, 1) := by decide +kernel
theorem dX9_hitBumper_16 : decode cX9_hitBumper 16 = .ok (.aload_n 0, 1) := by decide +kernel
theorem dX9_hitBumper_17 : decode cX9_hitBumper 17 = .ok (.getfield 87, 3) := by decide +kernel
theorem dX9_hitBumper_20 : decode cX9_hitBumper 20 = .ok (.iload_n 2, 1) := by decide +kernel
theorem dX9_hitBumper_21 : decode cX9_hitBumper 21 = .ok (.invokevirtual 166, 3) := by decide +kernel
theorem dX9_hitBumper_24 : decode cX9_hitBumper 24 = .ok (.checkcast 92, 3) := by decide +kernel
theorem dX9_hitBumper_27 : decode cX9_hitBumper 27 = .ok (.astore 4, 2) := by decide +kernel
theorem dX9_hitBumper_29 : decode cX9_hitBumper 29 = .ok (.aload 4, 2) := by decide +kernel
theorem dX9_hitBumper_31 : decode cX9_hitBumper 31 = .ok (.dup, 1) := by decide +kernel
theorem dX9_hitBumper_32 : decode cX9_hitBumper 32 = .ok (.getfield 138, 3) := by decide +kernel
theorem dX9_hitBumper_35 : decode cX9_hitBumper 35 = .ok (.iconst 1, 1) := by decide +kernel
theorem dX9_hitBumper_36 : decode cX9_hitBumper 36 = .ok (.iadd, 1) := by decide +kernel
theorem dX9_hitBumper_37 : decode cX9_hitBumper 37 = .ok (.putfield 138, 3) := by decide +kernel
theorem dX9_hitBumper_40 : decode cX9_hitBumper 40 = .ok (.aload 4, 2) := by decide +kernel
theorem dX9_hitBumper_42 : decode cX9_hitBumper 42 = .ok (.getfield 131, 3) := by decide +kernel
theorem dX9_hitBumper_45 : decode cX9_hitBumper 45 = .ok (.iconst (-1), 1) := by decide +kernel
theorem dX9_hitBumper_46 : decode cX9_hitBumper 46 = .ok (.if_icmp .ne 10, 3) := by decide +kernel
theorem dX9_hitBumper_49 : decode cX9_hitBumper 49 = .ok (.aload_n 1, 1) := by decide +kernel
theorem dX9_hitBumper_50 : decode cX9_hitBumper 50 = .ok (.iload_n 2, 1) := by decide +kernel
theorem dX9_hitBumper_51 : decode cX9_hitBumper 51 = .ok (.iload_n 3, 1) := by decide +kernel
theorem dX9_hitBumper_52 : decode cX9_hitBumper 52 = .ok (.iconst (-1), 1) := by decide +kernel
theorem dX9_hitBumper_53 : decode cX9_hitBumper 53 = .ok (.invokevirtual 318, 3) := by decide +kernel
theorem dX9_hitBumper_56 : decode cX9_hitBumper 56 = .ok (.return_, 1) := by decide +kernel
set_option maxRecDepth 20000 in
theorem ggX9_closeSticking_Jx4a65c_size_8abf5 : GoodIn wsX9_closeSticking wsJx4a65c_size_8abf5 := goodIn_r _ [8, 9, 85, 86, 87] (by decide +kernel) (by decide +kernel)
set_option maxRecDepth 20000 in
theorem gX9_closeSticking_Jx4a65c_size_8abf5 : GoodIn wsX9_closeSticking (wsV RX9 59 RJx4a65c yJx4a65c_size_8abf5 wsJx4a65c_size_8abf5) := goodIn_app (goodIn_of _ (by decide +kernel)) ggX9_closeSticking_Jx4a65c_size_8abf5
set_option maxRecDepth 20000 in
theorem ggX9_closeSticking_Jx4a65c_get_915e3 : GoodIn wsX9_closeSticking wsJx4a65c_get_915e3 := goodIn_r _ [13, 9, 14, 15, 16, 17, 18, 19, 20, 21, 22, 23, 24, 7, 25, 26, 85, 86, 87] (by decide +kernel) (by decide +kernel)
set_option maxRecDepth 20000 in
theorem gX9_closeSticking_Jx4a65c_get_915e3 : GoodIn wsX9_closeSticking (wsV RX9 166 RJx4a65c yJx4a65c_get_915e3 wsJx4a65c_get_915e3) := goodIn_app (goodIn_of _ (by decide +kernel)) ggX9_closeSticking_Jx4a65c_get_915e3
set_option maxRecDepth 20000 in
theorem ggX9_closeSticking_X2_closeSwitch : GoodIn wsX9_closeSticking wsX2_closeSwitch := goodIn_r _ [31, 32, 33, 34, 35, 36, 37, 38, 39, 40, 41, 42, 43, 44, 45, 46, 47, 48, 49, 50, 51, 52, 53, 54, 55, 56, 57, 58, 59, 60, 61, 62, 63, 64, 65, 66, 67, 68, 69, 88, 89, 90, 91, 92, 93, 94, 95, 96, 97, 98, 99, 100, 101, 102, 103, 104] (by decide +kernel) (by decide +kernel)
set_option maxRecDepth 20000 in
theorem gX9_closeSticking_X2_closeSwitch : GoodIn wsX9_closeSticking (wsV RX9 318 RX2 yX2_closeSwitch wsX2_closeSwitch) := goodIn_app (goodIn_of _ (by decide +kernel)) ggX9_closeSticking_X2_closeSwitch
theorem dX9_closeSticking_0 : decode cX9_closeSticking 0 = .ok (.iconst 0, 1) := by decide +kernel
theorem dX9_closeSticking_1 : decode cX9_closeSticking 1 = .ok (.istore_n 3, 1) := by decide +kernel
theorem dX9_closeSticking_2 : decode cX9_closeSticking 2 = .ok (.iload_n 3, 1) := by decide +kernel
theorem dX9_closeSticking_3 : decode cX9_closeSticking 3 = .ok (.aload_n 0, 1) := by decide +kernel
theorem dX9_closeSticking_4 : decode cX9_closeSticking 4 = .ok (.getfield 87, 3) := by decide +kernel
theorem dX9_closeSticking_7 : decode cX9_closeSticking 7 = .ok (.invokevirtual 59, 3) := by decide +kernel
theorem dX9_closeSticking_10 : decode cX9_closeSticking 10 = .ok (.if_icmp .ge 39, 3) := by decide +kernel
theorem dX9_closeSticking_13 : decode cX9_closeSticking 13 = .ok (.aload_n 0, 1) := by decide +kernel
theorem dX9_closeSticking_14 : decode cX9_closeSticking 14 = .ok (.getfield 87, 3) := by decide +kernel
theorem dX9_closeSticking_17 : decode cX9_closeSticking 17 = .ok (.iload_n 3, 1) := by decide +kernel
theorem dX9_closeSticking_18 : decode cX9_closeSticking 18 = .ok (.invokevirtual 166, 3) := by decide +kernel
theorem dX9_closeSticking_21 : decode cX9_closeSticking 21 = .ok (.checkcast 92, 3) := by decide +kernel
theorem dX9_closeSticking_24 : decode cX9_closeSticking 24 = .ok (.getfield 131, 3) := by decide +kernel
theorem dX9_closeSticking_27 : decode cX9_closeSticking 27 = .ok (.istore 4, 2) := by decide +kernel
theorem dX9_closeSticking_29 : decode cX9_closeSticking 29 = .ok (.iload 4, 2) := by decide +kernel
theorem dX9_closeSticking_31 : decode cX9_closeSticking 31 = .ok (.iconst (-1), 1) := by decide +kernel
theorem dX9_closeSticking_32 : decode cX9_closeSticking 32 = .ok (.if_icmp .eq 11, 3) := by decide +kernel
theorem dX9_closeSticking_35 : decode cX9_closeSticking 35 = .ok (.aload_n 1, 1) := by decide +kernel
theorem dX9_closeSticking_36 : decode cX9_closeSticking 36 = .ok (.iload_n 3, 1) := by decide +kernel
theorem dX9_closeSticking_37 : decode cX9_closeSticking 37 = .ok (.iload_n 2, 1) := by decide +kernel
theorem dX9_closeSticking_38 : decode cX9_closeSticking 38 = .ok (.iload 4, 2) := by decide +kernel
theorem dX9_closeSticking_40 : decode cX9_closeSticking 40 = .ok (.invokevirtual 318, 3) := by decide +kernel
theorem dX9_closeSticking_43 : decode cX9_closeSticking 43 = .ok (.iinc 3 1, 3) := by decide +kernel
theorem dX9_closeSticking_46 : decode cX9_closeSticking 46 = .ok (.goto (-44), 3) := by decide +kernel
theorem dX9_closeSticking_49 : decode cX9_closeSticking 49 = .ok (.return_, 1) := by decide +kernel
set_option maxRecDepth 20000 in
theorem ggX9_replayedScore_X5_restart : GoodIn wsX9_replayedScore wsX5_restart := goodIn_r _ [9, 10, 11, 77, 78, 79, 80] (by decide +kernel) (by decide +kernel)
set_option maxRecDepth 20000 in
theorem gX9_replayedScore_X5_restart : GoodIn wsX9_replayedScore (wsV RX9 321 RX5 yX5_restart wsX5_restart) := goodIn_app (goodIn_of _ (by decide +kernel)) ggX9_replayedScore_X5_restart
set_option maxRecDepth 20000 in
theorem ggX9_replayedScore_X2_entryOf : GoodIn wsX9_replayedScore wsX2_entryOf := goodIn_r _ [16, 17, 71, 72, 73, 74, 75, 76] (by decide +kernel) (by decide +kernel)
set_option maxRecDepth 20000 in
theorem gX9_replayedScore_X2_entryOf : GoodIn wsX9_replayedScore (wsV RX9 205 RX2 yX2_entryOf wsX2_entryOf) := goodIn_app (goodIn_of _ (by decide +kernel)) ggX9_replayedScore_X2_entryOf
set_option maxRecDepth 20000 in
theorem ggX9_replayedScore_X2_stickingIn : GoodIn wsX9_replayedScore wsX2_stickingIn := goodIn_r _ [20, 21] (by decide +kernel) (by decide +kernel)
set_option maxRecDepth 20000 in
theorem gX9_replayedScore_X2_stickingIn : GoodIn wsX9_replayedScore (va_wsS RX9 324 yX2_stickingIn wsX2_stickingIn) := goodIn_app (goodIn_of _ (by decide +kernel)) ggX9_replayedScore_X2_stickingIn
set_option maxRecDepth 20000 in
theorem ggX9_replayedScore_X9_isMended : GoodIn wsX9_replayedScore wsX9_isMended := goodIn_r _ [26, 27, 62, 63, 64, 65, 66, 67, 68, 69, 70] (by decide +kernel) (by decide +kernel)
set_option maxRecDepth 20000 in
theorem gX9_replayedScore_X9_isMended : GoodIn wsX9_replayedScore (wsV RX9 328 RX9 yX9_isMended wsX9_isMended) := goodIn_app (goodIn_of _ (by decide +kernel)) ggX9_replayedScore_X9_isMended
set_option maxRecDepth 20000 in
theorem ggX9_replayedScore_X2_switchIn : GoodIn wsX9_replayedScore wsX2_switchIn := goodIn_r _ [30, 31] (by decide +kernel) (by decide +kernel)
set_option maxRecDepth 20000 in
theorem gX9_replayedScore_X2_switchIn : GoodIn wsX9_replayedScore (va_wsS RX9 333 yX2_switchIn wsX2_switchIn) := goodIn_app (goodIn_of _ (by decide +kernel)) ggX9_replayedScore_X2_switchIn
set_option maxRecDepth 20000 in
theorem ggX9_replayedScore_X5_takeSwitch : GoodIn wsX9_replayedScore wsX5_takeSwitch := goodIn_r _ [35, 10, 36, 11, 37, 38, 39, 40, 41, 42, 43, 44, 45, 46, 47, 48, 49, 50, 51, 52, 53, 54, 55, 8, 56, 57, 58, 59, 60, 61, 77, 78, 79, 80, 81, 82, 83, 84, 85, 86, 87] (by decide +kernel) (by decide +kernel)
set_option maxRecDepth 20000 in
theorem gX9_replayedScore_X5_takeSwitch : GoodIn wsX9_replayedScore (wsV RX9 336 RX5 yX5_takeSwitch wsX5_takeSwitch) := goodIn_app (goodIn_of _ (by decide +kernel)) ggX9_replayedScore_X5_takeSwitch
theorem dX9_replayedScore_0 : decode cX9_replayedScore 0 = .ok (.aload_n 0, 1) := by decide +kernel
theorem dX9_replayedScore_1 : decode cX9_replayedScore 1 = .ok (.getfield 36, 3) := by decide +kernel
theorem dX9_replayedScore_4 : decode cX9_replayedScore 4 = .ok (.invokevirtual 321, 3) := by decide +kernel
theorem dX9_replayedScore_7 : decode cX9_replayedScore 7 = .ok (.iconst 0, 1) := by decide +kernel
theorem dX9_replayedScore_8 : decode cX9_replayedScore 8 = .ok (.istore_n 3, 1) := by decide +kernel
theorem dX9_replayedScore_9 : decode cX9_replayedScore 9 = .ok (.iload_n 3, 1) := by decide +kernel
theorem dX9_replayedScore_10 : decode cX9_replayedScore 10 = .ok (.aload_n 1, 1) := by decide +kernel
theorem dX9_replayedScore_11 : decode cX9_replayedScore 11 = .ok (.getfield 202, 3) := by decide +kernel
theorem dX9_replayedScore_14 : decode cX9_replayedScore 14 = .ok (.if_icmp .ge 48, 3) := by decide +kernel
theorem dX9_replayedScore_17 : decode cX9_replayedScore 17 = .ok (.aload_n 1, 1) := by decide +kernel
theorem dX9_replayedScore_18 : decode cX9_replayedScore 18 = .ok (.iload_n 3, 1) := by decide +kernel
theorem dX9_replayedScore_19 : decode cX9_replayedScore 19 = .ok (.invokevirtual 205, 3) := by decide +kernel
theorem dX9_replayedScore_22 : decode cX9_replayedScore 22 = .ok (.lstore 4, 2) := by decide +kernel
theorem dX9_replayedScore_24 : decode cX9_replayedScore 24 = .ok (.iload_n 2, 1) := by decide +kernel
theorem dX9_replayedScore_25 : decode cX9_replayedScore 25 = .ok (.ifCond .eq 15, 3) := by decide +kernel
theorem dX9_replayedScore_28 : decode cX9_replayedScore 28 = .ok (.aload_n 0, 1) := by decide +kernel
theorem dX9_replayedScore_29 : decode cX9_replayedScore 29 = .ok (.lload 4, 2) := by decide +kernel
theorem dX9_replayedScore_31 : decode cX9_replayedScore 31 = .ok (.invokestatic 324, 3) := by decide +kernel
theorem dX9_replayedScore_34 : decode cX9_replayedScore 34 = .ok (.invokevirtual 328, 3) := by decide +kernel
theorem dX9_replayedScore_37 : decode cX9_replayedScore 37 = .ok (.ifCond .ne 19, 3) := by decide +kernel
theorem dX9_replayedScore_40 : decode cX9_replayedScore 40 = .ok (.aload_n 0, 1) := by decide +kernel
theorem dX9_replayedScore_41 : decode cX9_replayedScore 41 = .ok (.getfield 36, 3) := by decide +kernel
theorem dX9_replayedScore_44 : decode cX9_replayedScore 44 = .ok (.aload_n 1, 1) := by decide +kernel
theorem dX9_replayedScore_45 : decode cX9_replayedScore 45 = .ok (.getfield 332, 3) := by decide +kernel
theorem dX9_replayedScore_48 : decode cX9_replayedScore 48 = .ok (.lload 4, 2) := by decide +kernel
theorem dX9_replayedScore_50 : decode cX9_replayedScore 50 = .ok (.invokestatic 333, 3) := by decide +kernel
theorem dX9_replayedScore_53 : decode cX9_replayedScore 53 = .ok (.invokevirtual 336, 3) := by decide +kernel
theorem dX9_replayedScore_56 : decode cX9_replayedScore 56 = .ok (.iinc 3 1, 3) := by decide +kernel
theorem dX9_replayedScore_59 : decode cX9_replayedScore 59 = .ok (.goto (-50), 3) := by decide +kernel
theorem dX9_replayedScore_62 : decode cX9_replayedScore 62 = .ok (.aload_n 0, 1) := by decide +kernel
theorem dX9_replayedScore_63 : decode cX9_replayedScore 63 = .ok (.getfield 36, 3) := by decide +kernel
theorem dX9_replayedScore_66 : decode cX9_replayedScore 66 = .ok (.getfield 173, 3) := by decide +kernel
theorem dX9_replayedScore_69 : decode cX9_replayedScore 69 = .ok (.ireturn, 1) := by decide +kernel
theorem dX9_isMended_0 : decode cX9_isMended 0 = .ok (.iload_n 1, 1) := by decide +kernel
theorem dX9_isMended_1 : decode cX9_isMended 1 = .ok (.ifCond .lt 25, 3) := by decide +kernel
theorem dX9_isMended_4 : decode cX9_isMended 4 = .ok (.iload_n 1, 1) := by decide +kernel
theorem dX9_isMended_5 : decode cX9_isMended 5 = .ok (.aload_n 0, 1) := by decide +kernel
theorem dX9_isMended_6 : decode cX9_isMended 6 = .ok (.getfield 29, 3) := by decide +kernel
theorem dX9_isMended_9 : decode cX9_isMended 9 = .ok (.arraylength, 1) := by decide +kernel
theorem dX9_isMended_10 : decode cX9_isMended 10 = .ok (.if_icmp .ge 16, 3) := by decide +kernel
theorem dX9_isMended_13 : decode cX9_isMended 13 = .ok (.aload_n 0, 1) := by decide +kernel
theorem dX9_isMended_14 : decode cX9_isMended 14 = .ok (.getfield 29, 3) := by decide +kernel
theorem dX9_isMended_17 : decode cX9_isMended 17 = .ok (.iload_n 1, 1) := by decide +kernel
theorem dX9_isMended_18 : decode cX9_isMended 18 = .ok (.baload, 1) := by decide +kernel
theorem dX9_isMended_19 : decode cX9_isMended 19 = .ok (.ifCond .eq 7, 3) := by decide +kernel
theorem dX9_isMended_22 : decode cX9_isMended 22 = .ok (.iconst 1, 1) := by decide +kernel
theorem dX9_isMended_23 : decode cX9_isMended 23 = .ok (.goto 4, 3) := by decide +kernel
theorem dX9_isMended_26 : decode cX9_isMended 26 = .ok (.iconst 0, 1) := by decide +kernel
theorem dX9_isMended_27 : decode cX9_isMended 27 = .ok (.ireturn, 1) := by decide +kernel
set_option maxRecDepth 20000 in
theorem ggX9_ranksAt_Jx4a65c_size_8abf5 : GoodIn wsX9_ranksAt wsJx4a65c_size_8abf5 := goodIn_r _ [8, 9, 48, 49, 50] (by decide +kernel) (by decide +kernel)
set_option maxRecDepth 20000 in
theorem gX9_ranksAt_Jx4a65c_size_8abf5 : GoodIn wsX9_ranksAt (wsV RX9 59 RJx4a65c yJx4a65c_size_8abf5 wsJx4a65c_size_8abf5) := goodIn_app (goodIn_of _ (by decide +kernel)) ggX9_ranksAt_Jx4a65c_size_8abf5
set_option maxRecDepth 20000 in
theorem ggX9_ranksAt_Jx4a65c_get_915e3 : GoodIn wsX9_ranksAt wsJx4a65c_get_915e3 := goodIn_r _ [13, 9, 14, 15, 16, 17, 18, 19, 20, 21, 22, 23, 24, 7, 25, 26, 48, 49, 50] (by decide +kernel) (by decide +kernel)
set_option maxRecDepth 20000 in
theorem gX9_ranksAt_Jx4a65c_get_915e3 : GoodIn wsX9_ranksAt (wsV RX9 166 RJx4a65c yJx4a65c_get_915e3 wsJx4a65c_get_915e3) := goodIn_app (goodIn_of _ (by decide +kernel)) ggX9_ranksAt_Jx4a65c_get_915e3
set_option maxRecDepth 20000 in
theorem ggX9_ranksAt_X2_isOver : GoodIn wsX9_ranksAt wsX2_isOver := goodIn_r _ [31, 32, 42, 43, 44, 45, 46, 47] (by decide +kernel) (by decide +kernel)
set_option maxRecDepth 20000 in
theorem gX9_ranksAt_X2_isOver : GoodIn wsX9_ranksAt (wsV RX9 187 RX2 yX2_isOver wsX2_isOver) := goodIn_app (goodIn_of _ (by decide +kernel)) ggX9_ranksAt_X2_isOver
theorem dX9_ranksAt_0 : decode cX9_ranksAt 0 = .ok (.iload_n 1, 1) := by decide +kernel
theorem dX9_ranksAt_1 : decode cX9_ranksAt 1 = .ok (.ifCond .lt 53, 3) := by decide +kernel
theorem dX9_ranksAt_4 : decode cX9_ranksAt 4 = .ok (.iload_n 1, 1) := by decide +kernel
theorem dX9_ranksAt_5 : decode cX9_ranksAt 5 = .ok (.aload_n 0, 1) := by decide +kernel
theorem dX9_ranksAt_6 : decode cX9_ranksAt 6 = .ok (.getfield 16, 3) := by decide +kernel
theorem dX9_ranksAt_9 : decode cX9_ranksAt 9 = .ok (.invokevirtual 59, 3) := by decide +kernel
theorem dX9_ranksAt_12 : decode cX9_ranksAt 12 = .ok (.if_icmp .ge 42, 3) := by decide +kernel
theorem dX9_ranksAt_15 : decode cX9_ranksAt 15 = .ok (.aload_n 0, 1) := by decide +kernel
theorem dX9_ranksAt_16 : decode cX9_ranksAt 16 = .ok (.getfield 16, 3) := by decide +kernel
theorem dX9_ranksAt_19 : decode cX9_ranksAt 19 = .ok (.iload_n 1, 1) := by decide +kernel
theorem dX9_ranksAt_20 : decode cX9_ranksAt 20 = .ok (.invokevirtual 166, 3) := by decide +kernel
theorem dX9_ranksAt_23 : decode cX9_ranksAt 23 = .ok (.checkcast 143, 3) := by decide +kernel
theorem dX9_ranksAt_26 : decode cX9_ranksAt 26 = .ok (.getfield 340, 3) := by decide +kernel
theorem dX9_ranksAt_29 : decode cX9_ranksAt 29 = .ok (.iload_n 2, 1) := by decide +kernel
theorem dX9_ranksAt_30 : decode cX9_ranksAt 30 = .ok (.if_icmp .ne 24, 3) := by decide +kernel
theorem dX9_ranksAt_33 : decode cX9_ranksAt 33 = .ok (.aload_n 0, 1) := by decide +kernel
theorem dX9_ranksAt_34 : decode cX9_ranksAt 34 = .ok (.getfield 16, 3) := by decide +kernel
theorem dX9_ranksAt_37 : decode cX9_ranksAt 37 = .ok (.iload_n 1, 1) := by decide +kernel
theorem dX9_ranksAt_38 : decode cX9_ranksAt 38 = .ok (.invokevirtual 166, 3) := by decide +kernel
theorem dX9_ranksAt_41 : decode cX9_ranksAt 41 = .ok (.checkcast 143, 3) := by decide +kernel
theorem dX9_ranksAt_44 : decode cX9_ranksAt 44 = .ok (.invokevirtual 187, 3) := by decide +kernel
theorem dX9_ranksAt_47 : decode cX9_ranksAt 47 = .ok (.ifCond .eq 7, 3) := by decide +kernel
theorem dX9_ranksAt_50 : decode cX9_ranksAt 50 = .ok (.iconst 1, 1) := by decide +kernel
theorem dX9_ranksAt_51 : decode cX9_ranksAt 51 = .ok (.goto 4, 3) := by decide +kernel
theorem dX9_ranksAt_54 : decode cX9_ranksAt 54 = .ok (.iconst 0, 1) := by decide +kernel
theorem dX9_ranksAt_55 : decode cX9_ranksAt 55 = .ok (.ireturn, 1) := by decide +kernel
set_option maxRecDepth 20000 in
theorem ggX9_countAhead_Jx4a65c_size_8abf5 : GoodIn wsX9_countAhead wsJx4a65c_size_8abf5 := goodIn_r _ [7, 8, 18, 19, 20] (by decide +kernel) (by decide +kernel)
set_option maxRecDepth 20000 in
theorem gX9_countAhead_Jx4a65c_size_8abf5 : GoodIn wsX9_countAhead (wsV RX9 59 RJx4a65c yJx4a65c_size_8abf5 wsJx4a65c_size_8abf5) := goodIn_app (goodIn_of _ (by decide +kernel)) ggX9_countAhead_Jx4a65c_size_8abf5
theorem dX9_countAhead_0 : decode cX9_countAhead 0 = .ok (.iload_n 1, 1) := by decide +kernel
theorem dX9_countAhead_1 : decode cX9_countAhead 1 = .ok (.ifCond .lt 12, 3) := by decide +kernel
theorem dX9_countAhead_4 : decode cX9_countAhead 4 = .ok (.iload_n 1, 1) := by decide +kernel
theorem dX9_countAhead_5 : decode cX9_countAhead 5 = .ok (.aload_n 0, 1) := by decide +kernel
theorem dX9_countAhead_6 : decode cX9_countAhead 6 = .ok (.getfield 47, 3) := by decide +kernel
theorem dX9_countAhead_9 : decode cX9_countAhead 9 = .ok (.arraylength, 1) := by decide +kernel
theorem dX9_countAhead_10 : decode cX9_countAhead 10 = .ok (.if_icmp .lt 5, 3) := by decide +kernel
theorem dX9_countAhead_13 : decode cX9_countAhead 13 = .ok (.iconst (-1), 1) := by decide +kernel
theorem dX9_countAhead_14 : decode cX9_countAhead 14 = .ok (.ireturn, 1) := by decide +kernel
theorem dX9_countAhead_15 : decode cX9_countAhead 15 = .ok (.iconst 0, 1) := by decide +kernel
theorem dX9_countAhead_16 : decode cX9_countAhead 16 = .ok (.istore_n 2, 1) := by decide +kernel
theorem dX9_countAhead_17 : decode cX9_countAhead 17 = .ok (.iconst 0, 1) := by decide +kernel
theorem dX9_countAhead_18 : decode cX9_countAhead 18 = .ok (.istore_n 3, 1) := by decide +kernel
theorem dX9_countAhead_19 : decode cX9_countAhead 19 = .ok (.iload_n 3, 1) := by decide +kernel
theorem dX9_countAhead_20 : decode cX9_countAhead 20 = .ok (.aload_n 0, 1) := by decide +kernel
theorem dX9_countAhead_21 : decode cX9_countAhead 21 = .ok (.getfield 16, 3) := by decide +kernel
theorem dX9_countAhead_24 : decode cX9_countAhead 24 = .ok (.invokevirtual 59, 3) := by decide +kernel
theorem dX9_countAhead_27 : decode cX9_countAhead 27 = .ok (.if_icmp .ge 56, 3) := by decide +kernel
theorem dX9_countAhead_30 : decode cX9_countAhead 30 = .ok (.iload_n 3, 1) := by decide +kernel
theorem dX9_countAhead_31 : decode cX9_countAhead 31 = .ok (.aload_n 0, 1) := by decide +kernel
theorem dX9_countAhead_32 : decode cX9_countAhead 32 = .ok (.getfield 47, 3) := by decide +kernel
theorem dX9_countAhead_35 : decode cX9_countAhead 35 = .ok (.arraylength, 1) := by decide +kernel
theorem dX9_countAhead_36 : decode cX9_countAhead 36 = .ok (.if_icmp .ge 47, 3) := by decide +kernel
theorem dX9_countAhead_39 : decode cX9_countAhead 39 = .ok (.aload_n 0, 1) := by decide +kernel
theorem dX9_countAhead_40 : decode cX9_countAhead 40 = .ok (.getfield 47, 3) := by decide +kernel
theorem dX9_countAhead_43 : decode cX9_countAhead 43 = .ok (.iload_n 3, 1) := by decide +kernel
theorem dX9_countAhead_44 : decode cX9_countAhead 44 = .ok (.iaload, 1) := by decide +kernel
theorem dX9_countAhead_45 : decode cX9_countAhead 45 = .ok (.aload_n 0, 1) := by decide +kernel
theorem dX9_countAhead_46 : decode cX9_countAhead 46 = .ok (.getfield 47, 3) := by decide +kernel
theorem dX9_countAhead_49 : decode cX9_countAhead 49 = .ok (.iload_n 1, 1) := by decide +kernel
theorem dX9_countAhead_50 : decode cX9_countAhead 50 = .ok (.iaload, 1) := by decide +kernel
theorem dX9_countAhead_51 : decode cX9_countAhead 51 = .ok (.if_icmp .gt 23, 3) := by decide +kernel
theorem dX9_countAhead_54 : decode cX9_countAhead 54 = .ok (.aload_n 0, 1) := by decide +kernel
theorem dX9_countAhead_55 : decode cX9_countAhead 55 = .ok (.getfield 47, 3) := by decide +kernel
theorem dX9_countAhead_58 : decode cX9_countAhead 58 = .ok (.iload_n 3, 1) := by decide +kernel
theorem dX9_countAhead_59 : decode cX9_countAhead 59 = .ok (.iaload, 1) := by decide +kernel
theorem dX9_countAhead_60 : decode cX9_countAhead 60 = .ok (.aload_n 0, 1) := by decide +kernel
theorem dX9_countAhead_61 : decode cX9_countAhead 61 = .ok (.getfield 47, 3) := by decide +kernel
theorem dX9_countAhead_64 : decode cX9_countAhead 64 = .ok (.iload_n 1, 1) := by decide +kernel
theorem dX9_countAhead_65 : decode cX9_countAhead 65 = .ok (.iaload, 1) := by decide +kernel
theorem dX9_countAhead_66 : decode cX9_countAhead 66 = .ok (.if_icmp .ne 11, 3) := by decide +kernel
theorem dX9_countAhead_69 : decode cX9_countAhead 69 = .ok (.iload_n 3, 1) := by decide +kernel
theorem dX9_countAhead_70 : decode cX9_countAhead 70 = .ok (.iload_n 1, 1) := by decide +kernel
theorem dX9_countAhead_71 : decode cX9_countAhead 71 = .ok (.if_icmp .ge 6, 3) := by decide +kernel
theorem dX9_countAhead_74 : decode cX9_countAhead 74 = .ok (.iinc 2 1, 3) := by decide +kernel
theorem dX9_countAhead_77 : decode cX9_countAhead 77 = .ok (.iinc 3 1, 3) := by decide +kernel
theorem dX9_countAhead_80 : decode cX9_countAhead 80 = .ok (.goto (-61), 3) := by decide +kernel
theorem dX9_countAhead_83 : decode cX9_countAhead 83 = .ok (.iload_n 2, 1) := by decide +kernel
theorem dX9_countAhead_84 : decode cX9_countAhead 84 = .ok (.ireturn, 1) := by decide +kernel
set_option maxRecDepth 20000 in
theorem ggX9_mendSwitches_Jx4a65c_size_8abf5 : GoodIn wsX9_mendSwitches wsJx4a65c_size_8abf5 := goodIn_r _ [9, 10, 66, 67, 68] (by decide +kernel) (by decide +kernel)
set_option maxRecDepth 20000 in
theorem gX9_mendSwitches_Jx4a65c_size_8abf5 : GoodIn wsX9_mendSwitches (wsV RX9 59 RJx4a65c yJx4a65c_size_8abf5 wsJx4a65c_size_8abf5) := goodIn_app (goodIn_of _ (by decide +kernel)) ggX9_mendSwitches_Jx4a65c_size_8abf5
set_option maxRecDepth 20000 in
theorem ggX9_mendSwitches_Jx4a65c_get_915e3 : GoodIn wsX9_mendSwitches wsJx4a65c_get_915e3 := goodIn_r _ [14, 10, 15, 16, 17, 18, 19, 20, 21, 22, 23, 24, 25, 8, 26, 27, 66, 67, 68] (by decide +kernel) (by decide +kernel)
set_option maxRecDepth 20000 in
theorem gX9_mendSwitches_Jx4a65c_get_915e3 : GoodIn wsX9_mendSwitches (wsV RX9 166 RJx4a65c yJx4a65c_get_915e3 wsJx4a65c_get_915e3) := goodIn_app (goodIn_of _ (by decide +kernel)) ggX9_mendSwitches_Jx4a65c_get_915e3
set_option maxRecDepth 20000 in
theorem ggX9_mendSwitches_X8_takeSpare : GoodIn wsX9_mendSwitches wsX8_takeSpare := goodIn_r _ [32, 33, 34, 35, 31, 36, 37, 38, 39, 40, 41, 69, 70] (by decide +kernel) (by decide +kernel)
set_option maxRecDepth 20000 in
theorem gX9_mendSwitches_X8_takeSpare : GoodIn wsX9_mendSwitches (wsV RX9 343 RX8 yX8_takeSpare wsX8_takeSpare) := goodIn_app (goodIn_of _ (by decide +kernel)) ggX9_mendSwitches_X8_takeSpare
theorem dX9_mendSwitches_0 : decode cX9_mendSwitches 0 = .ok (.iconst 0, 1) := by decide +kernel
theorem dX9_mendSwitches_1 : decode cX9_mendSwitches 1 = .ok (.istore_n 3, 1) := by decide +kernel
theorem dX9_mendSwitches_2 : decode cX9_mendSwitches 2 = .ok (.iload_n 3, 1) := by decide +kernel
theorem dX9_mendSwitches_3 : decode cX9_mendSwitches 3 = .ok (.aload_n 1, 1) := by decide +kernel
theorem dX9_mendSwitches_4 : decode cX9_mendSwitches 4 = .ok (.getfield 87, 3) := by decide +kernel
theorem dX9_mendSwitches_7 : decode cX9_mendSwitches 7 = .ok (.invokevirtual 59, 3) := by decide +kernel
theorem dX9_mendSwitches_10 : decode cX9_mendSwitches 10 = .ok (.if_icmp .ge 66, 3) := by decide +kernel
theorem dX9_mendSwitches_13 : decode cX9_mendSwitches 13 = .ok (.aload_n 1, 1) := by decide +kernel
theorem dX9_mendSwitches_14 : decode cX9_mendSwitches 14 = .ok (.getfield 87, 3) := by decide +kernel
theorem dX9_mendSwitches_17 : decode cX9_mendSwitches 17 = .ok (.iload_n 3, 1) := by decide +kernel
theorem dX9_mendSwitches_18 : decode cX9_mendSwitches 18 = .ok (.invokevirtual 166, 3) := by decide +kernel
theorem dX9_mendSwitches_21 : decode cX9_mendSwitches 21 = .ok (.checkcast 92, 3) := by decide +kernel
theorem dX9_mendSwitches_24 : decode cX9_mendSwitches 24 = .ok (.astore 4, 2) := by decide +kernel
theorem dX9_mendSwitches_26 : decode cX9_mendSwitches 26 = .ok (.aload 4, 2) := by decide +kernel
theorem dX9_mendSwitches_28 : decode cX9_mendSwitches 28 = .ok (.getfield 131, 3) := by decide +kernel
theorem dX9_mendSwitches_31 : decode cX9_mendSwitches 31 = .ok (.istore 5, 2) := by decide +kernel
theorem dX9_mendSwitches_33 : decode cX9_mendSwitches 33 = .ok (.iload 5, 2) := by decide +kernel
theorem dX9_mendSwitches_35 : decode cX9_mendSwitches 35 = .ok (.ifCond .lt 35, 3) := by decide +kernel
theorem dX9_mendSwitches_38 : decode cX9_mendSwitches 38 = .ok (.iload 5, 2) := by decide +kernel
theorem dX9_mendSwitches_40 : decode cX9_mendSwitches 40 = .ok (.aload_n 0, 1) := by decide +kernel
theorem dX9_mendSwitches_41 : decode cX9_mendSwitches 41 = .ok (.getfield 29, 3) := by decide +kernel
theorem dX9_mendSwitches_44 : decode cX9_mendSwitches 44 = .ok (.arraylength, 1) := by decide +kernel
theorem dX9_mendSwitches_45 : decode cX9_mendSwitches 45 = .ok (.if_icmp .ge 25, 3) := by decide +kernel
theorem dX9_mendSwitches_48 : decode cX9_mendSwitches 48 = .ok (.aload_n 2, 1) := by decide +kernel
theorem dX9_mendSwitches_49 : decode cX9_mendSwitches 49 = .ok (.iconst 0, 1) := by decide +kernel
theorem dX9_mendSwitches_50 : decode cX9_mendSwitches 50 = .ok (.invokevirtual 343, 3) := by decide +kernel
theorem dX9_mendSwitches_53 : decode cX9_mendSwitches 53 = .ok (.ifCond .eq 17, 3) := by decide +kernel
theorem dX9_mendSwitches_56 : decode cX9_mendSwitches 56 = .ok (.aload_n 0, 1) := by decide +kernel
theorem dX9_mendSwitches_57 : decode cX9_mendSwitches 57 = .ok (.getfield 29, 3) := by decide +kernel
theorem dX9_mendSwitches_60 : decode cX9_mendSwitches 60 = .ok (.iload 5, 2) := by decide +kernel
theorem dX9_mendSwitches_62 : decode cX9_mendSwitches 62 = .ok (.iconst 1, 1) := by decide +kernel
theorem dX9_mendSwitches_63 : decode cX9_mendSwitches 63 = .ok (.bastore, 1) := by decide +kernel
theorem dX9_mendSwitches_64 : decode cX9_mendSwitches 64 = .ok (.aload 4, 2) := by decide +kernel
theorem dX9_mendSwitches_66 : decode cX9_mendSwitches 66 = .ok (.iconst (-1), 1) := by decide +kernel
theorem dX9_mendSwitches_67 : decode cX9_mendSwitches 67 = .ok (.putfield 131, 3) := by decide +kernel
theorem dX9_mendSwitches_70 : decode cX9_mendSwitches 70 = .ok (.iinc 3 1, 3) := by decide +kernel
theorem dX9_mendSwitches_73 : decode cX9_mendSwitches 73 = .ok (.goto (-71), 3) := by decide +kernel
theorem dX9_mendSwitches_76 : decode cX9_mendSwitches 76 = .ok (.return_, 1) := by decide +kernel
set_option maxRecDepth 20000 in
theorem ggX9_mendCoils_Jx4a65c_size_8abf5 : GoodIn wsX9_mendCoils wsJx4a65c_size_8abf5 := goodIn_r _ [8, 9, 62, 63, 64] (by decide +kernel) (by decide +kernel)
set_option maxRecDepth 20000 in
theorem gX9_mendCoils_Jx4a65c_size_8abf5 : GoodIn wsX9_mendCoils (wsV RX9 59 RJx4a65c yJx4a65c_size_8abf5 wsJx4a65c_size_8abf5) := goodIn_app (goodIn_of _ (by decide +kernel)) ggX9_mendCoils_Jx4a65c_size_8abf5
set_option maxRecDepth 20000 in
theorem ggX9_mendCoils_Jx4a65c_get_915e3 : GoodIn wsX9_mendCoils wsJx4a65c_get_915e3 := goodIn_r _ [13, 9, 14, 15, 16, 17, 18, 19, 20, 21, 22, 23, 24, 7, 25, 26, 62, 63, 64] (by decide +kernel) (by decide +kernel)
set_option maxRecDepth 20000 in
theorem gX9_mendCoils_Jx4a65c_get_915e3 : GoodIn wsX9_mendCoils (wsV RX9 166 RJx4a65c yJx4a65c_get_915e3 wsJx4a65c_get_915e3) := goodIn_app (goodIn_of _ (by decide +kernel)) ggX9_mendCoils_Jx4a65c_get_915e3
set_option maxRecDepth 20000 in
theorem ggX9_mendCoils_X1_isBroken : GoodIn wsX9_mendCoils wsX1_isBroken := goodIn_r _ [31, 32, 55, 56, 57, 58, 59, 60, 61] (by decide +kernel) (by decide +kernel)
set_option maxRecDepth 20000 in
theorem gX9_mendCoils_X1_isBroken : GoodIn wsX9_mendCoils (wsV RX9 346 RX1 yX1_isBroken wsX1_isBroken) := goodIn_app (goodIn_of _ (by decide +kernel)) ggX9_mendCoils_X1_isBroken
set_option maxRecDepth 20000 in
theorem ggX9_mendCoils_X8_takeSpare : GoodIn wsX9_mendCoils wsX8_takeSpare := goodIn_r _ [37, 38, 39, 40, 36, 41, 42, 43, 44, 45, 46, 65, 66] (by decide +kernel) (by decide +kernel)
set_option maxRecDepth 20000 in
theorem gX9_mendCoils_X8_takeSpare : GoodIn wsX9_mendCoils (wsV RX9 343 RX8 yX8_takeSpare wsX8_takeSpare) := goodIn_app (goodIn_of _ (by decide +kernel)) ggX9_mendCoils_X8_takeSpare
theorem dX9_mendCoils_0 : decode cX9_mendCoils 0 = .ok (.iconst 0, 1) := by decide +kernel
theorem dX9_mendCoils_1 : decode cX9_mendCoils 1 = .ok (.istore_n 2, 1) := by decide +kernel
theorem dX9_mendCoils_2 : decode cX9_mendCoils 2 = .ok (.iload_n 2, 1) := by decide +kernel
theorem dX9_mendCoils_3 : decode cX9_mendCoils 3 = .ok (.aload_n 0, 1) := by decide +kernel
theorem dX9_mendCoils_4 : decode cX9_mendCoils 4 = .ok (.getfield 87, 3) := by decide +kernel
theorem dX9_mendCoils_7 : decode cX9_mendCoils 7 = .ok (.invokevirtual 59, 3) := by decide +kernel
theorem dX9_mendCoils_10 : decode cX9_mendCoils 10 = .ok (.if_icmp .ge 41, 3) := by decide +kernel
theorem dX9_mendCoils_13 : decode cX9_mendCoils 13 = .ok (.aload_n 0, 1) := by decide +kernel
theorem dX9_mendCoils_14 : decode cX9_mendCoils 14 = .ok (.getfield 87, 3) := by decide +kernel
theorem dX9_mendCoils_17 : decode cX9_mendCoils 17 = .ok (.iload_n 2, 1) := by decide +kernel
theorem dX9_mendCoils_18 : decode cX9_mendCoils 18 = .ok (.invokevirtual 166, 3) := by decide +kernel
theorem dX9_mendCoils_21 : decode cX9_mendCoils 21 = .ok (.checkcast 92, 3) := by decide +kernel
theorem dX9_mendCoils_24 : decode cX9_mendCoils 24 = .ok (.astore_n 3, 1) := by decide +kernel
theorem dX9_mendCoils_25 : decode cX9_mendCoils 25 = .ok (.aload_n 3, 1) := by decide +kernel
theorem dX9_mendCoils_26 : decode cX9_mendCoils 26 = .ok (.invokevirtual 346, 3) := by decide +kernel
theorem dX9_mendCoils_29 : decode cX9_mendCoils 29 = .ok (.ifCond .eq 16, 3) := by decide +kernel
theorem dX9_mendCoils_32 : decode cX9_mendCoils 32 = .ok (.aload_n 1, 1) := by decide +kernel
theorem dX9_mendCoils_33 : decode cX9_mendCoils 33 = .ok (.iconst 1, 1) := by decide +kernel
theorem dX9_mendCoils_34 : decode cX9_mendCoils 34 = .ok (.invokevirtual 343, 3) := by decide +kernel
theorem dX9_mendCoils_37 : decode cX9_mendCoils 37 = .ok (.ifCond .eq 8, 3) := by decide +kernel
theorem dX9_mendCoils_40 : decode cX9_mendCoils 40 = .ok (.aload_n 3, 1) := by decide +kernel
theorem dX9_mendCoils_41 : decode cX9_mendCoils 41 = .ok (.iconst 0, 1) := by decide +kernel
theorem dX9_mendCoils_42 : decode cX9_mendCoils 42 = .ok (.putfield 138, 3) := by decide +kernel
theorem dX9_mendCoils_45 : decode cX9_mendCoils 45 = .ok (.iinc 2 1, 3) := by decide +kernel
theorem dX9_mendCoils_48 : decode cX9_mendCoils 48 = .ok (.goto (-46), 3) := by decide +kernel
theorem dX9_mendCoils_51 : decode cX9_mendCoils 51 = .ok (.return_, 1) := by decide +kernel
theorem dX10_init_0 : decode cX10_init 0 = .ok (.aload_n 0, 1) := by decide +kernel
theorem dX10_init_1 : decode cX10_init 1 = .ok (.invokespecial 1, 3) := by decide +kernel
theorem dX10_init_4 : decode cX10_init 4 = .ok (.aload_n 0, 1) := by decide +kernel
theorem dX10_init_5 : decode cX10_init 5 = .ok (.bipush 6, 2) := by decide +kernel
theorem dX10_init_7 : decode cX10_init 7 = .ok (.newarray .int, 2) := by decide +kernel
theorem dX10_init_9 : decode cX10_init 9 = .ok (.putfield 7, 3) := by decide +kernel
theorem dX10_init_12 : decode cX10_init 12 = .ok (.aload_n 0, 1) := by decide +kernel
theorem dX10_init_13 : decode cX10_init 13 = .ok (.bipush 6, 2) := by decide +kernel
theorem dX10_init_15 : decode cX10_init 15 = .ok (.newarray .int, 2) := by decide +kernel
theorem dX10_init_17 : decode cX10_init 17 = .ok (.putfield 13, 3) := by decide +kernel
theorem dX10_init_20 : decode cX10_init 20 = .ok (.aload_n 0, 1) := by decide +kernel
theorem dX10_init_21 : decode cX10_init 21 = .ok (.bipush 6, 2) := by decide +kernel
theorem dX10_init_23 : decode cX10_init 23 = .ok (.newarray .int, 2) := by decide +kernel
theorem dX10_init_25 : decode cX10_init 25 = .ok (.putfield 16, 3) := by decide +kernel
theorem dX10_init_28 : decode cX10_init 28 = .ok (.aload_n 0, 1) := by decide +kernel
theorem dX10_init_29 : decode cX10_init 29 = .ok (.bipush 6, 2) := by decide +kernel
theorem dX10_init_31 : decode cX10_init 31 = .ok (.newarray .int, 2) := by decide +kernel
theorem dX10_init_33 : decode cX10_init 33 = .ok (.putfield 19, 3) := by decide +kernel
theorem dX10_init_36 : decode cX10_init 36 = .ok (.aload_n 0, 1) := by decide +kernel
theorem dX10_init_37 : decode cX10_init 37 = .ok (.bipush 6, 2) := by decide +kernel
theorem dX10_init_39 : decode cX10_init 39 = .ok (.newarray .int, 2) := by decide +kernel
theorem dX10_init_41 : decode cX10_init 41 = .ok (.putfield 22, 3) := by decide +kernel
theorem dX10_init_44 : decode cX10_init 44 = .ok (.aload_n 0, 1) := by decide +kernel
theorem dX10_init_45 : decode cX10_init 45 = .ok (.bipush 6, 2) := by decide +kernel
theorem dX10_init_47 : decode cX10_init 47 = .ok (.newarray .int, 2) := by decide +kernel
theorem dX10_init_49 : decode cX10_init 49 = .ok (.putfield 25, 3) := by decide +kernel
theorem dX10_init_52 : decode cX10_init 52 = .ok (.aload_n 0, 1) := by decide +kernel
theorem dX10_init_53 : decode cX10_init 53 = .ok (.bipush 6, 2) := by decide +kernel
theorem dX10_init_55 : decode cX10_init 55 = .ok (.newarray .int, 2) := by decide +kernel
theorem dX10_init_57 : decode cX10_init 57 = .ok (.putfield 28, 3) := by decide +kernel
theorem dX10_init_60 : decode cX10_init 60 = .ok (.aload_n 0, 1) := by decide +kernel
theorem dX10_init_61 : decode cX10_init 61 = .ok (.bipush 48, 2) := by decide +kernel
theorem dX10_init_63 : decode cX10_init 63 = .ok (.newarray .int, 2) := by decide +kernel
theorem dX10_init_65 : decode cX10_init 65 = .ok (.putfield 31, 3) := by decide +kernel
theorem dX10_init_68 : decode cX10_init 68 = .ok (.aload_n 0, 1) := by decide +kernel
theorem dX10_init_69 : decode cX10_init 69 = .ok (.bipush 48, 2) := by decide +kernel
theorem dX10_init_71 : decode cX10_init 71 = .ok (.newarray .int, 2) := by decide +kernel
theorem dX10_init_73 : decode cX10_init 73 = .ok (.putfield 34, 3) := by decide +kernel
theorem dX10_init_76 : decode cX10_init 76 = .ok (.aload_n 0, 1) := by decide +kernel
theorem dX10_init_77 : decode cX10_init 77 = .ok (.bipush 48, 2) := by decide +kernel
theorem dX10_init_79 : decode cX10_init 79 = .ok (.newarray .int, 2) := by decide +kernel
theorem dX10_init_81 : decode cX10_init 81 = .ok (.putfield 37, 3) := by decide +kernel
theorem dX10_init_84 : decode cX10_init 84 = .ok (.aload_n 0, 1) := by decide +kernel
theorem dX10_init_85 : decode cX10_init 85 = .ok (.bipush 48, 2) := by decide +kernel
theorem dX10_init_87 : decode cX10_init 87 = .ok (.newarray .int, 2) := by decide +kernel
theorem dX10_init_89 : decode cX10_init 89 = .ok (.putfield 40, 3) := by decide +kernel
theorem dX10_init_92 : decode cX10_init 92 = .ok (.aload_n 0, 1) := by decide +kernel
theorem dX10_init_93 : decode cX10_init 93 = .ok (.bipush 48, 2) := by decide +kernel
theorem dX10_init_95 : decode cX10_init 95 = .ok (.newarray .int, 2) := by decide +kernel
theorem dX10_init_97 : decode cX10_init 97 = .ok (.putfield 43, 3) := by decide +kernel
theorem dX10_init_100 : decode cX10_init 100 = .ok (.aload_n 0, 1) := by decide +kernel
theorem dX10_init_101 : decode cX10_init 101 = .ok (.bipush 48, 2) := by decide +kernel
theorem dX10_init_103 : decode cX10_init 103 = .ok (.newarray .int, 2) := by decide +kernel
theorem dX10_init_105 : decode cX10_init 105 = .ok (.putfield 46, 3) := by decide +kernel
theorem dX10_init_108 : decode cX10_init 108 = .ok (.aload_n 0, 1) := by decide +kernel
theorem dX10_init_109 : decode cX10_init 109 = .ok (.bipush 48, 2) := by decide +kernel
theorem dX10_init_111 : decode cX10_init 111 = .ok (.newarray .int, 2) := by decide +kernel
theorem dX10_init_113 : decode cX10_init 113 = .ok (.putfield 49, 3) := by decide +kernel
theorem dX10_init_116 : decode cX10_init 116 = .ok (.aload_n 0, 1) := by decide +kernel
theorem dX10_init_117 : decode cX10_init 117 = .ok (.bipush 48, 2) := by decide +kernel
theorem dX10_init_119 : decode cX10_init 119 = .ok (.newarray .int, 2) := by decide +kernel
theorem dX10_init_121 : decode cX10_init 121 = .ok (.putfield 52, 3) := by decide +kernel
theorem dX10_init_124 : decode cX10_init 124 = .ok (.aload_n 0, 1) := by decide +kernel
theorem dX10_init_125 : decode cX10_init 125 = .ok (.bipush 24, 2) := by decide +kernel
theorem dX10_init_127 : decode cX10_init 127 = .ok (.newarray .int, 2) := by decide +kernel
theorem dX10_init_129 : decode cX10_init 129 = .ok (.putfield 55, 3) := by decide +kernel
theorem dX10_init_132 : decode cX10_init 132 = .ok (.aload_n 0, 1) := by decide +kernel
theorem dX10_init_133 : decode cX10_init 133 = .ok (.bipush 24, 2) := by decide +kernel
theorem dX10_init_135 : decode cX10_init 135 = .ok (.newarray .int, 2) := by decide +kernel
theorem dX10_init_137 : decode cX10_init 137 = .ok (.putfield 58, 3) := by decide +kernel
theorem dX10_init_140 : decode cX10_init 140 = .ok (.aload_n 0, 1) := by decide +kernel
theorem dX10_init_141 : decode cX10_init 141 = .ok (.bipush 24, 2) := by decide +kernel
theorem dX10_init_143 : decode cX10_init 143 = .ok (.newarray .int, 2) := by decide +kernel
theorem dX10_init_145 : decode cX10_init 145 = .ok (.putfield 61, 3) := by decide +kernel
theorem dX10_init_148 : decode cX10_init 148 = .ok (.aload_n 0, 1) := by decide +kernel
theorem dX10_init_149 : decode cX10_init 149 = .ok (.bipush 24, 2) := by decide +kernel
theorem dX10_init_151 : decode cX10_init 151 = .ok (.newarray .int, 2) := by decide +kernel
theorem dX10_init_153 : decode cX10_init 153 = .ok (.putfield 64, 3) := by decide +kernel
theorem dX10_init_156 : decode cX10_init 156 = .ok (.aload_n 0, 1) := by decide +kernel
theorem dX10_init_157 : decode cX10_init 157 = .ok (.bipush 24, 2) := by decide +kernel
theorem dX10_init_159 : decode cX10_init 159 = .ok (.newarray .int, 2) := by decide +kernel
theorem dX10_init_161 : decode cX10_init 161 = .ok (.putfield 67, 3) := by decide +kernel
theorem dX10_init_164 : decode cX10_init 164 = .ok (.aload_n 0, 1) := by decide +kernel
theorem dX10_init_165 : decode cX10_init 165 = .ok (.bipush 60, 2) := by decide +kernel
theorem dX10_init_167 : decode cX10_init 167 = .ok (.newarray .boolean, 2) := by decide +kernel
theorem dX10_init_169 : decode cX10_init 169 = .ok (.putfield 70, 3) := by decide +kernel
theorem dX10_init_172 : decode cX10_init 172 = .ok (.aload_n 0, 1) := by decide +kernel
theorem dX10_init_173 : decode cX10_init 173 = .ok (.bipush 40, 2) := by decide +kernel
theorem dX10_init_175 : decode cX10_init 175 = .ok (.newarray .int, 2) := by decide +kernel
theorem dX10_init_177 : decode cX10_init 177 = .ok (.putfield 74, 3) := by decide +kernel
theorem dX10_init_180 : decode cX10_init 180 = .ok (.aload_n 0, 1) := by decide +kernel
theorem dX10_init_181 : decode cX10_init 181 = .ok (.bipush 40, 2) := by decide +kernel
theorem dX10_init_183 : decode cX10_init 183 = .ok (.newarray .int, 2) := by decide +kernel
theorem dX10_init_185 : decode cX10_init 185 = .ok (.putfield 77, 3) := by decide +kernel
theorem dX10_init_188 : decode cX10_init 188 = .ok (.aload_n 0, 1) := by decide +kernel
theorem dX10_init_189 : decode cX10_init 189 = .ok (.bipush 40, 2) := by decide +kernel
theorem dX10_init_191 : decode cX10_init 191 = .ok (.newarray .int, 2) := by decide +kernel
theorem dX10_init_193 : decode cX10_init 193 = .ok (.putfield 80, 3) := by decide +kernel
theorem dX10_init_196 : decode cX10_init 196 = .ok (.aload_n 0, 1) := by decide +kernel
theorem dX10_init_197 : decode cX10_init 197 = .ok (.sipush 320, 3) := by decide +kernel
theorem dX10_init_200 : decode cX10_init 200 = .ok (.newarray .int, 2) := by decide +kernel
theorem dX10_init_202 : decode cX10_init 202 = .ok (.putfield 83, 3) := by decide +kernel
theorem dX10_init_205 : decode cX10_init 205 = .ok (.aload_n 0, 1) := by decide +kernel
theorem dX10_init_206 : decode cX10_init 206 = .ok (.sipush 160, 3) := by decide +kernel
theorem dX10_init_209 : decode cX10_init 209 = .ok (.newarray .int, 2) := by decide +kernel
theorem dX10_init_211 : decode cX10_init 211 = .ok (.putfield 86, 3) := by decide +kernel
theorem dX10_init_214 : decode cX10_init 214 = .ok (.aload_n 0, 1) := by decide +kernel
theorem dX10_init_215 : decode cX10_init 215 = .ok (.sipush 160, 3) := by decide +kernel
theorem dX10_init_218 : decode cX10_init 218 = .ok (.newarray .int, 2) := by decide +kernel
theorem dX10_init_220 : decode cX10_init 220 = .ok (.putfield 89, 3) := by decide +kernel
theorem dX10_init_223 : decode cX10_init 223 = .ok (.aload_n 0, 1) := by decide +kernel
theorem dX10_init_224 : decode cX10_init 224 = .ok (.sipush 160, 3) := by decide +kernel
theorem dX10_init_227 : decode cX10_init 227 = .ok (.newarray .int, 2) := by decide +kernel
theorem dX10_init_229 : decode cX10_init 229 = .ok (.putfield 92, 3) := by decide +kernel
theorem dX10_init_232 : decode cX10_init 232 = .ok (.aload_n 0, 1) := by decide +kernel
theorem dX10_init_233 : decode cX10_init 233 = .ok (.sipush 160, 3) := by decide +kernel
theorem dX10_init_236 : decode cX10_init 236 = .ok (.newarray .int, 2) := by decide +kernel
theorem dX10_init_238 : decode cX10_init 238 = .ok (.putfield 95, 3) := by decide +kernel
theorem dX10_init_241 : decode cX10_init 241 = .ok (.aload_n 0, 1) := by decide +kernel
theorem dX10_init_242 : decode cX10_init 242 = .ok (.sipush 160, 3) := by decide +kernel
theorem dX10_init_245 : decode cX10_init 245 = .ok (.newarray .int, 2) := by decide +kernel
theorem dX10_init_247 : decode cX10_init 247 = .ok (.putfield 98, 3) := by decide +kernel
theorem dX10_init_250 : decode cX10_init 250 = .ok (.aload_n 0, 1) := by decide +kernel
theorem dX10_init_251 : decode cX10_init 251 = .ok (.bipush 40, 2) := by decide +kernel
theorem dX10_init_253 : decode cX10_init 253 = .ok (.newarray .int, 2) := by decide +kernel
theorem dX10_init_255 : decode cX10_init 255 = .ok (.putfield 101, 3) := by decide +kernel
theorem dX10_init_258 : decode cX10_init 258 = .ok (.aload_n 0, 1) := by decide +kernel
theorem dX10_init_259 : decode cX10_init 259 = .ok (.bipush 120, 2) := by decide +kernel
theorem dX10_init_261 : decode cX10_init 261 = .ok (.newarray .int, 2) := by decide +kernel
theorem dX10_init_263 : decode cX10_init 263 = .ok (.putfield 104, 3) := by decide +kernel
theorem dX10_init_266 : decode cX10_init 266 = .ok (.aload_n 0, 1) := by decide +kernel
theorem dX10_init_267 : decode cX10_init 267 = .ok (.bipush 120, 2) := by decide +kernel
theorem dX10_init_269 : decode cX10_init 269 = .ok (.newarray .int, 2) := by decide +kernel
theorem dX10_init_271 : decode cX10_init 271 = .ok (.putfield 107, 3) := by decide +kernel
theorem dX10_init_274 : decode cX10_init 274 = .ok (.aload_n 0, 1) := by decide +kernel
theorem dX10_init_275 : decode cX10_init 275 = .ok (.bipush 120, 2) := by decide +kernel
theorem dX10_init_277 : decode cX10_init 277 = .ok (.newarray .int, 2) := by decide +kernel
theorem dX10_init_279 : decode cX10_init 279 = .ok (.putfield 110, 3) := by decide +kernel
theorem dX10_init_282 : decode cX10_init 282 = .ok (.aload_n 0, 1) := by decide +kernel
theorem dX10_init_283 : decode cX10_init 283 = .ok (.ldc 113, 2) := by decide +kernel
theorem dX10_init_285 : decode cX10_init 285 = .ok (.newarray .int, 2) := by decide +kernel
theorem dX10_init_287 : decode cX10_init 287 = .ok (.putfield 114, 3) := by decide +kernel
theorem dX10_init_290 : decode cX10_init 290 = .ok (.aload_n 0, 1) := by decide +kernel
theorem dX10_init_291 : decode cX10_init 291 = .ok (.sipush 960, 3) := by decide +kernel
theorem dX10_init_294 : decode cX10_init 294 = .ok (.newarray .int, 2) := by decide +kernel
theorem dX10_init_296 : decode cX10_init 296 = .ok (.putfield 117, 3) := by decide +kernel
theorem dX10_init_299 : decode cX10_init 299 = .ok (.aload_n 0, 1) := by decide +kernel
theorem dX10_init_300 : decode cX10_init 300 = .ok (.iconst 3, 1) := by decide +kernel
theorem dX10_init_301 : decode cX10_init 301 = .ok (.newarray .int, 2) := by decide +kernel
theorem dX10_init_303 : decode cX10_init 303 = .ok (.putfield 120, 3) := by decide +kernel
theorem dX10_init_306 : decode cX10_init 306 = .ok (.aload_n 0, 1) := by decide +kernel
theorem dX10_init_307 : decode cX10_init 307 = .ok (.iconst 3, 1) := by decide +kernel
theorem dX10_init_308 : decode cX10_init 308 = .ok (.newarray .int, 2) := by decide +kernel
theorem dX10_init_310 : decode cX10_init 310 = .ok (.putfield 123, 3) := by decide +kernel
theorem dX10_init_313 : decode cX10_init 313 = .ok (.aload_n 0, 1) := by decide +kernel
theorem dX10_init_314 : decode cX10_init 314 = .ok (.iconst 2, 1) := by decide +kernel
theorem dX10_init_315 : decode cX10_init 315 = .ok (.newarray .int, 2) := by decide +kernel
theorem dX10_init_317 : decode cX10_init 317 = .ok (.putfield 126, 3) := by decide +kernel
theorem dX10_init_320 : decode cX10_init 320 = .ok (.aload_n 0, 1) := by decide +kernel
theorem dX10_init_321 : decode cX10_init 321 = .ok (.iconst 2, 1) := by decide +kernel
theorem dX10_init_322 : decode cX10_init 322 = .ok (.newarray .int, 2) := by decide +kernel
theorem dX10_init_324 : decode cX10_init 324 = .ok (.putfield 129, 3) := by decide +kernel
theorem dX10_init_327 : decode cX10_init 327 = .ok (.aload_n 0, 1) := by decide +kernel
theorem dX10_init_328 : decode cX10_init 328 = .ok (.iconst 2, 1) := by decide +kernel
theorem dX10_init_329 : decode cX10_init 329 = .ok (.newarray .int, 2) := by decide +kernel
theorem dX10_init_331 : decode cX10_init 331 = .ok (.putfield 132, 3) := by decide +kernel
theorem dX10_init_334 : decode cX10_init 334 = .ok (.aload_n 0, 1) := by decide +kernel
theorem dX10_init_335 : decode cX10_init 335 = .ok (.bipush 40, 2) := by decide +kernel
theorem dX10_init_337 : decode cX10_init 337 = .ok (.newarray .int, 2) := by decide +kernel
theorem dX10_init_339 : decode cX10_init 339 = .ok (.putfield 135, 3) := by decide +kernel
theorem dX10_init_342 : decode cX10_init 342 = .ok (.aload_n 0, 1) := by decide +kernel
theorem dX10_init_343 : decode cX10_init 343 = .ok (.iconst 2, 1) := by decide +kernel
theorem dX10_init_344 : decode cX10_init 344 = .ok (.newarray .int, 2) := by decide +kernel
theorem dX10_init_346 : decode cX10_init 346 = .ok (.putfield 138, 3) := by decide +kernel
theorem dX10_init_349 : decode cX10_init 349 = .ok (.aload_n 0, 1) := by decide +kernel
theorem dX10_init_350 : decode cX10_init 350 = .ok (.iconst 4, 1) := by decide +kernel
theorem dX10_init_351 : decode cX10_init 351 = .ok (.newarray .int, 2) := by decide +kernel
theorem dX10_init_353 : decode cX10_init 353 = .ok (.putfield 141, 3) := by decide +kernel
theorem dX10_init_356 : decode cX10_init 356 = .ok (.aload_n 0, 1) := by decide +kernel
theorem dX10_init_357 : decode cX10_init 357 = .ok (.bipush 6, 2) := by decide +kernel
theorem dX10_init_359 : decode cX10_init 359 = .ok (.newarray .int, 2) := by decide +kernel
theorem dX10_init_361 : decode cX10_init 361 = .ok (.putfield 144, 3) := by decide +kernel
theorem dX10_init_364 : decode cX10_init 364 = .ok (.aload_n 0, 1) := by decide +kernel
theorem dX10_init_365 : decode cX10_init 365 = .ok (.bipush 6, 2) := by decide +kernel
theorem dX10_init_367 : decode cX10_init 367 = .ok (.newarray .int, 2) := by decide +kernel
theorem dX10_init_369 : decode cX10_init 369 = .ok (.putfield 147, 3) := by decide +kernel
theorem dX10_init_372 : decode cX10_init 372 = .ok (.iconst 0, 1) := by decide +kernel
theorem dX10_init_373 : decode cX10_init 373 = .ok (.istore_n 1, 1) := by decide +kernel
theorem dX10_init_374 : decode cX10_init 374 = .ok (.iload_n 1, 1) := by decide +kernel
theorem dX10_init_375 : decode cX10_init 375 = .ok (.bipush 48, 2) := by decide +kernel
theorem dX10_init_377 : decode cX10_init 377 = .ok (.if_icmp .ge 16, 3) := by decide +kernel
theorem dX10_init_380 : decode cX10_init 380 = .ok (.aload_n 0, 1) := by decide +kernel
theorem dX10_init_381 : decode cX10_init 381 = .ok (.getfield 52, 3) := by decide +kernel
theorem dX10_init_384 : decode cX10_init 384 = .ok (.iload_n 1, 1) := by decide +kernel
theorem dX10_init_385 : decode cX10_init 385 = .ok (.iconst (-1), 1) := by decide +kernel
theorem dX10_init_386 : decode cX10_init 386 = .ok (.iastore, 1) := by decide +kernel
theorem dX10_init_387 : decode cX10_init 387 = .ok (.iinc 1 1, 3) := by decide +kernel
theorem dX10_init_390 : decode cX10_init 390 = .ok (.goto (-16), 3) := by decide +kernel
theorem dX10_init_393 : decode cX10_init 393 = .ok (.iconst 0, 1) := by decide +kernel
theorem dX10_init_394 : decode cX10_init 394 = .ok (.istore_n 1, 1) := by decide +kernel
theorem dX10_init_395 : decode cX10_init 395 = .ok (.iload_n 1, 1) := by decide +kernel
theorem dX10_init_396 : decode cX10_init 396 = .ok (.bipush 24, 2) := by decide +kernel
theorem dX10_init_398 : decode cX10_init 398 = .ok (.if_icmp .ge 16, 3) := by decide +kernel
theorem dX10_init_401 : decode cX10_init 401 = .ok (.aload_n 0, 1) := by decide +kernel
theorem dX10_init_402 : decode cX10_init 402 = .ok (.getfield 55, 3) := by decide +kernel
theorem dX10_init_405 : decode cX10_init 405 = .ok (.iload_n 1, 1) := by decide +kernel
theorem dX10_init_406 : decode cX10_init 406 = .ok (.iconst (-1), 1) := by decide +kernel
theorem dX10_init_407 : decode cX10_init 407 = .ok (.iastore, 1) := by decide +kernel
theorem dX10_init_408 : decode cX10_init 408 = .ok (.iinc 1 1, 3) := by decide +kernel
theorem dX10_init_411 : decode cX10_init 411 = .ok (.goto (-16), 3) := by decide +kernel
theorem dX10_init_414 : decode cX10_init 414 = .ok (.return_, 1) := by decide +kernel
theorem dX10_thrown_0 : decode cX10_thrown 0 = .ok (.aload_n 0, 1) := by decide +kernel
theorem dX10_thrown_1 : decode cX10_thrown 1 = .ok (.getfield 150, 3) := by decide +kernel
theorem dX10_thrown_4 : decode cX10_thrown 4 = .ok (.ireturn, 1) := by decide +kernel
theorem dX10_refused_0 : decode cX10_refused 0 = .ok (.aload_n 0, 1) := by decide +kernel
theorem dX10_refused_1 : decode cX10_refused 1 = .ok (.iload_n 1, 1) := by decide +kernel
theorem dX10_refused_2 : decode cX10_refused 2 = .ok (.putfield 150, 3) := by decide +kernel
theorem dX10_refused_5 : decode cX10_refused 5 = .ok (.iload_n 1, 1) := by decide +kernel
theorem dX10_refused_6 : decode cX10_refused 6 = .ok (.ifCond .eq 7, 3) := by decide +kernel
theorem dX10_refused_9 : decode cX10_refused 9 = .ok (.iconst 1, 1) := by decide +kernel
theorem dX10_refused_10 : decode cX10_refused 10 = .ok (.goto 4, 3) := by decide +kernel
theorem dX10_refused_13 : decode cX10_refused 13 = .ok (.iconst 0, 1) := by decide +kernel
theorem dX10_refused_14 : decode cX10_refused 14 = .ok (.ireturn, 1) := by decide +kernel
theorem dX10_fine_0 : decode cX10_fine 0 = .ok (.aload_n 0, 1) := by decide +kernel
theorem dX10_fine_1 : decode cX10_fine 1 = .ok (.iconst 0, 1) := by decide +kernel
theorem dX10_fine_2 : decode cX10_fine 2 = .ok (.putfield 150, 3) := by decide +kernel
theorem dX10_fine_5 : decode cX10_fine 5 = .ok (.iload_n 1, 1) := by decide +kernel
theorem dX10_fine_6 : decode cX10_fine 6 = .ok (.ireturn, 1) := by decide +kernel
theorem dX10_in_0 : decode cX10_in 0 = .ok (.iload_n 0, 1) := by decide +kernel
theorem dX10_in_1 : decode cX10_in 1 = .ok (.iload_n 1, 1) := by decide +kernel
theorem dX10_in_2 : decode cX10_in 2 = .ok (.if_icmp .lt 12, 3) := by decide +kernel
theorem dX10_in_5 : decode cX10_in 5 = .ok (.iload_n 0, 1) := by decide +kernel
theorem dX10_in_6 : decode cX10_in 6 = .ok (.iload_n 2, 1) := by decide +kernel
theorem dX10_in_7 : decode cX10_in 7 = .ok (.if_icmp .gt 7, 3) := by decide +kernel
theorem dX10_in_10 : decode cX10_in 10 = .ok (.iconst 1, 1) := by decide +kernel
theorem dX10_in_11 : decode cX10_in 11 = .ok (.goto 4, 3) := by decide +kernel
theorem dX10_in_14 : decode cX10_in 14 = .ok (.iconst 0, 1) := by decide +kernel
theorem dX10_in_15 : decode cX10_in 15 = .ok (.ireturn, 1) := by decide +kernel
set_option maxRecDepth 20000 in
theorem ggX10_isTable_X10_in : GoodIn wsX10_isTable wsX10_in := goodIn_r _ [5] (by decide +kernel) (by decide +kernel)
set_option maxRecDepth 20000 in
theorem gX10_isTable_X10_in : GoodIn wsX10_isTable (va_wsS RX10 157 yX10_in wsX10_in) := goodIn_app (goodIn_of _ (by decide +kernel)) ggX10_isTable_X10_in
theorem dX10_isTable_0 : decode cX10_isTable 0 = .ok (.iload_n 1, 1) := by decide +kernel
theorem dX10_isTable_1 : decode cX10_isTable 1 = .ok (.iconst 0, 1) := by decide +kernel
theorem dX10_isTable_2 : decode cX10_isTable 2 = .ok (.aload_n 0, 1) := by decide +kernel
theorem dX10_isTable_3 : decode cX10_isTable 3 = .ok (.getfield 154, 3) := by decide +kernel
theorem dX10_isTable_6 : decode cX10_isTable 6 = .ok (.iconst 1, 1) := by decide +kernel
theorem dX10_isTable_7 : decode cX10_isTable 7 = .ok (.isub, 1) := by decide +kernel
theorem dX10_isTable_8 : decode cX10_isTable 8 = .ok (.invokestatic 157, 3) := by decide +kernel
theorem dX10_isTable_11 : decode cX10_isTable 11 = .ok (.ireturn, 1) := by decide +kernel
set_option maxRecDepth 20000 in
theorem ggX10_isSwitch_X10_isTable : GoodIn wsX10_isSwitch wsX10_isTable := goodIn_r _ [6, 7, 8, 9, 5, 10, 11, 12, 13, 14, 15, 16, 17, 18, 19, 20, 21, 22, 23, 24, 25, 26, 27, 28, 29, 30, 31, 32, 33, 34, 35, 36, 37, 38, 39, 40, 41, 42, 43, 44, 45, 46, 47, 48, 49, 50, 51, 52, 53, 54, 55, 56, 57, 58, 59, 60, 61, 62, 63, 64, 65] (by decide +kernel) (by decide +kernel)
set_option maxRecDepth 20000 in
theorem gX10_isSwitch_X10_isTable : GoodIn wsX10_isSwitch (wsV RX10 161 RX10 yX10_isTable wsX10_isTable) := goodIn_app (goodIn_of _ (by decide +kernel)) ggX10_isSwitch_X10_isTable
set_option maxRecDepth 20000 in
theorem ggX10_isSwitch_X10_in : GoodIn wsX10_isSwitch wsX10_in := goodIn_r _ [10] (by decide +kernel) (by decide +kernel)
set_option maxRecDepth 20000 in
theorem gX10_isSwitch_X10_in : GoodIn wsX10_isSwitch (va_wsS RX10 157 yX10_in wsX10_in) := goodIn_app (goodIn_of _ (by decide +kernel)) ggX10_isSwitch_X10_in
theorem dX10_isSwitch_0 : decode cX10_isSwitch 0 = .ok (.aload_n 0, 1) := by decide +kernel
theorem dX10_isSwitch_1 : decode cX10_isSwitch 1 = .ok (.iload_n 1, 1) := by decide +kernel
theorem dX10_isSwitch_2 : decode cX10_isSwitch 2 = .ok (.invokevirtual 161, 3) := by decide +kernel
theorem dX10_isSwitch_5 : decode cX10_isSwitch 5 = .ok (.ifCond .eq 23, 3) := by decide +kernel
theorem dX10_isSwitch_8 : decode cX10_isSwitch 8 = .ok (.iload_n 2, 1) := by decide +kernel
theorem dX10_isSwitch_9 : decode cX10_isSwitch 9 = .ok (.iconst 0, 1) := by decide +kernel
theorem dX10_isSwitch_10 : decode cX10_isSwitch 10 = .ok (.aload_n 0, 1) := by decide +kernel
theorem dX10_isSwitch_11 : decode cX10_isSwitch 11 = .ok (.getfield 28, 3) := by decide +kernel
theorem dX10_isSwitch_14 : decode cX10_isSwitch 14 = .ok (.iload_n 1, 1) := by decide +kernel
theorem dX10_isSwitch_15 : decode cX10_isSwitch 15 = .ok (.iaload, 1) := by decide +kernel
theorem dX10_isSwitch_16 : decode cX10_isSwitch 16 = .ok (.iconst 1, 1) := by decide +kernel
theorem dX10_isSwitch_17 : decode cX10_isSwitch 17 = .ok (.isub, 1) := by decide +kernel
theorem dX10_isSwitch_18 : decode cX10_isSwitch 18 = .ok (.invokestatic 157, 3) := by decide +kernel
theorem dX10_isSwitch_21 : decode cX10_isSwitch 21 = .ok (.ifCond .eq 7, 3) := by decide +kernel
theorem dX10_isSwitch_24 : decode cX10_isSwitch 24 = .ok (.iconst 1, 1) := by decide +kernel
theorem dX10_isSwitch_25 : decode cX10_isSwitch 25 = .ok (.goto 4, 3) := by decide +kernel
theorem dX10_isSwitch_28 : decode cX10_isSwitch 28 = .ok (.iconst 0, 1) := by decide +kernel
theorem dX10_isSwitch_29 : decode cX10_isSwitch 29 = .ok (.ireturn, 1) := by decide +kernel
set_option maxRecDepth 20000 in
theorem ggX10_isGame_X10_in : GoodIn wsX10_isGame wsX10_in := goodIn_r _ [5] (by decide +kernel) (by decide +kernel)
set_option maxRecDepth 20000 in
theorem gX10_isGame_X10_in : GoodIn wsX10_isGame (va_wsS RX10 157 yX10_in wsX10_in) := goodIn_app (goodIn_of _ (by decide +kernel)) ggX10_isGame_X10_in
theorem dX10_isGame_0 : decode cX10_isGame 0 = .ok (.iload_n 1, 1) := by decide +kernel
theorem dX10_isGame_1 : decode cX10_isGame 1 = .ok (.iconst 0, 1) := by decide +kernel
theorem dX10_isGame_2 : decode cX10_isGame 2 = .ok (.aload_n 0, 1) := by decide +kernel
theorem dX10_isGame_3 : decode cX10_isGame 3 = .ok (.getfield 165, 3) := by decide +kernel
theorem dX10_isGame_6 : decode cX10_isGame 6 = .ok (.iconst 1, 1) := by decide +kernel
theorem dX10_isGame_7 : decode cX10_isGame 7 = .ok (.isub, 1) := by decide +kernel
theorem dX10_isGame_8 : decode cX10_isGame 8 = .ok (.invokestatic 157, 3) := by decide +kernel
theorem dX10_isGame_11 : decode cX10_isGame 11 = .ok (.ireturn, 1) := by decide +kernel
set_option maxRecDepth 20000 in
theorem ggX10_isVan_X10_in : GoodIn wsX10_isVan wsX10_in := goodIn_r _ [4] (by decide +kernel) (by decide +kernel)
set_option maxRecDepth 20000 in
theorem gX10_isVan_X10_in : GoodIn wsX10_isVan (va_wsS RX10 157 yX10_in wsX10_in) := goodIn_app (goodIn_of _ (by decide +kernel)) ggX10_isVan_X10_in
theorem dX10_isVan_0 : decode cX10_isVan 0 = .ok (.iload_n 0, 1) := by decide +kernel
theorem dX10_isVan_1 : decode cX10_isVan 1 = .ok (.iconst 0, 1) := by decide +kernel
theorem dX10_isVan_2 : decode cX10_isVan 2 = .ok (.iconst 1, 1) := by decide +kernel
theorem dX10_isVan_3 : decode cX10_isVan 3 = .ok (.invokestatic 157, 3) := by decide +kernel
theorem dX10_isVan_6 : decode cX10_isVan 6 = .ok (.ireturn, 1) := by decide +kernel
theorem dX10_isFree_0 : decode cX10_isFree 0 = .ok (.aload_n 0, 1) := by decide +kernel
theorem dX10_isFree_1 : decode cX10_isFree 1 = .ok (.getfield 25, 3) := by decide +kernel
theorem dX10_isFree_4 : decode cX10_isFree 4 = .ok (.iload_n 1, 1) := by decide +kernel
theorem dX10_isFree_5 : decode cX10_isFree 5 = .ok (.iaload, 1) := by decide +kernel
theorem dX10_isFree_6 : decode cX10_isFree 6 = .ok (.iconst (-1), 1) := by decide +kernel
theorem dX10_isFree_7 : decode cX10_isFree 7 = .ok (.if_icmp .ne 7, 3) := by decide +kernel
theorem dX10_isFree_10 : decode cX10_isFree 10 = .ok (.iconst 1, 1) := by decide +kernel
theorem dX10_isFree_11 : decode cX10_isFree 11 = .ok (.goto 4, 3) := by decide +kernel
theorem dX10_isFree_14 : decode cX10_isFree 14 = .ok (.iconst 0, 1) := by decide +kernel
theorem dX10_isFree_15 : decode cX10_isFree 15 = .ok (.ireturn, 1) := by decide +kernel
set_option maxRecDepth 20000 in
theorem ggX10_addTable_X10_in : GoodIn wsX10_addTable wsX10_in := goodIn_r _ [8] (by decide +kernel) (by decide +kernel)
set_option maxRecDepth 20000 in
theorem gX10_addTable_X10_in : GoodIn wsX10_addTable (va_wsS RX10 157 yX10_in wsX10_in) := goodIn_app (goodIn_of _ (by decide +kernel)) ggX10_addTable_X10_in
set_option maxRecDepth 20000 in
theorem ggX10_addTable_X10_refused : GoodIn wsX10_addTable wsX10_refused := goodIn_r _ [12, 13, 14, 15, 16, 17, 18, 19, 20, 21, 22, 23, 24, 25, 26, 27, 28, 29, 30, 31, 32, 33, 34, 35, 36, 37, 38, 39, 40, 41, 42, 43, 44, 45, 46, 47, 48, 49, 50, 51, 52, 53, 54, 55, 56, 57, 58, 59, 60, 61, 62, 63, 64, 65, 66, 67, 68] (by decide +kernel) (by decide +kernel)
set_option maxRecDepth 20000 in
theorem gX10_addTable_X10_refused : GoodIn wsX10_addTable (wsV RX10 168 RX10 yX10_refused wsX10_refused) := goodIn_app (goodIn_of _ (by decide +kernel)) ggX10_addTable_X10_refused
theorem dX10_addTable_0 : decode cX10_addTable 0 = .ok (.iload_n 1, 1) := by decide +kernel
theorem dX10_addTable_1 : decode cX10_addTable 1 = .ok (.iconst 0, 1) := by decide +kernel
theorem dX10_addTable_2 : decode cX10_addTable 2 = .ok (.bipush 100, 2) := by decide +kernel
theorem dX10_addTable_4 : decode cX10_addTable 4 = .ok (.invokestatic 157, 3) := by decide +kernel
theorem dX10_addTable_7 : decode cX10_addTable 7 = .ok (.ifCond .eq 17, 3) := by decide +kernel
theorem dX10_addTable_10 : decode cX10_addTable 10 = .ok (.iload_n 2, 1) := by decide +kernel
theorem dX10_addTable_11 : decode cX10_addTable 11 = .ok (.iconst 1, 1) := by decide +kernel
theorem dX10_addTable_12 : decode cX10_addTable 12 = .ok (.bipush 9, 2) := by decide +kernel
theorem dX10_addTable_14 : decode cX10_addTable 14 = .ok (.invokestatic 157, 3) := by decide +kernel
theorem dX10_addTable_17 : decode cX10_addTable 17 = .ok (.ifCond .eq 7, 3) := by decide +kernel
theorem dX10_addTable_20 : decode cX10_addTable 20 = .ok (.iconst 1, 1) := by decide +kernel
theorem dX10_addTable_21 : decode cX10_addTable 21 = .ok (.goto 4, 3) := by decide +kernel
theorem dX10_addTable_24 : decode cX10_addTable 24 = .ok (.iconst 0, 1) := by decide +kernel
theorem dX10_addTable_25 : decode cX10_addTable 25 = .ok (.istore_n 3, 1) := by decide +kernel
theorem dX10_addTable_26 : decode cX10_addTable 26 = .ok (.aload_n 0, 1) := by decide +kernel
theorem dX10_addTable_27 : decode cX10_addTable 27 = .ok (.iload_n 3, 1) := by decide +kernel
theorem dX10_addTable_28 : decode cX10_addTable 28 = .ok (.ifCond .ne 7, 3) := by decide +kernel
theorem dX10_addTable_31 : decode cX10_addTable 31 = .ok (.iconst 1, 1) := by decide +kernel
theorem dX10_addTable_32 : decode cX10_addTable 32 = .ok (.goto 17, 3) := by decide +kernel
theorem dX10_addTable_35 : decode cX10_addTable 35 = .ok (.aload_n 0, 1) := by decide +kernel
theorem dX10_addTable_36 : decode cX10_addTable 36 = .ok (.getfield 154, 3) := by decide +kernel
theorem dX10_addTable_39 : decode cX10_addTable 39 = .ok (.bipush 6, 2) := by decide +kernel
theorem dX10_addTable_41 : decode cX10_addTable 41 = .ok (.if_icmp .ne 7, 3) := by decide +kernel
theorem dX10_addTable_44 : decode cX10_addTable 44 = .ok (.iconst 2, 1) := by decide +kernel
theorem dX10_addTable_45 : decode cX10_addTable 45 = .ok (.goto 4, 3) := by decide +kernel
theorem dX10_addTable_48 : decode cX10_addTable 48 = .ok (.iconst 0, 1) := by decide +kernel
theorem dX10_addTable_49 : decode cX10_addTable 49 = .ok (.invokevirtual 168, 3) := by decide +kernel
theorem dX10_addTable_52 : decode cX10_addTable 52 = .ok (.ifCond .eq 5, 3) := by decide +kernel
theorem dX10_addTable_55 : decode cX10_addTable 55 = .ok (.iconst 0, 1) := by decide +kernel
theorem dX10_addTable_56 : decode cX10_addTable 56 = .ok (.ireturn, 1) := by decide +kernel
theorem dX10_addTable_57 : decode cX10_addTable 57 = .ok (.aload_n 0, 1) := by decide +kernel
theorem dX10_addTable_58 : decode cX10_addTable 58 = .ok (.getfield 7, 3) := by decide +kernel
theorem dX10_addTable_61 : decode cX10_addTable 61 = .ok (.aload_n 0, 1) := by decide +kernel
theorem dX10_addTable_62 : decode cX10_addTable 62 = .ok (.getfield 154, 3) := by decide +kernel
theorem dX10_addTable_65 : decode cX10_addTable 65 = .ok (.iload_n 1, 1) := by decide +kernel
theorem dX10_addTable_66 : decode cX10_addTable 66 = .ok (.iastore, 1) := by decide +kernel
theorem dX10_addTable_67 : decode cX10_addTable 67 = .ok (.aload_n 0, 1) := by decide +kernel
theorem dX10_addTable_68 : decode cX10_addTable 68 = .ok (.getfield 13, 3) := by decide +kernel
theorem dX10_addTable_71 : decode cX10_addTable 71 = .ok (.aload_n 0, 1) := by decide +kernel
theorem dX10_addTable_72 : decode cX10_addTable 72 = .ok (.getfield 154, 3) := by decide +kernel
theorem dX10_addTable_75 : decode cX10_addTable 75 = .ok (.iload_n 2, 1) := by decide +kernel
theorem dX10_addTable_76 : decode cX10_addTable 76 = .ok (.iastore, 1) := by decide +kernel
theorem dX10_addTable_77 : decode cX10_addTable 77 = .ok (.aload_n 0, 1) := by decide +kernel
theorem dX10_addTable_78 : decode cX10_addTable 78 = .ok (.getfield 25, 3) := by decide +kernel
theorem dX10_addTable_81 : decode cX10_addTable 81 = .ok (.aload_n 0, 1) := by decide +kernel
theorem dX10_addTable_82 : decode cX10_addTable 82 = .ok (.getfield 154, 3) := by decide +kernel
theorem dX10_addTable_85 : decode cX10_addTable 85 = .ok (.iconst (-1), 1) := by decide +kernel
theorem dX10_addTable_86 : decode cX10_addTable 86 = .ok (.iastore, 1) := by decide +kernel
theorem dX10_addTable_87 : decode cX10_addTable 87 = .ok (.aload_n 0, 1) := by decide +kernel
theorem dX10_addTable_88 : decode cX10_addTable 88 = .ok (.dup, 1) := by decide +kernel
theorem dX10_addTable_89 : decode cX10_addTable 89 = .ok (.getfield 154, 3) := by decide +kernel
theorem dX10_addTable_92 : decode cX10_addTable 92 = .ok (.iconst 1, 1) := by decide +kernel
theorem dX10_addTable_93 : decode cX10_addTable 93 = .ok (.iadd, 1) := by decide +kernel
theorem dX10_addTable_94 : decode cX10_addTable 94 = .ok (.putfield 154, 3) := by decide +kernel
theorem dX10_addTable_97 : decode cX10_addTable 97 = .ok (.aload_n 0, 1) := by decide +kernel
theorem dX10_addTable_98 : decode cX10_addTable 98 = .ok (.getfield 154, 3) := by decide +kernel
theorem dX10_addTable_101 : decode cX10_addTable 101 = .ok (.iconst 1, 1) := by decide +kernel
theorem dX10_addTable_102 : decode cX10_addTable 102 = .ok (.isub, 1) := by decide +kernel
theorem dX10_addTable_103 : decode cX10_addTable 103 = .ok (.ireturn, 1) := by decide +kernel
set_option maxRecDepth 20000 in
theorem ggX10_addBumper_X10_in : GoodIn wsX10_addBumper wsX10_in := goodIn_r _ [10] (by decide +kernel) (by decide +kernel)
set_option maxRecDepth 20000 in
theorem gX10_addBumper_X10_in : GoodIn wsX10_addBumper (va_wsS RX10 157 yX10_in wsX10_in) := goodIn_app (goodIn_of _ (by decide +kernel)) ggX10_addBumper_X10_in
set_option maxRecDepth 20000 in
theorem ggX10_addBumper_X10_isTable : GoodIn wsX10_addBumper wsX10_isTable := goodIn_r _ [14, 15, 7, 8, 9, 10, 26, 27, 28, 29, 30, 31, 32, 33, 34, 35, 36, 37, 38, 39, 40, 41, 42, 43, 44, 45, 46, 47, 48, 49, 50, 51, 52, 53, 54, 55, 56, 57, 58, 59, 60, 61, 62, 63, 64, 65, 66, 67, 68, 69, 70, 71, 72, 73, 74, 75, 76, 77, 78, 79, 80] (by decide +kernel) (by decide +kernel)
set_option maxRecDepth 20000 in
theorem gX10_addBumper_X10_isTable : GoodIn wsX10_addBumper (wsV RX10 161 RX10 yX10_isTable wsX10_isTable) := goodIn_app (goodIn_of _ (by decide +kernel)) ggX10_addBumper_X10_isTable
set_option maxRecDepth 20000 in
theorem ggX10_addBumper_X10_isFree : GoodIn wsX10_addBumper wsX10_isFree := goodIn_r _ [19, 20, 26, 27, 28, 29, 30, 31, 32, 33, 34, 35, 36, 37, 38, 39, 40, 41, 42, 43, 44, 45, 46, 47, 48, 49, 50, 51, 52, 53, 54, 55, 56, 57, 58, 59, 60, 61, 62, 63, 64, 65, 66, 67, 68, 69, 70, 71, 72, 73, 74, 75, 76, 77, 78, 79, 80] (by decide +kernel) (by decide +kernel)
set_option maxRecDepth 20000 in
theorem gX10_addBumper_X10_isFree : GoodIn wsX10_addBumper (wsV RX10 171 RX10 yX10_isFree wsX10_isFree) := goodIn_app (goodIn_of _ (by decide +kernel)) ggX10_addBumper_X10_isFree
set_option maxRecDepth 20000 in
theorem ggX10_addBumper_X10_refused : GoodIn wsX10_addBumper wsX10_refused := goodIn_r _ [24, 25, 26, 27, 28, 29, 30, 31, 32, 33, 34, 35, 36, 37, 38, 39, 40, 41, 42, 43, 44, 45, 46, 47, 48, 49, 50, 51, 52, 53, 54, 55, 56, 57, 58, 59, 60, 61, 62, 63, 64, 65, 66, 67, 68, 69, 70, 71, 72, 73, 74, 75, 76, 77, 78, 79, 80] (by decide +kernel) (by decide +kernel)
set_option maxRecDepth 20000 in
theorem gX10_addBumper_X10_refused : GoodIn wsX10_addBumper (wsV RX10 168 RX10 yX10_refused wsX10_refused) := goodIn_app (goodIn_of _ (by decide +kernel)) ggX10_addBumper_X10_refused
theorem dX10_addBumper_0 : decode cX10_addBumper 0 = .ok (.iload_n 2, 1) := by decide +kernel
theorem dX10_addBumper_1 : decode cX10_addBumper 1 = .ok (.iconst 0, 1) := by decide +kernel
theorem dX10_addBumper_2 : decode cX10_addBumper 2 = .ok (.sipush 159, 3) := by decide +kernel
theorem dX10_addBumper_5 : decode cX10_addBumper 5 = .ok (.invokestatic 157, 3) := by decide +kernel
theorem dX10_addBumper_8 : decode cX10_addBumper 8 = .ok (.ifCond .eq 70, 3) := by decide +kernel
theorem dX10_addBumper_11 : decode cX10_addBumper 11 = .ok (.iload_n 3, 1) := by decide +kernel
theorem dX10_addBumper_12 : decode cX10_addBumper 12 = .ok (.iconst 0, 1) := by decide +kernel
theorem dX10_addBumper_13 : decode cX10_addBumper 13 = .ok (.sipush 239, 3) := by decide +kernel
theorem dX10_addBumper_16 : decode cX10_addBumper 16 = .ok (.invokestatic 157, 3) := by decide +kernel
theorem dX10_addBumper_19 : decode cX10_addBumper 19 = .ok (.ifCond .eq 59, 3) := by decide +kernel
theorem dX10_addBumper_22 : decode cX10_addBumper 22 = .ok (.iload 4, 2) := by decide +kernel
theorem dX10_addBumper_24 : decode cX10_addBumper 24 = .ok (.bipush 101, 2) := by decide +kernel
theorem dX10_addBumper_26 : decode cX10_addBumper 26 = .ok (.sipush 6060, 3) := by decide +kernel
theorem dX10_addBumper_29 : decode cX10_addBumper 29 = .ok (.invokestatic 157, 3) := by decide +kernel
theorem dX10_addBumper_32 : decode cX10_addBumper 32 = .ok (.ifCond .eq 46, 3) := by decide +kernel
theorem dX10_addBumper_35 : decode cX10_addBumper 35 = .ok (.iload 4, 2) := by decide +kernel
theorem dX10_addBumper_37 : decode cX10_addBumper 37 = .ok (.bipush 100, 2) := by decide +kernel
theorem dX10_addBumper_39 : decode cX10_addBumper 39 = .ok (.idiv, 1) := by decide +kernel
theorem dX10_addBumper_40 : decode cX10_addBumper 40 = .ok (.iconst 1, 1) := by decide +kernel
theorem dX10_addBumper_41 : decode cX10_addBumper 41 = .ok (.bipush 60, 2) := by decide +kernel
theorem dX10_addBumper_43 : decode cX10_addBumper 43 = .ok (.invokestatic 157, 3) := by decide +kernel
theorem dX10_addBumper_46 : decode cX10_addBumper 46 = .ok (.ifCond .eq 32, 3) := by decide +kernel
theorem dX10_addBumper_49 : decode cX10_addBumper 49 = .ok (.iload 4, 2) := by decide +kernel
theorem dX10_addBumper_51 : decode cX10_addBumper 51 = .ok (.bipush 100, 2) := by decide +kernel
theorem dX10_addBumper_53 : decode cX10_addBumper 53 = .ok (.irem, 1) := by decide +kernel
theorem dX10_addBumper_54 : decode cX10_addBumper 54 = .ok (.iconst 1, 1) := by decide +kernel
theorem dX10_addBumper_55 : decode cX10_addBumper 55 = .ok (.bipush 60, 2) := by decide +kernel
theorem dX10_addBumper_57 : decode cX10_addBumper 57 = .ok (.invokestatic 157, 3) := by decide +kernel
theorem dX10_addBumper_60 : decode cX10_addBumper 60 = .ok (.ifCond .eq 18, 3) := by decide +kernel
theorem dX10_addBumper_63 : decode cX10_addBumper 63 = .ok (.iload 5, 2) := by decide +kernel
theorem dX10_addBumper_65 : decode cX10_addBumper 65 = .ok (.iconst 0, 1) := by decide +kernel
theorem dX10_addBumper_66 : decode cX10_addBumper 66 = .ok (.bipush 20, 2) := by decide +kernel
theorem dX10_addBumper_68 : decode cX10_addBumper 68 = .ok (.invokestatic 157, 3) := by decide +kernel
theorem dX10_addBumper_71 : decode cX10_addBumper 71 = .ok (.ifCond .eq 7, 3) := by decide +kernel
theorem dX10_addBumper_74 : decode cX10_addBumper 74 = .ok (.iconst 1, 1) := by decide +kernel
theorem dX10_addBumper_75 : decode cX10_addBumper 75 = .ok (.goto 4, 3) := by decide +kernel
theorem dX10_addBumper_78 : decode cX10_addBumper 78 = .ok (.iconst 0, 1) := by decide +kernel
theorem dX10_addBumper_79 : decode cX10_addBumper 79 = .ok (.istore 6, 2) := by decide +kernel
theorem dX10_addBumper_81 : decode cX10_addBumper 81 = .ok (.aload_n 0, 1) := by decide +kernel
theorem dX10_addBumper_82 : decode cX10_addBumper 82 = .ok (.iload_n 1, 1) := by decide +kernel
theorem dX10_addBumper_83 : decode cX10_addBumper 83 = .ok (.invokevirtual 161, 3) := by decide +kernel
theorem dX10_addBumper_86 : decode cX10_addBumper 86 = .ok (.ifCond .eq 31, 3) := by decide +kernel
theorem dX10_addBumper_89 : decode cX10_addBumper 89 = .ok (.iload 6, 2) := by decide +kernel
theorem dX10_addBumper_91 : decode cX10_addBumper 91 = .ok (.ifCond .eq 26, 3) := by decide +kernel
theorem dX10_addBumper_94 : decode cX10_addBumper 94 = .ok (.aload_n 0, 1) := by decide +kernel
theorem dX10_addBumper_95 : decode cX10_addBumper 95 = .ok (.iload_n 1, 1) := by decide +kernel
theorem dX10_addBumper_96 : decode cX10_addBumper 96 = .ok (.invokevirtual 171, 3) := by decide +kernel
theorem dX10_addBumper_99 : decode cX10_addBumper 99 = .ok (.ifCond .eq 18, 3) := by decide +kernel
theorem dX10_addBumper_102 : decode cX10_addBumper 102 = .ok (.aload_n 0, 1) := by decide +kernel
theorem dX10_addBumper_103 : decode cX10_addBumper 103 = .ok (.getfield 28, 3) := by decide +kernel
theorem dX10_addBumper_106 : decode cX10_addBumper 106 = .ok (.iload_n 1, 1) := by decide +kernel
theorem dX10_addBumper_107 : decode cX10_addBumper 107 = .ok (.iaload, 1) := by decide +kernel
theorem dX10_addBumper_108 : decode cX10_addBumper 108 = .ok (.bipush 8, 2) := by decide +kernel
theorem dX10_addBumper_110 : decode cX10_addBumper 110 = .ok (.if_icmp .ge 7, 3) := by decide +kernel
theorem dX10_addBumper_113 : decode cX10_addBumper 113 = .ok (.iconst 1, 1) := by decide +kernel
theorem dX10_addBumper_114 : decode cX10_addBumper 114 = .ok (.goto 4, 3) := by decide +kernel
theorem dX10_addBumper_117 : decode cX10_addBumper 117 = .ok (.iconst 0, 1) := by decide +kernel
theorem dX10_addBumper_118 : decode cX10_addBumper 118 = .ok (.istore 7, 2) := by decide +kernel
theorem dX10_addBumper_120 : decode cX10_addBumper 120 = .ok (.aload_n 0, 1) := by decide +kernel
theorem dX10_addBumper_121 : decode cX10_addBumper 121 = .ok (.aload_n 0, 1) := by decide +kernel
theorem dX10_addBumper_122 : decode cX10_addBumper 122 = .ok (.iload_n 1, 1) := by decide +kernel
theorem dX10_addBumper_123 : decode cX10_addBumper 123 = .ok (.invokevirtual 161, 3) := by decide +kernel
theorem dX10_addBumper_126 : decode cX10_addBumper 126 = .ok (.ifCond .ne 7, 3) := by decide +kernel
theorem dX10_addBumper_129 : decode cX10_addBumper 129 = .ok (.iconst 1, 1) := by decide +kernel
theorem dX10_addBumper_130 : decode cX10_addBumper 130 = .ok (.goto 22, 3) := by decide +kernel
theorem dX10_addBumper_133 : decode cX10_addBumper 133 = .ok (.iload 6, 2) := by decide +kernel
theorem dX10_addBumper_135 : decode cX10_addBumper 135 = .ok (.ifCond .ne 7, 3) := by decide +kernel
theorem dX10_addBumper_138 : decode cX10_addBumper 138 = .ok (.iconst 2, 1) := by decide +kernel
theorem dX10_addBumper_139 : decode cX10_addBumper 139 = .ok (.goto 13, 3) := by decide +kernel
theorem dX10_addBumper_142 : decode cX10_addBumper 142 = .ok (.iload 7, 2) := by decide +kernel
theorem dX10_addBumper_144 : decode cX10_addBumper 144 = .ok (.ifCond .eq 7, 3) := by decide +kernel
theorem dX10_addBumper_147 : decode cX10_addBumper 147 = .ok (.iconst 0, 1) := by decide +kernel
theorem dX10_addBumper_148 : decode cX10_addBumper 148 = .ok (.goto 4, 3) := by decide +kernel
theorem dX10_addBumper_151 : decode cX10_addBumper 151 = .ok (.iconst 3, 1) := by decide +kernel
theorem dX10_addBumper_152 : decode cX10_addBumper 152 = .ok (.invokevirtual 168, 3) := by decide +kernel
theorem dX10_addBumper_155 : decode cX10_addBumper 155 = .ok (.ifCond .eq 5, 3) := by decide +kernel
theorem dX10_addBumper_158 : decode cX10_addBumper 158 = .ok (.iconst 0, 1) := by decide +kernel
theorem dX10_addBumper_159 : decode cX10_addBumper 159 = .ok (.ireturn, 1) := by decide +kernel
theorem dX10_addBumper_160 : decode cX10_addBumper 160 = .ok (.bipush 8, 2) := by decide +kernel
theorem dX10_addBumper_162 : decode cX10_addBumper 162 = .ok (.iload_n 1, 1) := by decide +kernel
theorem dX10_addBumper_163 : decode cX10_addBumper 163 = .ok (.imul, 1) := by decide +kernel
theorem dX10_addBumper_164 : decode cX10_addBumper 164 = .ok (.aload_n 0, 1) := by decide +kernel
theorem dX10_addBumper_165 : decode cX10_addBumper 165 = .ok (.getfield 28, 3) := by decide +kernel
theorem dX10_addBumper_168 : decode cX10_addBumper 168 = .ok (.iload_n 1, 1) := by decide +kernel
theorem dX10_addBumper_169 : decode cX10_addBumper 169 = .ok (.iaload, 1) := by decide +kernel
theorem dX10_addBumper_170 : decode cX10_addBumper 170 = .ok (.iadd, 1) := by decide +kernel
theorem dX10_addBumper_171 : decode cX10_addBumper 171 = .ok (.istore 8, 2) := by decide +kernel
theorem dX10_addBumper_173 : decode cX10_addBumper 173 = .ok (.aload_n 0, 1) := by decide +kernel
theorem dX10_addBumper_174 : decode cX10_addBumper 174 = .ok (.getfield 31, 3) := by decide +kernel
theorem dX10_addBumper_177 : decode cX10_addBumper 177 = .ok (.iload 8, 2) := by decide +kernel
theorem dX10_addBumper_179 : decode cX10_addBumper 179 = .ok (.iload_n 2, 1) := by decide +kernel
theorem dX10_addBumper_180 : decode cX10_addBumper 180 = .ok (.iastore, 1) := by decide +kernel
theorem dX10_addBumper_181 : decode cX10_addBumper 181 = .ok (.aload_n 0, 1) := by decide +kernel
theorem dX10_addBumper_182 : decode cX10_addBumper 182 = .ok (.getfield 34, 3) := by decide +kernel
theorem dX10_addBumper_185 : decode cX10_addBumper 185 = .ok (.iload 8, 2) := by decide +kernel
theorem dX10_addBumper_187 : decode cX10_addBumper 187 = .ok (.iload_n 3, 1) := by decide +kernel
theorem dX10_addBumper_188 : decode cX10_addBumper 188 = .ok (.iastore, 1) := by decide +kernel
theorem dX10_addBumper_189 : decode cX10_addBumper 189 = .ok (.aload_n 0, 1) := by decide +kernel
theorem dX10_addBumper_190 : decode cX10_addBumper 190 = .ok (.getfield 37, 3) := by decide +kernel
theorem dX10_addBumper_193 : decode cX10_addBumper 193 = .ok (.iload 8, 2) := by decide +kernel
theorem dX10_addBumper_195 : decode cX10_addBumper 195 = .ok (.iload 4, 2) := by decide +kernel
theorem dX10_addBumper_197 : decode cX10_addBumper 197 = .ok (.bipush 100, 2) := by decide +kernel
theorem dX10_addBumper_199 : decode cX10_addBumper 199 = .ok (.idiv, 1) := by decide +kernel
theorem dX10_addBumper_200 : decode cX10_addBumper 200 = .ok (.iastore, 1) := by decide +kernel
theorem dX10_addBumper_201 : decode cX10_addBumper 201 = .ok (.aload_n 0, 1) := by decide +kernel
theorem dX10_addBumper_202 : decode cX10_addBumper 202 = .ok (.getfield 40, 3) := by decide +kernel
theorem dX10_addBumper_205 : decode cX10_addBumper 205 = .ok (.iload 8, 2) := by decide +kernel
theorem dX10_addBumper_207 : decode cX10_addBumper 207 = .ok (.iload 4, 2) := by decide +kernel
theorem dX10_addBumper_209 : decode cX10_addBumper 209 = .ok (.bipush 100, 2) := by decide +kernel
theorem dX10_addBumper_211 : decode cX10_addBumper 211 = .ok (.irem, 1) := by decide +kernel
theorem dX10_addBumper_212 : decode cX10_addBumper 212 = .ok (.iastore, 1) := by decide +kernel
theorem dX10_addBumper_213 : decode cX10_addBumper 213 = .ok (.aload_n 0, 1) := by decide +kernel
theorem dX10_addBumper_214 : decode cX10_addBumper 214 = .ok (.getfield 43, 3) := by decide +kernel
theorem dX10_addBumper_217 : decode cX10_addBumper 217 = .ok (.iload 8, 2) := by decide +kernel
theorem dX10_addBumper_219 : decode cX10_addBumper 219 = .ok (.iload 5, 2) := by decide +kernel
theorem dX10_addBumper_221 : decode cX10_addBumper 221 = .ok (.iastore, 1) := by decide +kernel
theorem dX10_addBumper_222 : decode cX10_addBumper 222 = .ok (.aload_n 0, 1) := by decide +kernel
theorem dX10_addBumper_223 : decode cX10_addBumper 223 = .ok (.getfield 28, 3) := by decide +kernel
theorem dX10_addBumper_226 : decode cX10_addBumper 226 = .ok (.iload_n 1, 1) := by decide +kernel
theorem dX10_addBumper_227 : decode cX10_addBumper 227 = .ok (.dup2, 1) := by decide +kernel
theorem dX10_addBumper_228 : decode cX10_addBumper 228 = .ok (.iaload, 1) := by decide +kernel
theorem dX10_addBumper_229 : decode cX10_addBumper 229 = .ok (.iconst 1, 1) := by decide +kernel
theorem dX10_addBumper_230 : decode cX10_addBumper 230 = .ok (.iadd, 1) := by decide +kernel
theorem dX10_addBumper_231 : decode cX10_addBumper 231 = .ok (.iastore, 1) := by decide +kernel
theorem dX10_addBumper_232 : decode cX10_addBumper 232 = .ok (.aload_n 0, 1) := by decide +kernel
theorem dX10_addBumper_233 : decode cX10_addBumper 233 = .ok (.getfield 28, 3) := by decide +kernel
theorem dX10_addBumper_236 : decode cX10_addBumper 236 = .ok (.iload_n 1, 1) := by decide +kernel
theorem dX10_addBumper_237 : decode cX10_addBumper 237 = .ok (.iaload, 1) := by decide +kernel
theorem dX10_addBumper_238 : decode cX10_addBumper 238 = .ok (.iconst 1, 1) := by decide +kernel
theorem dX10_addBumper_239 : decode cX10_addBumper 239 = .ok (.isub, 1) := by decide +kernel
theorem dX10_addBumper_240 : decode cX10_addBumper 240 = .ok (.ireturn, 1) := by decide +kernel
set_option maxRecDepth 20000 in
theorem ggX10_setPoints_X10_isSwitch : GoodIn wsX10_setPoints wsX10_isSwitch := goodIn_r _ [6, 7, 8, 9, 10, 5, 11, 12, 13, 14, 15, 26, 27, 28, 29, 30, 31, 32, 33, 34, 35, 36, 37, 38, 39, 40, 41, 42, 43, 44, 45, 46, 47, 48, 49, 50, 51, 52, 53, 54, 55, 56, 57, 58, 59, 60, 61, 62, 63, 64, 65, 66, 67, 68, 69, 70, 71, 72, 73, 74, 75, 76, 77, 78, 79, 80] (by decide +kernel) (by decide +kernel)
set_option maxRecDepth 20000 in
theorem gX10_setPoints_X10_isSwitch : GoodIn wsX10_setPoints (wsV RX10 174 RX10 yX10_isSwitch wsX10_isSwitch) := goodIn_app (goodIn_of _ (by decide +kernel)) ggX10_setPoints_X10_isSwitch
set_option maxRecDepth 20000 in
theorem ggX10_setPoints_X10_in : GoodIn wsX10_setPoints wsX10_in := goodIn_r _ [15] (by decide +kernel) (by decide +kernel)
set_option maxRecDepth 20000 in
theorem gX10_setPoints_X10_in : GoodIn wsX10_setPoints (va_wsS RX10 157 yX10_in wsX10_in) := goodIn_app (goodIn_of _ (by decide +kernel)) ggX10_setPoints_X10_in
set_option maxRecDepth 20000 in
theorem ggX10_setPoints_X10_isFree : GoodIn wsX10_setPoints wsX10_isFree := goodIn_r _ [19, 20, 26, 27, 28, 29, 30, 31, 32, 33, 34, 35, 36, 37, 38, 39, 40, 41, 42, 43, 44, 45, 46, 47, 48, 49, 50, 51, 52, 53, 54, 55, 56, 57, 58, 59, 60, 61, 62, 63, 64, 65, 66, 67, 68, 69, 70, 71, 72, 73, 74, 75, 76, 77, 78, 79, 80] (by decide +kernel) (by decide +kernel)
set_option maxRecDepth 20000 in
theorem gX10_setPoints_X10_isFree : GoodIn wsX10_setPoints (wsV RX10 171 RX10 yX10_isFree wsX10_isFree) := goodIn_app (goodIn_of _ (by decide +kernel)) ggX10_setPoints_X10_isFree
set_option maxRecDepth 20000 in
theorem ggX10_setPoints_X10_refused : GoodIn wsX10_setPoints wsX10_refused := goodIn_r _ [24, 25, 26, 27, 28, 29, 30, 31, 32, 33, 34, 35, 36, 37, 38, 39, 40, 41, 42, 43, 44, 45, 46, 47, 48, 49, 50, 51, 52, 53, 54, 55, 56, 57, 58, 59, 60, 61, 62, 63, 64, 65, 66, 67, 68, 69, 70, 71, 72, 73, 74, 75, 76, 77, 78, 79, 80] (by decide +kernel) (by decide +kernel)
set_option maxRecDepth 20000 in
theorem gX10_setPoints_X10_refused : GoodIn wsX10_setPoints (wsV RX10 168 RX10 yX10_refused wsX10_refused) := goodIn_app (goodIn_of _ (by decide +kernel)) ggX10_setPoints_X10_refused
theorem dX10_setPoints_0 : decode cX10_setPoints 0 = .ok (.aload_n 0, 1) := by decide +kernel
theorem dX10_setPoints_1 : decode cX10_setPoints 1 = .ok (.iload_n 1, 1) := by decide +kernel
theorem dX10_setPoints_2 : decode cX10_setPoints 2 = .ok (.iload_n 2, 1) := by decide +kernel
theorem dX10_setPoints_3 : decode cX10_setPoints 3 = .ok (.invokevirtual 174, 3) := by decide +kernel
theorem dX10_setPoints_6 : decode cX10_setPoints 6 = .ok (.istore 4, 2) := by decide +kernel
theorem dX10_setPoints_8 : decode cX10_setPoints 8 = .ok (.iload_n 3, 1) := by decide +kernel
theorem dX10_setPoints_9 : decode cX10_setPoints 9 = .ok (.iconst 0, 1) := by decide +kernel
theorem dX10_setPoints_10 : decode cX10_setPoints 10 = .ok (.sipush 1000, 3) := by decide +kernel
theorem dX10_setPoints_13 : decode cX10_setPoints 13 = .ok (.invokestatic 157, 3) := by decide +kernel
theorem dX10_setPoints_16 : decode cX10_setPoints 16 = .ok (.istore 5, 2) := by decide +kernel
theorem dX10_setPoints_18 : decode cX10_setPoints 18 = .ok (.aload_n 0, 1) := by decide +kernel
theorem dX10_setPoints_19 : decode cX10_setPoints 19 = .ok (.iload 4, 2) := by decide +kernel
theorem dX10_setPoints_21 : decode cX10_setPoints 21 = .ok (.ifCond .ne 7, 3) := by decide +kernel
theorem dX10_setPoints_24 : decode cX10_setPoints 24 = .ok (.iconst 1, 1) := by decide +kernel
theorem dX10_setPoints_25 : decode cX10_setPoints 25 = .ok (.goto 25, 3) := by decide +kernel
theorem dX10_setPoints_28 : decode cX10_setPoints 28 = .ok (.iload 5, 2) := by decide +kernel
theorem dX10_setPoints_30 : decode cX10_setPoints 30 = .ok (.ifCond .ne 7, 3) := by decide +kernel
theorem dX10_setPoints_33 : decode cX10_setPoints 33 = .ok (.iconst 2, 1) := by decide +kernel
theorem dX10_setPoints_34 : decode cX10_setPoints 34 = .ok (.goto 16, 3) := by decide +kernel
theorem dX10_setPoints_37 : decode cX10_setPoints 37 = .ok (.aload_n 0, 1) := by decide +kernel
theorem dX10_setPoints_38 : decode cX10_setPoints 38 = .ok (.iload_n 1, 1) := by decide +kernel
theorem dX10_setPoints_39 : decode cX10_setPoints 39 = .ok (.invokevirtual 171, 3) := by decide +kernel
theorem dX10_setPoints_42 : decode cX10_setPoints 42 = .ok (.ifCond .eq 7, 3) := by decide +kernel
theorem dX10_setPoints_45 : decode cX10_setPoints 45 = .ok (.iconst 0, 1) := by decide +kernel
theorem dX10_setPoints_46 : decode cX10_setPoints 46 = .ok (.goto 4, 3) := by decide +kernel
theorem dX10_setPoints_49 : decode cX10_setPoints 49 = .ok (.iconst 3, 1) := by decide +kernel
theorem dX10_setPoints_50 : decode cX10_setPoints 50 = .ok (.invokevirtual 168, 3) := by decide +kernel
theorem dX10_setPoints_53 : decode cX10_setPoints 53 = .ok (.ifCond .eq 5, 3) := by decide +kernel
theorem dX10_setPoints_56 : decode cX10_setPoints 56 = .ok (.iconst 0, 1) := by decide +kernel
theorem dX10_setPoints_57 : decode cX10_setPoints 57 = .ok (.ireturn, 1) := by decide +kernel
theorem dX10_setPoints_58 : decode cX10_setPoints 58 = .ok (.aload_n 0, 1) := by decide +kernel
theorem dX10_setPoints_59 : decode cX10_setPoints 59 = .ok (.getfield 46, 3) := by decide +kernel
theorem dX10_setPoints_62 : decode cX10_setPoints 62 = .ok (.bipush 8, 2) := by decide +kernel
theorem dX10_setPoints_64 : decode cX10_setPoints 64 = .ok (.iload_n 1, 1) := by decide +kernel
theorem dX10_setPoints_65 : decode cX10_setPoints 65 = .ok (.imul, 1) := by decide +kernel
theorem dX10_setPoints_66 : decode cX10_setPoints 66 = .ok (.iload_n 2, 1) := by decide +kernel
theorem dX10_setPoints_67 : decode cX10_setPoints 67 = .ok (.iadd, 1) := by decide +kernel
theorem dX10_setPoints_68 : decode cX10_setPoints 68 = .ok (.iaload, 1) := by decide +kernel
theorem dX10_setPoints_69 : decode cX10_setPoints 69 = .ok (.istore 6, 2) := by decide +kernel
theorem dX10_setPoints_71 : decode cX10_setPoints 71 = .ok (.aload_n 0, 1) := by decide +kernel
theorem dX10_setPoints_72 : decode cX10_setPoints 72 = .ok (.getfield 46, 3) := by decide +kernel
theorem dX10_setPoints_75 : decode cX10_setPoints 75 = .ok (.bipush 8, 2) := by decide +kernel
theorem dX10_setPoints_77 : decode cX10_setPoints 77 = .ok (.iload_n 1, 1) := by decide +kernel
theorem dX10_setPoints_78 : decode cX10_setPoints 78 = .ok (.imul, 1) := by decide +kernel
theorem dX10_setPoints_79 : decode cX10_setPoints 79 = .ok (.iload_n 2, 1) := by decide +kernel
theorem dX10_setPoints_80 : decode cX10_setPoints 80 = .ok (.iadd, 1) := by decide +kernel
theorem dX10_setPoints_81 : decode cX10_setPoints 81 = .ok (.iload_n 3, 1) := by decide +kernel
theorem dX10_setPoints_82 : decode cX10_setPoints 82 = .ok (.iastore, 1) := by decide +kernel
theorem dX10_setPoints_83 : decode cX10_setPoints 83 = .ok (.iload 6, 2) := by decide +kernel
theorem dX10_setPoints_85 : decode cX10_setPoints 85 = .ok (.ireturn, 1) := by decide +kernel
set_option maxRecDepth 20000 in
theorem ggX10_setMode_X10_isTable : GoodIn wsX10_setMode wsX10_isTable := goodIn_r _ [10, 11, 12, 13, 9, 14, 30, 31, 32, 33, 34, 35, 36, 37, 38, 39, 40, 41, 42, 43, 44, 45, 46, 47, 48, 49, 50, 51, 52, 53, 54, 55, 56, 57, 58, 59, 60, 61, 62, 63, 64, 65, 66, 67, 68, 69, 70, 71, 72, 73, 74, 75, 76, 77, 78, 79, 80, 81, 82, 83, 84] (by decide +kernel) (by decide +kernel)
set_option maxRecDepth 20000 in
theorem gX10_setMode_X10_isTable : GoodIn wsX10_setMode (wsV RX10 161 RX10 yX10_isTable wsX10_isTable) := goodIn_app (goodIn_of _ (by decide +kernel)) ggX10_setMode_X10_isTable
set_option maxRecDepth 20000 in
theorem ggX10_setMode_X10_in : GoodIn wsX10_setMode wsX10_in := goodIn_r _ [14] (by decide +kernel) (by decide +kernel)
set_option maxRecDepth 20000 in
theorem gX10_setMode_X10_in : GoodIn wsX10_setMode (va_wsS RX10 157 yX10_in wsX10_in) := goodIn_app (goodIn_of _ (by decide +kernel)) ggX10_setMode_X10_in
set_option maxRecDepth 20000 in
theorem ggX10_setMode_X10_isSwitch : GoodIn wsX10_setMode wsX10_isSwitch := goodIn_r _ [18, 19, 6, 7, 8, 9, 10, 11, 12, 13, 14, 30, 31, 32, 33, 34, 35, 36, 37, 38, 39, 40, 41, 42, 43, 44, 45, 46, 47, 48, 49, 50, 51, 52, 53, 54, 55, 56, 57, 58, 59, 60, 61, 62, 63, 64, 65, 66, 67, 68, 69, 70, 71, 72, 73, 74, 75, 76, 77, 78, 79, 80, 81, 82, 83, 84] (by decide +kernel) (by decide +kernel)
set_option maxRecDepth 20000 in
theorem gX10_setMode_X10_isSwitch : GoodIn wsX10_setMode (wsV RX10 174 RX10 yX10_isSwitch wsX10_isSwitch) := goodIn_app (goodIn_of _ (by decide +kernel)) ggX10_setMode_X10_isSwitch
set_option maxRecDepth 20000 in
theorem ggX10_setMode_X10_isFree : GoodIn wsX10_setMode wsX10_isFree := goodIn_r _ [23, 24, 30, 31, 32, 33, 34, 35, 36, 37, 38, 39, 40, 41, 42, 43, 44, 45, 46, 47, 48, 49, 50, 51, 52, 53, 54, 55, 56, 57, 58, 59, 60, 61, 62, 63, 64, 65, 66, 67, 68, 69, 70, 71, 72, 73, 74, 75, 76, 77, 78, 79, 80, 81, 82, 83, 84] (by decide +kernel) (by decide +kernel)
set_option maxRecDepth 20000 in
theorem gX10_setMode_X10_isFree : GoodIn wsX10_setMode (wsV RX10 171 RX10 yX10_isFree wsX10_isFree) := goodIn_app (goodIn_of _ (by decide +kernel)) ggX10_setMode_X10_isFree
set_option maxRecDepth 20000 in
theorem ggX10_setMode_X10_refused : GoodIn wsX10_setMode wsX10_refused := goodIn_r _ [28, 29, 30, 31, 32, 33, 34, 35, 36, 37, 38, 39, 40, 41, 42, 43, 44, 45, 46, 47, 48, 49, 50, 51, 52, 53, 54, 55, 56, 57, 58, 59, 60, 61, 62, 63, 64, 65, 66, 67, 68, 69, 70, 71, 72, 73, 74, 75, 76, 77, 78, 79, 80, 81, 82, 83, 84] (by decide +kernel) (by decide +kernel)
set_option maxRecDepth 20000 in
theorem gX10_setMode_X10_refused : GoodIn wsX10_setMode (wsV RX10 168 RX10 yX10_refused wsX10_refused) := goodIn_app (goodIn_of _ (by decide +kernel)) ggX10_setMode_X10_refused
theorem dX10_setMode_0 : decode cX10_setMode 0 = .ok (.aload_n 0, 1) := by decide +kernel
theorem dX10_setMode_1 : decode cX10_setMode 1 = .ok (.iload_n 1, 1) := by decide +kernel
theorem dX10_setMode_2 : decode cX10_setMode 2 = .ok (.invokevirtual 161, 3) := by decide +kernel
theorem dX10_setMode_5 : decode cX10_setMode 5 = .ok (.ifCond .eq 44, 3) := by decide +kernel
theorem dX10_setMode_8 : decode cX10_setMode 8 = .ok (.iload_n 2, 1) := by decide +kernel
theorem dX10_setMode_9 : decode cX10_setMode 9 = .ok (.iconst 0, 1) := by decide +kernel
theorem dX10_setMode_10 : decode cX10_setMode 10 = .ok (.iconst 3, 1) := by decide +kernel
theorem dX10_setMode_11 : decode cX10_setMode 11 = .ok (.invokestatic 157, 3) := by decide +kernel
theorem dX10_setMode_14 : decode cX10_setMode 14 = .ok (.ifCond .eq 35, 3) := by decide +kernel
theorem dX10_setMode_17 : decode cX10_setMode 17 = .ok (.iload_n 3, 1) := by decide +kernel
theorem dX10_setMode_18 : decode cX10_setMode 18 = .ok (.ifCond .lt 27, 3) := by decide +kernel
theorem dX10_setMode_21 : decode cX10_setMode 21 = .ok (.aload_n 0, 1) := by decide +kernel
theorem dX10_setMode_22 : decode cX10_setMode 22 = .ok (.iload_n 1, 1) := by decide +kernel
theorem dX10_setMode_23 : decode cX10_setMode 23 = .ok (.iload_n 3, 1) := by decide +kernel
theorem dX10_setMode_24 : decode cX10_setMode 24 = .ok (.bipush 10, 2) := by decide +kernel
theorem dX10_setMode_26 : decode cX10_setMode 26 = .ok (.idiv, 1) := by decide +kernel
theorem dX10_setMode_27 : decode cX10_setMode 27 = .ok (.invokevirtual 174, 3) := by decide +kernel
theorem dX10_setMode_30 : decode cX10_setMode 30 = .ok (.ifCond .eq 19, 3) := by decide +kernel
theorem dX10_setMode_33 : decode cX10_setMode 33 = .ok (.aload_n 0, 1) := by decide +kernel
theorem dX10_setMode_34 : decode cX10_setMode 34 = .ok (.iload_n 1, 1) := by decide +kernel
theorem dX10_setMode_35 : decode cX10_setMode 35 = .ok (.iload_n 3, 1) := by decide +kernel
theorem dX10_setMode_36 : decode cX10_setMode 36 = .ok (.bipush 10, 2) := by decide +kernel
theorem dX10_setMode_38 : decode cX10_setMode 38 = .ok (.irem, 1) := by decide +kernel
theorem dX10_setMode_39 : decode cX10_setMode 39 = .ok (.invokevirtual 174, 3) := by decide +kernel
theorem dX10_setMode_42 : decode cX10_setMode 42 = .ok (.ifCond .eq 7, 3) := by decide +kernel
theorem dX10_setMode_45 : decode cX10_setMode 45 = .ok (.iconst 1, 1) := by decide +kernel
theorem dX10_setMode_46 : decode cX10_setMode 46 = .ok (.goto 4, 3) := by decide +kernel
theorem dX10_setMode_49 : decode cX10_setMode 49 = .ok (.iconst 0, 1) := by decide +kernel
theorem dX10_setMode_50 : decode cX10_setMode 50 = .ok (.istore 6, 2) := by decide +kernel
theorem dX10_setMode_52 : decode cX10_setMode 52 = .ok (.iload_n 3, 1) := by decide +kernel
theorem dX10_setMode_53 : decode cX10_setMode 53 = .ok (.iconst (-1), 1) := by decide +kernel
theorem dX10_setMode_54 : decode cX10_setMode 54 = .ok (.if_icmp .lt 52, 3) := by decide +kernel
theorem dX10_setMode_57 : decode cX10_setMode 57 = .ok (.iload 4, 2) := by decide +kernel
theorem dX10_setMode_59 : decode cX10_setMode 59 = .ok (.ifCond .lt 47, 3) := by decide +kernel
theorem dX10_setMode_62 : decode cX10_setMode 62 = .ok (.iload 4, 2) := by decide +kernel
theorem dX10_setMode_64 : decode cX10_setMode 64 = .ok (.bipush 100, 2) := by decide +kernel
theorem dX10_setMode_66 : decode cX10_setMode 66 = .ok (.idiv, 1) := by decide +kernel
theorem dX10_setMode_67 : decode cX10_setMode 67 = .ok (.iconst 1, 1) := by decide +kernel
theorem dX10_setMode_68 : decode cX10_setMode 68 = .ok (.bipush 20, 2) := by decide +kernel
theorem dX10_setMode_70 : decode cX10_setMode 70 = .ok (.invokestatic 157, 3) := by decide +kernel
theorem dX10_setMode_73 : decode cX10_setMode 73 = .ok (.ifCond .eq 33, 3) := by decide +kernel
theorem dX10_setMode_76 : decode cX10_setMode 76 = .ok (.iload 4, 2) := by decide +kernel
theorem dX10_setMode_78 : decode cX10_setMode 78 = .ok (.bipush 100, 2) := by decide +kernel
theorem dX10_setMode_80 : decode cX10_setMode 80 = .ok (.irem, 1) := by decide +kernel
theorem dX10_setMode_81 : decode cX10_setMode 81 = .ok (.iconst 2, 1) := by decide +kernel
theorem dX10_setMode_82 : decode cX10_setMode 82 = .ok (.bipush 9, 2) := by decide +kernel
theorem dX10_setMode_84 : decode cX10_setMode 84 = .ok (.invokestatic 157, 3) := by decide +kernel
theorem dX10_setMode_87 : decode cX10_setMode 87 = .ok (.ifCond .eq 19, 3) := by decide +kernel
theorem dX10_setMode_90 : decode cX10_setMode 90 = .ok (.iload 5, 2) := by decide +kernel
theorem dX10_setMode_92 : decode cX10_setMode 92 = .ok (.iconst 0, 1) := by decide +kernel
theorem dX10_setMode_93 : decode cX10_setMode 93 = .ok (.sipush 5000, 3) := by decide +kernel
theorem dX10_setMode_96 : decode cX10_setMode 96 = .ok (.invokestatic 157, 3) := by decide +kernel
theorem dX10_setMode_99 : decode cX10_setMode 99 = .ok (.ifCond .eq 7, 3) := by decide +kernel
theorem dX10_setMode_102 : decode cX10_setMode 102 = .ok (.iconst 1, 1) := by decide +kernel
theorem dX10_setMode_103 : decode cX10_setMode 103 = .ok (.goto 4, 3) := by decide +kernel
theorem dX10_setMode_106 : decode cX10_setMode 106 = .ok (.iconst 0, 1) := by decide +kernel
theorem dX10_setMode_107 : decode cX10_setMode 107 = .ok (.istore 7, 2) := by decide +kernel
theorem dX10_setMode_109 : decode cX10_setMode 109 = .ok (.iload 6, 2) := by decide +kernel
theorem dX10_setMode_111 : decode cX10_setMode 111 = .ok (.ifCond .eq 20, 3) := by decide +kernel
theorem dX10_setMode_114 : decode cX10_setMode 114 = .ok (.iload 7, 2) := by decide +kernel
theorem dX10_setMode_116 : decode cX10_setMode 116 = .ok (.ifCond .eq 15, 3) := by decide +kernel
theorem dX10_setMode_119 : decode cX10_setMode 119 = .ok (.aload_n 0, 1) := by decide +kernel
theorem dX10_setMode_120 : decode cX10_setMode 120 = .ok (.iload_n 1, 1) := by decide +kernel
theorem dX10_setMode_121 : decode cX10_setMode 121 = .ok (.invokevirtual 171, 3) := by decide +kernel
theorem dX10_setMode_124 : decode cX10_setMode 124 = .ok (.ifCond .eq 7, 3) := by decide +kernel
theorem dX10_setMode_127 : decode cX10_setMode 127 = .ok (.iconst 1, 1) := by decide +kernel
theorem dX10_setMode_128 : decode cX10_setMode 128 = .ok (.goto 4, 3) := by decide +kernel
theorem dX10_setMode_131 : decode cX10_setMode 131 = .ok (.iconst 0, 1) := by decide +kernel
theorem dX10_setMode_132 : decode cX10_setMode 132 = .ok (.istore 8, 2) := by decide +kernel
theorem dX10_setMode_134 : decode cX10_setMode 134 = .ok (.aload_n 0, 1) := by decide +kernel
theorem dX10_setMode_135 : decode cX10_setMode 135 = .ok (.iload 6, 2) := by decide +kernel
theorem dX10_setMode_137 : decode cX10_setMode 137 = .ok (.ifCond .ne 7, 3) := by decide +kernel
theorem dX10_setMode_140 : decode cX10_setMode 140 = .ok (.iconst 1, 1) := by decide +kernel
theorem dX10_setMode_141 : decode cX10_setMode 141 = .ok (.goto 22, 3) := by decide +kernel
theorem dX10_setMode_144 : decode cX10_setMode 144 = .ok (.iload 7, 2) := by decide +kernel
theorem dX10_setMode_146 : decode cX10_setMode 146 = .ok (.ifCond .ne 7, 3) := by decide +kernel
theorem dX10_setMode_149 : decode cX10_setMode 149 = .ok (.iconst 2, 1) := by decide +kernel
theorem dX10_setMode_150 : decode cX10_setMode 150 = .ok (.goto 13, 3) := by decide +kernel
theorem dX10_setMode_153 : decode cX10_setMode 153 = .ok (.iload 8, 2) := by decide +kernel
theorem dX10_setMode_155 : decode cX10_setMode 155 = .ok (.ifCond .eq 7, 3) := by decide +kernel
theorem dX10_setMode_158 : decode cX10_setMode 158 = .ok (.iconst 0, 1) := by decide +kernel
theorem dX10_setMode_159 : decode cX10_setMode 159 = .ok (.goto 4, 3) := by decide +kernel
theorem dX10_setMode_162 : decode cX10_setMode 162 = .ok (.iconst 3, 1) := by decide +kernel
theorem dX10_setMode_163 : decode cX10_setMode 163 = .ok (.invokevirtual 168, 3) := by decide +kernel
theorem dX10_setMode_166 : decode cX10_setMode 166 = .ok (.ifCond .eq 5, 3) := by decide +kernel
theorem dX10_setMode_169 : decode cX10_setMode 169 = .ok (.iconst 0, 1) := by decide +kernel
theorem dX10_setMode_170 : decode cX10_setMode 170 = .ok (.ireturn, 1) := by decide +kernel
theorem dX10_setMode_171 : decode cX10_setMode 171 = .ok (.iconst 4, 1) := by decide +kernel
theorem dX10_setMode_172 : decode cX10_setMode 172 = .ok (.iload_n 1, 1) := by decide +kernel
theorem dX10_setMode_173 : decode cX10_setMode 173 = .ok (.imul, 1) := by decide +kernel
theorem dX10_setMode_174 : decode cX10_setMode 174 = .ok (.iload_n 2, 1) := by decide +kernel
theorem dX10_setMode_175 : decode cX10_setMode 175 = .ok (.iadd, 1) := by decide +kernel
theorem dX10_setMode_176 : decode cX10_setMode 176 = .ok (.istore 9, 2) := by decide +kernel
theorem dX10_setMode_178 : decode cX10_setMode 178 = .ok (.aload_n 0, 1) := by decide +kernel
theorem dX10_setMode_179 : decode cX10_setMode 179 = .ok (.getfield 55, 3) := by decide +kernel
theorem dX10_setMode_182 : decode cX10_setMode 182 = .ok (.iload 9, 2) := by decide +kernel
theorem dX10_setMode_184 : decode cX10_setMode 184 = .ok (.iaload, 1) := by decide +kernel
theorem dX10_setMode_185 : decode cX10_setMode 185 = .ok (.iconst (-1), 1) := by decide +kernel
theorem dX10_setMode_186 : decode cX10_setMode 186 = .ok (.if_icmp .eq 7, 3) := by decide +kernel
theorem dX10_setMode_189 : decode cX10_setMode 189 = .ok (.iconst 1, 1) := by decide +kernel
theorem dX10_setMode_190 : decode cX10_setMode 190 = .ok (.goto 4, 3) := by decide +kernel
theorem dX10_setMode_193 : decode cX10_setMode 193 = .ok (.iconst 0, 1) := by decide +kernel
theorem dX10_setMode_194 : decode cX10_setMode 194 = .ok (.istore 10, 2) := by decide +kernel
theorem dX10_setMode_196 : decode cX10_setMode 196 = .ok (.aload_n 0, 1) := by decide +kernel
theorem dX10_setMode_197 : decode cX10_setMode 197 = .ok (.getfield 55, 3) := by decide +kernel
theorem dX10_setMode_200 : decode cX10_setMode 200 = .ok (.iload 9, 2) := by decide +kernel
theorem dX10_setMode_202 : decode cX10_setMode 202 = .ok (.iload_n 3, 1) := by decide +kernel
theorem dX10_setMode_203 : decode cX10_setMode 203 = .ok (.iconst (-1), 1) := by decide +kernel
theorem dX10_setMode_204 : decode cX10_setMode 204 = .ok (.if_icmp .ne 7, 3) := by decide +kernel
theorem dX10_setMode_207 : decode cX10_setMode 207 = .ok (.iconst (-1), 1) := by decide +kernel
theorem dX10_setMode_208 : decode cX10_setMode 208 = .ok (.goto 7, 3) := by decide +kernel
theorem dX10_setMode_211 : decode cX10_setMode 211 = .ok (.iload_n 3, 1) := by decide +kernel
theorem dX10_setMode_212 : decode cX10_setMode 212 = .ok (.bipush 10, 2) := by decide +kernel
theorem dX10_setMode_214 : decode cX10_setMode 214 = .ok (.idiv, 1) := by decide +kernel
theorem dX10_setMode_215 : decode cX10_setMode 215 = .ok (.iastore, 1) := by decide +kernel
theorem dX10_setMode_216 : decode cX10_setMode 216 = .ok (.aload_n 0, 1) := by decide +kernel
theorem dX10_setMode_217 : decode cX10_setMode 217 = .ok (.getfield 58, 3) := by decide +kernel
theorem dX10_setMode_220 : decode cX10_setMode 220 = .ok (.iload 9, 2) := by decide +kernel
theorem dX10_setMode_222 : decode cX10_setMode 222 = .ok (.iload_n 3, 1) := by decide +kernel
theorem dX10_setMode_223 : decode cX10_setMode 223 = .ok (.iconst (-1), 1) := by decide +kernel
theorem dX10_setMode_224 : decode cX10_setMode 224 = .ok (.if_icmp .ne 7, 3) := by decide +kernel
theorem dX10_setMode_227 : decode cX10_setMode 227 = .ok (.iconst 0, 1) := by decide +kernel
theorem dX10_setMode_228 : decode cX10_setMode 228 = .ok (.goto 7, 3) := by decide +kernel
theorem dX10_setMode_231 : decode cX10_setMode 231 = .ok (.iload_n 3, 1) := by decide +kernel
theorem dX10_setMode_232 : decode cX10_setMode 232 = .ok (.bipush 10, 2) := by decide +kernel
theorem dX10_setMode_234 : decode cX10_setMode 234 = .ok (.irem, 1) := by decide +kernel
theorem dX10_setMode_235 : decode cX10_setMode 235 = .ok (.iastore, 1) := by decide +kernel
theorem dX10_setMode_236 : decode cX10_setMode 236 = .ok (.aload_n 0, 1) := by decide +kernel
theorem dX10_setMode_237 : decode cX10_setMode 237 = .ok (.getfield 61, 3) := by decide +kernel
theorem dX10_setMode_240 : decode cX10_setMode 240 = .ok (.iload 9, 2) := by decide +kernel
theorem dX10_setMode_242 : decode cX10_setMode 242 = .ok (.iload 4, 2) := by decide +kernel
theorem dX10_setMode_244 : decode cX10_setMode 244 = .ok (.bipush 100, 2) := by decide +kernel
theorem dX10_setMode_246 : decode cX10_setMode 246 = .ok (.idiv, 1) := by decide +kernel
theorem dX10_setMode_247 : decode cX10_setMode 247 = .ok (.iastore, 1) := by decide +kernel
theorem dX10_setMode_248 : decode cX10_setMode 248 = .ok (.aload_n 0, 1) := by decide +kernel
theorem dX10_setMode_249 : decode cX10_setMode 249 = .ok (.getfield 64, 3) := by decide +kernel
theorem dX10_setMode_252 : decode cX10_setMode 252 = .ok (.iload 9, 2) := by decide +kernel
theorem dX10_setMode_254 : decode cX10_setMode 254 = .ok (.iload 4, 2) := by decide +kernel
theorem dX10_setMode_256 : decode cX10_setMode 256 = .ok (.bipush 100, 2) := by decide +kernel
theorem dX10_setMode_258 : decode cX10_setMode 258 = .ok (.irem, 1) := by decide +kernel
theorem dX10_setMode_259 : decode cX10_setMode 259 = .ok (.iastore, 1) := by decide +kernel
theorem dX10_setMode_260 : decode cX10_setMode 260 = .ok (.aload_n 0, 1) := by decide +kernel
theorem dX10_setMode_261 : decode cX10_setMode 261 = .ok (.getfield 67, 3) := by decide +kernel
theorem dX10_setMode_264 : decode cX10_setMode 264 = .ok (.iload 9, 2) := by decide +kernel
theorem dX10_setMode_266 : decode cX10_setMode 266 = .ok (.iload 5, 2) := by decide +kernel
theorem dX10_setMode_268 : decode cX10_setMode 268 = .ok (.iastore, 1) := by decide +kernel
theorem dX10_setMode_269 : decode cX10_setMode 269 = .ok (.iload 10, 2) := by decide +kernel
theorem dX10_setMode_271 : decode cX10_setMode 271 = .ok (.ireturn, 1) := by decide +kernel
set_option maxRecDepth 20000 in
theorem ggX10_tables_X10_fine : GoodIn wsX10_tables wsX10_fine := goodIn_r _ [6, 7, 8, 9, 10, 11, 12, 13, 14, 15, 16, 17, 18, 19, 20, 21, 22, 23, 24, 25, 26, 27, 28, 29, 30, 31, 32, 33, 34, 35, 36, 37, 38, 39, 40, 41, 42, 43, 44, 45, 46, 47, 48, 49, 50, 51, 52, 53, 54, 55, 56, 57, 58, 59, 60, 61, 62] (by decide +kernel) (by decide +kernel)
set_option maxRecDepth 20000 in
theorem gX10_tables_X10_fine : GoodIn wsX10_tables (wsV RX10 178 RX10 yX10_fine wsX10_fine) := goodIn_app (goodIn_of _ (by decide +kernel)) ggX10_tables_X10_fine
theorem dX10_tables_0 : decode cX10_tables 0 = .ok (.aload_n 0, 1) := by decide +kernel
theorem dX10_tables_1 : decode cX10_tables 1 = .ok (.aload_n 0, 1) := by decide +kernel
theorem dX10_tables_2 : decode cX10_tables 2 = .ok (.getfield 154, 3) := by decide +kernel
theorem dX10_tables_5 : decode cX10_tables 5 = .ok (.invokevirtual 178, 3) := by decide +kernel
theorem dX10_tables_8 : decode cX10_tables 8 = .ok (.ireturn, 1) := by decide +kernel
set_option maxRecDepth 20000 in
theorem ggX10_stick_X10_isSwitch : GoodIn wsX10_stick wsX10_isSwitch := goodIn_r _ [7, 8, 9, 10, 11, 6, 12, 13, 14, 15, 16, 22, 23, 24, 25, 26, 27, 28, 29, 30, 31, 32, 33, 34, 35, 36, 37, 38, 39, 40, 41, 42, 43, 44, 45, 46, 47, 48, 49, 50, 51, 52, 53, 54, 55, 56, 57, 58, 59, 60, 61, 62, 63, 64, 65, 66, 67, 68, 69, 70, 71, 72, 73, 74, 75, 76] (by decide +kernel) (by decide +kernel)
set_option maxRecDepth 20000 in
theorem gX10_stick_X10_isSwitch : GoodIn wsX10_stick (wsV RX10 174 RX10 yX10_isSwitch wsX10_isSwitch) := goodIn_app (goodIn_of _ (by decide +kernel)) ggX10_stick_X10_isSwitch
set_option maxRecDepth 20000 in
theorem ggX10_stick_X10_refused : GoodIn wsX10_stick wsX10_refused := goodIn_r _ [20, 21, 22, 23, 24, 25, 26, 27, 28, 29, 30, 31, 32, 33, 34, 35, 36, 37, 38, 39, 40, 41, 42, 43, 44, 45, 46, 47, 48, 49, 50, 51, 52, 53, 54, 55, 56, 57, 58, 59, 60, 61, 62, 63, 64, 65, 66, 67, 68, 69, 70, 71, 72, 73, 74, 75, 76] (by decide +kernel) (by decide +kernel)
set_option maxRecDepth 20000 in
theorem gX10_stick_X10_refused : GoodIn wsX10_stick (wsV RX10 168 RX10 yX10_refused wsX10_refused) := goodIn_app (goodIn_of _ (by decide +kernel)) ggX10_stick_X10_refused
theorem dX10_stick_0 : decode cX10_stick 0 = .ok (.aload_n 0, 1) := by decide +kernel
theorem dX10_stick_1 : decode cX10_stick 1 = .ok (.iload_n 1, 1) := by decide +kernel
theorem dX10_stick_2 : decode cX10_stick 2 = .ok (.iload_n 2, 1) := by decide +kernel
theorem dX10_stick_3 : decode cX10_stick 3 = .ok (.invokevirtual 174, 3) := by decide +kernel
theorem dX10_stick_6 : decode cX10_stick 6 = .ok (.istore_n 3, 1) := by decide +kernel
theorem dX10_stick_7 : decode cX10_stick 7 = .ok (.iload_n 3, 1) := by decide +kernel
theorem dX10_stick_8 : decode cX10_stick 8 = .ok (.ifCond .eq 31, 3) := by decide +kernel
theorem dX10_stick_11 : decode cX10_stick 11 = .ok (.aload_n 0, 1) := by decide +kernel
theorem dX10_stick_12 : decode cX10_stick 12 = .ok (.getfield 52, 3) := by decide +kernel
theorem dX10_stick_15 : decode cX10_stick 15 = .ok (.bipush 8, 2) := by decide +kernel
theorem dX10_stick_17 : decode cX10_stick 17 = .ok (.iload_n 1, 1) := by decide +kernel
theorem dX10_stick_18 : decode cX10_stick 18 = .ok (.imul, 1) := by decide +kernel
theorem dX10_stick_19 : decode cX10_stick 19 = .ok (.iload_n 2, 1) := by decide +kernel
theorem dX10_stick_20 : decode cX10_stick 20 = .ok (.iadd, 1) := by decide +kernel
theorem dX10_stick_21 : decode cX10_stick 21 = .ok (.iaload, 1) := by decide +kernel
theorem dX10_stick_22 : decode cX10_stick 22 = .ok (.iconst (-1), 1) := by decide +kernel
theorem dX10_stick_23 : decode cX10_stick 23 = .ok (.if_icmp .ne 16, 3) := by decide +kernel
theorem dX10_stick_26 : decode cX10_stick 26 = .ok (.aload_n 0, 1) := by decide +kernel
theorem dX10_stick_27 : decode cX10_stick 27 = .ok (.getfield 182, 3) := by decide +kernel
theorem dX10_stick_30 : decode cX10_stick 30 = .ok (.bipush 60, 2) := by decide +kernel
theorem dX10_stick_32 : decode cX10_stick 32 = .ok (.if_icmp .ge 7, 3) := by decide +kernel
theorem dX10_stick_35 : decode cX10_stick 35 = .ok (.iconst 1, 1) := by decide +kernel
theorem dX10_stick_36 : decode cX10_stick 36 = .ok (.goto 4, 3) := by decide +kernel
theorem dX10_stick_39 : decode cX10_stick 39 = .ok (.iconst 0, 1) := by decide +kernel
theorem dX10_stick_40 : decode cX10_stick 40 = .ok (.istore 4, 2) := by decide +kernel
theorem dX10_stick_42 : decode cX10_stick 42 = .ok (.aload_n 0, 1) := by decide +kernel
theorem dX10_stick_43 : decode cX10_stick 43 = .ok (.iload_n 3, 1) := by decide +kernel
theorem dX10_stick_44 : decode cX10_stick 44 = .ok (.ifCond .ne 7, 3) := by decide +kernel
theorem dX10_stick_47 : decode cX10_stick 47 = .ok (.iconst 1, 1) := by decide +kernel
theorem dX10_stick_48 : decode cX10_stick 48 = .ok (.goto 13, 3) := by decide +kernel
theorem dX10_stick_51 : decode cX10_stick 51 = .ok (.iload 4, 2) := by decide +kernel
theorem dX10_stick_53 : decode cX10_stick 53 = .ok (.ifCond .eq 7, 3) := by decide +kernel
theorem dX10_stick_56 : decode cX10_stick 56 = .ok (.iconst 0, 1) := by decide +kernel
theorem dX10_stick_57 : decode cX10_stick 57 = .ok (.goto 4, 3) := by decide +kernel
theorem dX10_stick_60 : decode cX10_stick 60 = .ok (.iconst 2, 1) := by decide +kernel
theorem dX10_stick_61 : decode cX10_stick 61 = .ok (.invokevirtual 168, 3) := by decide +kernel
theorem dX10_stick_64 : decode cX10_stick 64 = .ok (.ifCond .eq 5, 3) := by decide +kernel
theorem dX10_stick_67 : decode cX10_stick 67 = .ok (.iconst 0, 1) := by decide +kernel
theorem dX10_stick_68 : decode cX10_stick 68 = .ok (.ireturn, 1) := by decide +kernel
theorem dX10_stick_69 : decode cX10_stick 69 = .ok (.aload_n 0, 1) := by decide +kernel
theorem dX10_stick_70 : decode cX10_stick 70 = .ok (.getfield 52, 3) := by decide +kernel
theorem dX10_stick_73 : decode cX10_stick 73 = .ok (.bipush 8, 2) := by decide +kernel
theorem dX10_stick_75 : decode cX10_stick 75 = .ok (.iload_n 1, 1) := by decide +kernel
theorem dX10_stick_76 : decode cX10_stick 76 = .ok (.imul, 1) := by decide +kernel
theorem dX10_stick_77 : decode cX10_stick 77 = .ok (.iload_n 2, 1) := by decide +kernel
theorem dX10_stick_78 : decode cX10_stick 78 = .ok (.iadd, 1) := by decide +kernel
theorem dX10_stick_79 : decode cX10_stick 79 = .ok (.aload_n 0, 1) := by decide +kernel
theorem dX10_stick_80 : decode cX10_stick 80 = .ok (.getfield 182, 3) := by decide +kernel
theorem dX10_stick_83 : decode cX10_stick 83 = .ok (.iastore, 1) := by decide +kernel
theorem dX10_stick_84 : decode cX10_stick 84 = .ok (.aload_n 0, 1) := by decide +kernel
theorem dX10_stick_85 : decode cX10_stick 85 = .ok (.dup, 1) := by decide +kernel
theorem dX10_stick_86 : decode cX10_stick 86 = .ok (.getfield 182, 3) := by decide +kernel
theorem dX10_stick_89 : decode cX10_stick 89 = .ok (.iconst 1, 1) := by decide +kernel
theorem dX10_stick_90 : decode cX10_stick 90 = .ok (.iadd, 1) := by decide +kernel
theorem dX10_stick_91 : decode cX10_stick 91 = .ok (.putfield 182, 3) := by decide +kernel
theorem dX10_stick_94 : decode cX10_stick 94 = .ok (.aload_n 0, 1) := by decide +kernel
theorem dX10_stick_95 : decode cX10_stick 95 = .ok (.getfield 182, 3) := by decide +kernel
theorem dX10_stick_98 : decode cX10_stick 98 = .ok (.iconst 1, 1) := by decide +kernel
theorem dX10_stick_99 : decode cX10_stick 99 = .ok (.isub, 1) := by decide +kernel
theorem dX10_stick_100 : decode cX10_stick 100 = .ok (.ireturn, 1) := by decide +kernel
set_option maxRecDepth 20000 in
theorem ggX10_noSwitch_X10_isSwitch : GoodIn wsX10_noSwitch wsX10_isSwitch := goodIn_r _ [5, 6, 7, 8, 9, 4, 10, 11, 12, 13, 14, 20, 21, 22, 23, 24, 25, 26, 27, 28, 29, 30, 31, 32, 33, 34, 35, 36, 37, 38, 39, 40, 41, 42, 43, 44, 45, 46, 47, 48, 49, 50, 51, 52, 53, 54, 55, 56, 57, 58, 59, 60, 61, 62, 63, 64, 65, 66, 67, 68, 69, 70, 71, 72, 73, 74] (by decide +kernel) (by decide +kernel)
set_option maxRecDepth 20000 in
theorem gX10_noSwitch_X10_isSwitch : GoodIn wsX10_noSwitch (wsV RX10 174 RX10 yX10_isSwitch wsX10_isSwitch) := goodIn_app (goodIn_of _ (by decide +kernel)) ggX10_noSwitch_X10_isSwitch
set_option maxRecDepth 20000 in
theorem ggX10_noSwitch_X10_refused : GoodIn wsX10_noSwitch wsX10_refused := goodIn_r _ [18, 19, 20, 21, 22, 23, 24, 25, 26, 27, 28, 29, 30, 31, 32, 33, 34, 35, 36, 37, 38, 39, 40, 41, 42, 43, 44, 45, 46, 47, 48, 49, 50, 51, 52, 53, 54, 55, 56, 57, 58, 59, 60, 61, 62, 63, 64, 65, 66, 67, 68, 69, 70, 71, 72, 73, 74] (by decide +kernel) (by decide +kernel)
set_option maxRecDepth 20000 in
theorem gX10_noSwitch_X10_refused : GoodIn wsX10_noSwitch (wsV RX10 168 RX10 yX10_refused wsX10_refused) := goodIn_app (goodIn_of _ (by decide +kernel)) ggX10_noSwitch_X10_refused
theorem dX10_noSwitch_0 : decode cX10_noSwitch 0 = .ok (.aload_n 0, 1) := by decide +kernel
theorem dX10_noSwitch_1 : decode cX10_noSwitch 1 = .ok (.aload_n 0, 1) := by decide +kernel
theorem dX10_noSwitch_2 : decode cX10_noSwitch 2 = .ok (.iload_n 1, 1) := by decide +kernel
theorem dX10_noSwitch_3 : decode cX10_noSwitch 3 = .ok (.iload_n 2, 1) := by decide +kernel
theorem dX10_noSwitch_4 : decode cX10_noSwitch 4 = .ok (.invokevirtual 174, 3) := by decide +kernel
theorem dX10_noSwitch_7 : decode cX10_noSwitch 7 = .ok (.ifCond .eq 7, 3) := by decide +kernel
theorem dX10_noSwitch_10 : decode cX10_noSwitch 10 = .ok (.iconst 0, 1) := by decide +kernel
theorem dX10_noSwitch_11 : decode cX10_noSwitch 11 = .ok (.goto 4, 3) := by decide +kernel
theorem dX10_noSwitch_14 : decode cX10_noSwitch 14 = .ok (.iconst 1, 1) := by decide +kernel
theorem dX10_noSwitch_15 : decode cX10_noSwitch 15 = .ok (.invokevirtual 168, 3) := by decide +kernel
theorem dX10_noSwitch_18 : decode cX10_noSwitch 18 = .ok (.ireturn, 1) := by decide +kernel
set_option maxRecDepth 20000 in
theorem ggX10_sticks_X10_noSwitch : GoodIn wsX10_sticks wsX10_noSwitch := goodIn_r _ [6, 7, 8, 9, 5, 10, 11, 12, 13, 14, 15, 16, 17, 18, 19, 20, 21, 22, 23, 24, 25, 26, 27, 28, 29, 30, 31, 32, 33, 34, 35, 36, 37, 38, 39, 40, 41, 42, 43, 44, 45, 46, 47, 48, 49, 50, 51, 52, 53, 54, 55, 56, 57, 58, 59, 60, 61, 62, 63, 64, 65, 66, 67, 68, 69, 70, 71, 72, 73, 74, 75, 76, 77, 78, 79] (by decide +kernel) (by decide +kernel)
set_option maxRecDepth 20000 in
theorem gX10_sticks_X10_noSwitch : GoodIn wsX10_sticks (wsV RX10 185 RX10 yX10_noSwitch wsX10_noSwitch) := goodIn_app (goodIn_of _ (by decide +kernel)) ggX10_sticks_X10_noSwitch
theorem dX10_sticks_0 : decode cX10_sticks 0 = .ok (.aload_n 0, 1) := by decide +kernel
theorem dX10_sticks_1 : decode cX10_sticks 1 = .ok (.iload_n 1, 1) := by decide +kernel
theorem dX10_sticks_2 : decode cX10_sticks 2 = .ok (.iload_n 2, 1) := by decide +kernel
theorem dX10_sticks_3 : decode cX10_sticks 3 = .ok (.invokevirtual 185, 3) := by decide +kernel
theorem dX10_sticks_6 : decode cX10_sticks 6 = .ok (.ifCond .ne 22, 3) := by decide +kernel
theorem dX10_sticks_9 : decode cX10_sticks 9 = .ok (.aload_n 0, 1) := by decide +kernel
theorem dX10_sticks_10 : decode cX10_sticks 10 = .ok (.getfield 52, 3) := by decide +kernel
theorem dX10_sticks_13 : decode cX10_sticks 13 = .ok (.bipush 8, 2) := by decide +kernel
theorem dX10_sticks_15 : decode cX10_sticks 15 = .ok (.iload_n 1, 1) := by decide +kernel
theorem dX10_sticks_16 : decode cX10_sticks 16 = .ok (.imul, 1) := by decide +kernel
theorem dX10_sticks_17 : decode cX10_sticks 17 = .ok (.iload_n 2, 1) := by decide +kernel
theorem dX10_sticks_18 : decode cX10_sticks 18 = .ok (.iadd, 1) := by decide +kernel
theorem dX10_sticks_19 : decode cX10_sticks 19 = .ok (.iaload, 1) := by decide +kernel
theorem dX10_sticks_20 : decode cX10_sticks 20 = .ok (.iconst (-1), 1) := by decide +kernel
theorem dX10_sticks_21 : decode cX10_sticks 21 = .ok (.if_icmp .eq 7, 3) := by decide +kernel
theorem dX10_sticks_24 : decode cX10_sticks 24 = .ok (.iconst 1, 1) := by decide +kernel
theorem dX10_sticks_25 : decode cX10_sticks 25 = .ok (.goto 4, 3) := by decide +kernel
theorem dX10_sticks_28 : decode cX10_sticks 28 = .ok (.iconst 0, 1) := by decide +kernel
theorem dX10_sticks_29 : decode cX10_sticks 29 = .ok (.ireturn, 1) := by decide +kernel
set_option maxRecDepth 20000 in
theorem ggX10_wear_X10_noSwitch : GoodIn wsX10_wear wsX10_noSwitch := goodIn_r _ [6, 7, 8, 9, 5, 10, 11, 12, 13, 14, 15, 16, 17, 18, 19, 20, 21, 22, 23, 24, 25, 26, 27, 28, 29, 30, 31, 32, 33, 34, 35, 36, 37, 38, 39, 40, 41, 42, 43, 44, 45, 46, 47, 48, 49, 50, 51, 52, 53, 54, 55, 56, 57, 58, 59, 60, 61, 62, 63, 64, 65, 66, 67, 68, 69, 70, 71, 72, 73, 74, 75, 76, 77, 78, 79] (by decide +kernel) (by decide +kernel)
set_option maxRecDepth 20000 in
theorem gX10_wear_X10_noSwitch : GoodIn wsX10_wear (wsV RX10 185 RX10 yX10_noSwitch wsX10_noSwitch) := goodIn_app (goodIn_of _ (by decide +kernel)) ggX10_wear_X10_noSwitch
theorem dX10_wear_0 : decode cX10_wear 0 = .ok (.aload_n 0, 1) := by decide +kernel
theorem dX10_wear_1 : decode cX10_wear 1 = .ok (.iload_n 1, 1) := by decide +kernel
theorem dX10_wear_2 : decode cX10_wear 2 = .ok (.iload_n 2, 1) := by decide +kernel
theorem dX10_wear_3 : decode cX10_wear 3 = .ok (.invokevirtual 185, 3) := by decide +kernel
theorem dX10_wear_6 : decode cX10_wear 6 = .ok (.ifCond .eq 7, 3) := by decide +kernel
theorem dX10_wear_9 : decode cX10_wear 9 = .ok (.iconst 0, 1) := by decide +kernel
theorem dX10_wear_10 : decode cX10_wear 10 = .ok (.goto 14, 3) := by decide +kernel
theorem dX10_wear_13 : decode cX10_wear 13 = .ok (.aload_n 0, 1) := by decide +kernel
theorem dX10_wear_14 : decode cX10_wear 14 = .ok (.getfield 49, 3) := by decide +kernel
theorem dX10_wear_17 : decode cX10_wear 17 = .ok (.bipush 8, 2) := by decide +kernel
theorem dX10_wear_19 : decode cX10_wear 19 = .ok (.iload_n 1, 1) := by decide +kernel
theorem dX10_wear_20 : decode cX10_wear 20 = .ok (.imul, 1) := by decide +kernel
theorem dX10_wear_21 : decode cX10_wear 21 = .ok (.iload_n 2, 1) := by decide +kernel
theorem dX10_wear_22 : decode cX10_wear 22 = .ok (.iadd, 1) := by decide +kernel
theorem dX10_wear_23 : decode cX10_wear 23 = .ok (.iaload, 1) := by decide +kernel
theorem dX10_wear_24 : decode cX10_wear 24 = .ok (.ireturn, 1) := by decide +kernel
set_option maxRecDepth 20000 in
theorem ggX10_coin_X10_isTable : GoodIn wsX10_coin wsX10_isTable := goodIn_r _ [24, 25, 26, 27, 23, 28, 38, 39, 40, 41, 42, 43, 44, 45, 46, 47, 48, 49, 50, 51, 52, 53, 54, 55, 56, 57, 58, 59, 60, 61, 62, 63, 64, 65, 66, 67, 68, 69, 70, 71, 72, 73, 74, 75, 76, 77, 78, 79, 80, 81, 82, 83, 84, 85, 86, 87, 88, 89, 90, 91, 92] (by decide +kernel) (by decide +kernel)
set_option maxRecDepth 20000 in
theorem gX10_coin_X10_isTable : GoodIn wsX10_coin (wsV RX10 161 RX10 yX10_isTable wsX10_isTable) := goodIn_app (goodIn_of _ (by decide +kernel)) ggX10_coin_X10_isTable
set_option maxRecDepth 20000 in
theorem ggX10_coin_X10_isFree : GoodIn wsX10_coin wsX10_isFree := goodIn_r _ [32, 19, 38, 39, 40, 41, 42, 43, 44, 45, 46, 47, 48, 49, 50, 51, 52, 53, 54, 55, 56, 57, 58, 59, 60, 61, 62, 63, 64, 65, 66, 67, 68, 69, 70, 71, 72, 73, 74, 75, 76, 77, 78, 79, 80, 81, 82, 83, 84, 85, 86, 87, 88, 89, 90, 91, 92] (by decide +kernel) (by decide +kernel)
set_option maxRecDepth 20000 in
theorem gX10_coin_X10_isFree : GoodIn wsX10_coin (wsV RX10 171 RX10 yX10_isFree wsX10_isFree) := goodIn_app (goodIn_of _ (by decide +kernel)) ggX10_coin_X10_isFree
set_option maxRecDepth 20000 in
theorem ggX10_coin_X10_refused : GoodIn wsX10_coin wsX10_refused := goodIn_r _ [36, 37, 38, 39, 40, 41, 42, 43, 44, 45, 46, 47, 48, 49, 50, 51, 52, 53, 54, 55, 56, 57, 58, 59, 60, 61, 62, 63, 64, 65, 66, 67, 68, 69, 70, 71, 72, 73, 74, 75, 76, 77, 78, 79, 80, 81, 82, 83, 84, 85, 86, 87, 88, 89, 90, 91, 92] (by decide +kernel) (by decide +kernel)
set_option maxRecDepth 20000 in
theorem gX10_coin_X10_refused : GoodIn wsX10_coin (wsV RX10 168 RX10 yX10_refused wsX10_refused) := goodIn_app (goodIn_of _ (by decide +kernel)) ggX10_coin_X10_refused
theorem dX10_coin_0 : decode cX10_coin 0 = .ok (.aload_n 0, 1) := by decide +kernel
theorem dX10_coin_1 : decode cX10_coin 1 = .ok (.iload_n 1, 1) := by decide +kernel
theorem dX10_coin_2 : decode cX10_coin 2 = .ok (.invokevirtual 161, 3) := by decide +kernel
theorem dX10_coin_5 : decode cX10_coin 5 = .ok (.ifCond .eq 24, 3) := by decide +kernel
theorem dX10_coin_8 : decode cX10_coin 8 = .ok (.aload_n 0, 1) := by decide +kernel
theorem dX10_coin_9 : decode cX10_coin 9 = .ok (.iload_n 1, 1) := by decide +kernel
theorem dX10_coin_10 : decode cX10_coin 10 = .ok (.invokevirtual 171, 3) := by decide +kernel
theorem dX10_coin_13 : decode cX10_coin 13 = .ok (.ifCond .eq 16, 3) := by decide +kernel
theorem dX10_coin_16 : decode cX10_coin 16 = .ok (.aload_n 0, 1) := by decide +kernel
theorem dX10_coin_17 : decode cX10_coin 17 = .ok (.getfield 165, 3) := by decide +kernel
theorem dX10_coin_20 : decode cX10_coin 20 = .ok (.bipush 40, 2) := by decide +kernel
theorem dX10_coin_22 : decode cX10_coin 22 = .ok (.if_icmp .ge 7, 3) := by decide +kernel
theorem dX10_coin_25 : decode cX10_coin 25 = .ok (.iconst 1, 1) := by decide +kernel
theorem dX10_coin_26 : decode cX10_coin 26 = .ok (.goto 4, 3) := by decide +kernel
theorem dX10_coin_29 : decode cX10_coin 29 = .ok (.iconst 0, 1) := by decide +kernel
theorem dX10_coin_30 : decode cX10_coin 30 = .ok (.istore_n 2, 1) := by decide +kernel
theorem dX10_coin_31 : decode cX10_coin 31 = .ok (.aload_n 0, 1) := by decide +kernel
theorem dX10_coin_32 : decode cX10_coin 32 = .ok (.aload_n 0, 1) := by decide +kernel
theorem dX10_coin_33 : decode cX10_coin 33 = .ok (.iload_n 1, 1) := by decide +kernel
theorem dX10_coin_34 : decode cX10_coin 34 = .ok (.invokevirtual 161, 3) := by decide +kernel
theorem dX10_coin_37 : decode cX10_coin 37 = .ok (.ifCond .ne 7, 3) := by decide +kernel
theorem dX10_coin_40 : decode cX10_coin 40 = .ok (.iconst 1, 1) := by decide +kernel
theorem dX10_coin_41 : decode cX10_coin 41 = .ok (.goto 12, 3) := by decide +kernel
theorem dX10_coin_44 : decode cX10_coin 44 = .ok (.iload_n 2, 1) := by decide +kernel
theorem dX10_coin_45 : decode cX10_coin 45 = .ok (.ifCond .eq 7, 3) := by decide +kernel
theorem dX10_coin_48 : decode cX10_coin 48 = .ok (.iconst 0, 1) := by decide +kernel
theorem dX10_coin_49 : decode cX10_coin 49 = .ok (.goto 4, 3) := by decide +kernel
theorem dX10_coin_52 : decode cX10_coin 52 = .ok (.iconst 2, 1) := by decide +kernel
theorem dX10_coin_53 : decode cX10_coin 53 = .ok (.invokevirtual 168, 3) := by decide +kernel
theorem dX10_coin_56 : decode cX10_coin 56 = .ok (.ifCond .eq 5, 3) := by decide +kernel
theorem dX10_coin_59 : decode cX10_coin 59 = .ok (.iconst 0, 1) := by decide +kernel
theorem dX10_coin_60 : decode cX10_coin 60 = .ok (.ireturn, 1) := by decide +kernel
theorem dX10_coin_61 : decode cX10_coin 61 = .ok (.aload_n 0, 1) := by decide +kernel
theorem dX10_coin_62 : decode cX10_coin 62 = .ok (.getfield 165, 3) := by decide +kernel
theorem dX10_coin_65 : decode cX10_coin 65 = .ok (.istore_n 3, 1) := by decide +kernel
theorem dX10_coin_66 : decode cX10_coin 66 = .ok (.aload_n 0, 1) := by decide +kernel
theorem dX10_coin_67 : decode cX10_coin 67 = .ok (.getfield 74, 3) := by decide +kernel
theorem dX10_coin_70 : decode cX10_coin 70 = .ok (.iload_n 3, 1) := by decide +kernel
theorem dX10_coin_71 : decode cX10_coin 71 = .ok (.iload_n 1, 1) := by decide +kernel
theorem dX10_coin_72 : decode cX10_coin 72 = .ok (.iastore, 1) := by decide +kernel
theorem dX10_coin_73 : decode cX10_coin 73 = .ok (.aload_n 0, 1) := by decide +kernel
theorem dX10_coin_74 : decode cX10_coin 74 = .ok (.getfield 77, 3) := by decide +kernel
theorem dX10_coin_77 : decode cX10_coin 77 = .ok (.iload_n 3, 1) := by decide +kernel
theorem dX10_coin_78 : decode cX10_coin 78 = .ok (.iconst 3, 1) := by decide +kernel
theorem dX10_coin_79 : decode cX10_coin 79 = .ok (.iastore, 1) := by decide +kernel
theorem dX10_coin_80 : decode cX10_coin 80 = .ok (.iconst 0, 1) := by decide +kernel
theorem dX10_coin_81 : decode cX10_coin 81 = .ok (.istore 4, 2) := by decide +kernel
theorem dX10_coin_83 : decode cX10_coin 83 = .ok (.iload 4, 2) := by decide +kernel
theorem dX10_coin_85 : decode cX10_coin 85 = .ok (.bipush 8, 2) := by decide +kernel
theorem dX10_coin_87 : decode cX10_coin 87 = .ok (.if_icmp .ge 33, 3) := by decide +kernel
theorem dX10_coin_90 : decode cX10_coin 90 = .ok (.aload_n 0, 1) := by decide +kernel
theorem dX10_coin_91 : decode cX10_coin 91 = .ok (.getfield 83, 3) := by decide +kernel
theorem dX10_coin_94 : decode cX10_coin 94 = .ok (.bipush 8, 2) := by decide +kernel
theorem dX10_coin_96 : decode cX10_coin 96 = .ok (.iload_n 3, 1) := by decide +kernel
theorem dX10_coin_97 : decode cX10_coin 97 = .ok (.imul, 1) := by decide +kernel
theorem dX10_coin_98 : decode cX10_coin 98 = .ok (.iload 4, 2) := by decide +kernel
theorem dX10_coin_100 : decode cX10_coin 100 = .ok (.iadd, 1) := by decide +kernel
theorem dX10_coin_101 : decode cX10_coin 101 = .ok (.aload_n 0, 1) := by decide +kernel
theorem dX10_coin_102 : decode cX10_coin 102 = .ok (.getfield 46, 3) := by decide +kernel
theorem dX10_coin_105 : decode cX10_coin 105 = .ok (.bipush 8, 2) := by decide +kernel
theorem dX10_coin_107 : decode cX10_coin 107 = .ok (.iload_n 1, 1) := by decide +kernel
theorem dX10_coin_108 : decode cX10_coin 108 = .ok (.imul, 1) := by decide +kernel
theorem dX10_coin_109 : decode cX10_coin 109 = .ok (.iload 4, 2) := by decide +kernel
theorem dX10_coin_111 : decode cX10_coin 111 = .ok (.iadd, 1) := by decide +kernel
theorem dX10_coin_112 : decode cX10_coin 112 = .ok (.iaload, 1) := by decide +kernel
theorem dX10_coin_113 : decode cX10_coin 113 = .ok (.iastore, 1) := by decide +kernel
theorem dX10_coin_114 : decode cX10_coin 114 = .ok (.iinc 4 1, 3) := by decide +kernel
theorem dX10_coin_117 : decode cX10_coin 117 = .ok (.goto (-34), 3) := by decide +kernel
theorem dX10_coin_120 : decode cX10_coin 120 = .ok (.iconst 0, 1) := by decide +kernel
theorem dX10_coin_121 : decode cX10_coin 121 = .ok (.istore 4, 2) := by decide +kernel
theorem dX10_coin_123 : decode cX10_coin 123 = .ok (.iload 4, 2) := by decide +kernel
theorem dX10_coin_125 : decode cX10_coin 125 = .ok (.iconst 4, 1) := by decide +kernel
theorem dX10_coin_126 : decode cX10_coin 126 = .ok (.if_icmp .ge 119, 3) := by decide +kernel
theorem dX10_coin_129 : decode cX10_coin 129 = .ok (.aload_n 0, 1) := by decide +kernel
theorem dX10_coin_130 : decode cX10_coin 130 = .ok (.getfield 86, 3) := by decide +kernel
theorem dX10_coin_133 : decode cX10_coin 133 = .ok (.iconst 4, 1) := by decide +kernel
theorem dX10_coin_134 : decode cX10_coin 134 = .ok (.iload_n 3, 1) := by decide +kernel
theorem dX10_coin_135 : decode cX10_coin 135 = .ok (.imul, 1) := by decide +kernel
theorem dX10_coin_136 : decode cX10_coin 136 = .ok (.iload 4, 2) := by decide +kernel
theorem dX10_coin_138 : decode cX10_coin 138 = .ok (.iadd, 1) := by decide +kernel
theorem dX10_coin_139 : decode cX10_coin 139 = .ok (.aload_n 0, 1) := by decide +kernel
theorem dX10_coin_140 : decode cX10_coin 140 = .ok (.getfield 55, 3) := by decide +kernel
theorem dX10_coin_143 : decode cX10_coin 143 = .ok (.iconst 4, 1) := by decide +kernel
theorem dX10_coin_144 : decode cX10_coin 144 = .ok (.iload_n 1, 1) := by decide +kernel
theorem dX10_coin_145 : decode cX10_coin 145 = .ok (.imul, 1) := by decide +kernel
theorem dX10_coin_146 : decode cX10_coin 146 = .ok (.iload 4, 2) := by decide +kernel
theorem dX10_coin_148 : decode cX10_coin 148 = .ok (.iadd, 1) := by decide +kernel
theorem dX10_coin_149 : decode cX10_coin 149 = .ok (.iaload, 1) := by decide +kernel
theorem dX10_coin_150 : decode cX10_coin 150 = .ok (.iastore, 1) := by decide +kernel
theorem dX10_coin_151 : decode cX10_coin 151 = .ok (.aload_n 0, 1) := by decide +kernel
theorem dX10_coin_152 : decode cX10_coin 152 = .ok (.getfield 89, 3) := by decide +kernel
theorem dX10_coin_155 : decode cX10_coin 155 = .ok (.iconst 4, 1) := by decide +kernel
theorem dX10_coin_156 : decode cX10_coin 156 = .ok (.iload_n 3, 1) := by decide +kernel
theorem dX10_coin_157 : decode cX10_coin 157 = .ok (.imul, 1) := by decide +kernel
theorem dX10_coin_158 : decode cX10_coin 158 = .ok (.iload 4, 2) := by decide +kernel
theorem dX10_coin_160 : decode cX10_coin 160 = .ok (.iadd, 1) := by decide +kernel
theorem dX10_coin_161 : decode cX10_coin 161 = .ok (.aload_n 0, 1) := by decide +kernel
theorem dX10_coin_162 : decode cX10_coin 162 = .ok (.getfield 58, 3) := by decide +kernel
theorem dX10_coin_165 : decode cX10_coin 165 = .ok (.iconst 4, 1) := by decide +kernel
theorem dX10_coin_166 : decode cX10_coin 166 = .ok (.iload_n 1, 1) := by decide +kernel
theorem dX10_coin_167 : decode cX10_coin 167 = .ok (.imul, 1) := by decide +kernel
theorem dX10_coin_168 : decode cX10_coin 168 = .ok (.iload 4, 2) := by decide +kernel
theorem dX10_coin_170 : decode cX10_coin 170 = .ok (.iadd, 1) := by decide +kernel
theorem dX10_coin_171 : decode cX10_coin 171 = .ok (.iaload, 1) := by decide +kernel
theorem dX10_coin_172 : decode cX10_coin 172 = .ok (.iastore, 1) := by decide +kernel
theorem dX10_coin_173 : decode cX10_coin 173 = .ok (.aload_n 0, 1) := by decide +kernel
theorem dX10_coin_174 : decode cX10_coin 174 = .ok (.getfield 92, 3) := by decide +kernel
theorem dX10_coin_177 : decode cX10_coin 177 = .ok (.iconst 4, 1) := by decide +kernel
theorem dX10_coin_178 : decode cX10_coin 178 = .ok (.iload_n 3, 1) := by decide +kernel
theorem dX10_coin_179 : decode cX10_coin 179 = .ok (.imul, 1) := by decide +kernel
theorem dX10_coin_180 : decode cX10_coin 180 = .ok (.iload 4, 2) := by decide +kernel
theorem dX10_coin_182 : decode cX10_coin 182 = .ok (.iadd, 1) := by decide +kernel
theorem dX10_coin_183 : decode cX10_coin 183 = .ok (.aload_n 0, 1) := by decide +kernel
theorem dX10_coin_184 : decode cX10_coin 184 = .ok (.getfield 61, 3) := by decide +kernel
theorem dX10_coin_187 : decode cX10_coin 187 = .ok (.iconst 4, 1) := by decide +kernel
theorem dX10_coin_188 : decode cX10_coin 188 = .ok (.iload_n 1, 1) := by decide +kernel
theorem dX10_coin_189 : decode cX10_coin 189 = .ok (.imul, 1) := by decide +kernel
theorem dX10_coin_190 : decode cX10_coin 190 = .ok (.iload 4, 2) := by decide +kernel
theorem dX10_coin_192 : decode cX10_coin 192 = .ok (.iadd, 1) := by decide +kernel
theorem dX10_coin_193 : decode cX10_coin 193 = .ok (.iaload, 1) := by decide +kernel
theorem dX10_coin_194 : decode cX10_coin 194 = .ok (.iastore, 1) := by decide +kernel
theorem dX10_coin_195 : decode cX10_coin 195 = .ok (.aload_n 0, 1) := by decide +kernel
theorem dX10_coin_196 : decode cX10_coin 196 = .ok (.getfield 95, 3) := by decide +kernel
theorem dX10_coin_199 : decode cX10_coin 199 = .ok (.iconst 4, 1) := by decide +kernel
theorem dX10_coin_200 : decode cX10_coin 200 = .ok (.iload_n 3, 1) := by decide +kernel
theorem dX10_coin_201 : decode cX10_coin 201 = .ok (.imul, 1) := by decide +kernel
theorem dX10_coin_202 : decode cX10_coin 202 = .ok (.iload 4, 2) := by decide +kernel
theorem dX10_coin_204 : decode cX10_coin 204 = .ok (.iadd, 1) := by decide +kernel
theorem dX10_coin_205 : decode cX10_coin 205 = .ok (.aload_n 0, 1) := by decide +kernel
theorem dX10_coin_206 : decode cX10_coin 206 = .ok (.getfield 64, 3) := by decide +kernel
theorem dX10_coin_209 : decode cX10_coin 209 = .ok (.iconst 4, 1) := by decide +kernel
theorem dX10_coin_210 : decode cX10_coin 210 = .ok (.iload_n 1, 1) := by decide +kernel
theorem dX10_coin_211 : decode cX10_coin 211 = .ok (.imul, 1) := by decide +kernel
theorem dX10_coin_212 : decode cX10_coin 212 = .ok (.iload 4, 2) := by decide +kernel
theorem dX10_coin_214 : decode cX10_coin 214 = .ok (.iadd, 1) := by decide +kernel
theorem dX10_coin_215 : decode cX10_coin 215 = .ok (.iaload, 1) := by decide +kernel
theorem dX10_coin_216 : decode cX10_coin 216 = .ok (.iastore, 1) := by decide +kernel
theorem dX10_coin_217 : decode cX10_coin 217 = .ok (.aload_n 0, 1) := by decide +kernel
theorem dX10_coin_218 : decode cX10_coin 218 = .ok (.getfield 98, 3) := by decide +kernel
theorem dX10_coin_221 : decode cX10_coin 221 = .ok (.iconst 4, 1) := by decide +kernel
theorem dX10_coin_222 : decode cX10_coin 222 = .ok (.iload_n 3, 1) := by decide +kernel
theorem dX10_coin_223 : decode cX10_coin 223 = .ok (.imul, 1) := by decide +kernel
theorem dX10_coin_224 : decode cX10_coin 224 = .ok (.iload 4, 2) := by decide +kernel
theorem dX10_coin_226 : decode cX10_coin 226 = .ok (.iadd, 1) := by decide +kernel
theorem dX10_coin_227 : decode cX10_coin 227 = .ok (.aload_n 0, 1) := by decide +kernel
theorem dX10_coin_228 : decode cX10_coin 228 = .ok (.getfield 67, 3) := by decide +kernel
theorem dX10_coin_231 : decode cX10_coin 231 = .ok (.iconst 4, 1) := by decide +kernel
theorem dX10_coin_232 : decode cX10_coin 232 = .ok (.iload_n 1, 1) := by decide +kernel
theorem dX10_coin_233 : decode cX10_coin 233 = .ok (.imul, 1) := by decide +kernel
theorem dX10_coin_234 : decode cX10_coin 234 = .ok (.iload 4, 2) := by decide +kernel
theorem dX10_coin_236 : decode cX10_coin 236 = .ok (.iadd, 1) := by decide +kernel
theorem dX10_coin_237 : decode cX10_coin 237 = .ok (.iaload, 1) := by decide +kernel
theorem dX10_coin_238 : decode cX10_coin 238 = .ok (.iastore, 1) := by decide +kernel
theorem dX10_coin_239 : decode cX10_coin 239 = .ok (.iinc 4 1, 3) := by decide +kernel
theorem dX10_coin_242 : decode cX10_coin 242 = .ok (.goto (-119), 3) := by decide +kernel
theorem dX10_coin_245 : decode cX10_coin 245 = .ok (.aload_n 0, 1) := by decide +kernel
theorem dX10_coin_246 : decode cX10_coin 246 = .ok (.getfield 16, 3) := by decide +kernel
theorem dX10_coin_249 : decode cX10_coin 249 = .ok (.iload_n 1, 1) := by decide +kernel
theorem dX10_coin_250 : decode cX10_coin 250 = .ok (.dup2, 1) := by decide +kernel
theorem dX10_coin_251 : decode cX10_coin 251 = .ok (.iaload, 1) := by decide +kernel
theorem dX10_coin_252 : decode cX10_coin 252 = .ok (.aload_n 0, 1) := by decide +kernel
theorem dX10_coin_253 : decode cX10_coin 253 = .ok (.getfield 13, 3) := by decide +kernel
theorem dX10_coin_256 : decode cX10_coin 256 = .ok (.iload_n 1, 1) := by decide +kernel
theorem dX10_coin_257 : decode cX10_coin 257 = .ok (.iaload, 1) := by decide +kernel
theorem dX10_coin_258 : decode cX10_coin 258 = .ok (.iadd, 1) := by decide +kernel
theorem dX10_coin_259 : decode cX10_coin 259 = .ok (.iastore, 1) := by decide +kernel
theorem dX10_coin_260 : decode cX10_coin 260 = .ok (.aload_n 0, 1) := by decide +kernel
theorem dX10_coin_261 : decode cX10_coin 261 = .ok (.getfield 19, 3) := by decide +kernel
theorem dX10_coin_264 : decode cX10_coin 264 = .ok (.iload_n 1, 1) := by decide +kernel
theorem dX10_coin_265 : decode cX10_coin 265 = .ok (.dup2, 1) := by decide +kernel
theorem dX10_coin_266 : decode cX10_coin 266 = .ok (.iaload, 1) := by decide +kernel
theorem dX10_coin_267 : decode cX10_coin 267 = .ok (.aload_n 0, 1) := by decide +kernel
theorem dX10_coin_268 : decode cX10_coin 268 = .ok (.getfield 13, 3) := by decide +kernel
theorem dX10_coin_271 : decode cX10_coin 271 = .ok (.iload_n 1, 1) := by decide +kernel
theorem dX10_coin_272 : decode cX10_coin 272 = .ok (.iaload, 1) := by decide +kernel
theorem dX10_coin_273 : decode cX10_coin 273 = .ok (.iadd, 1) := by decide +kernel
theorem dX10_coin_274 : decode cX10_coin 274 = .ok (.iastore, 1) := by decide +kernel
theorem dX10_coin_275 : decode cX10_coin 275 = .ok (.aload_n 0, 1) := by decide +kernel
theorem dX10_coin_276 : decode cX10_coin 276 = .ok (.getfield 25, 3) := by decide +kernel
theorem dX10_coin_279 : decode cX10_coin 279 = .ok (.iload_n 1, 1) := by decide +kernel
theorem dX10_coin_280 : decode cX10_coin 280 = .ok (.iload_n 3, 1) := by decide +kernel
theorem dX10_coin_281 : decode cX10_coin 281 = .ok (.iastore, 1) := by decide +kernel
theorem dX10_coin_282 : decode cX10_coin 282 = .ok (.aload_n 0, 1) := by decide +kernel
theorem dX10_coin_283 : decode cX10_coin 283 = .ok (.dup, 1) := by decide +kernel
theorem dX10_coin_284 : decode cX10_coin 284 = .ok (.getfield 165, 3) := by decide +kernel
theorem dX10_coin_287 : decode cX10_coin 287 = .ok (.iconst 1, 1) := by decide +kernel
theorem dX10_coin_288 : decode cX10_coin 288 = .ok (.iadd, 1) := by decide +kernel
theorem dX10_coin_289 : decode cX10_coin 289 = .ok (.putfield 165, 3) := by decide +kernel
theorem dX10_coin_292 : decode cX10_coin 292 = .ok (.iload_n 3, 1) := by decide +kernel
theorem dX10_coin_293 : decode cX10_coin 293 = .ok (.ireturn, 1) := by decide +kernel
theorem dX10_isOn_0 : decode cX10_isOn 0 = .ok (.iconst 0, 1) := by decide +kernel
theorem dX10_isOn_1 : decode cX10_isOn 1 = .ok (.istore_n 2, 1) := by decide +kernel
theorem dX10_isOn_2 : decode cX10_isOn 2 = .ok (.iconst 0, 1) := by decide +kernel
theorem dX10_isOn_3 : decode cX10_isOn 3 = .ok (.istore_n 3, 1) := by decide +kernel
theorem dX10_isOn_4 : decode cX10_isOn 4 = .ok (.iload_n 3, 1) := by decide +kernel
theorem dX10_isOn_5 : decode cX10_isOn 5 = .ok (.aload_n 0, 1) := by decide +kernel
theorem dX10_isOn_6 : decode cX10_isOn 6 = .ok (.getfield 188, 3) := by decide +kernel
theorem dX10_isOn_9 : decode cX10_isOn 9 = .ok (.if_icmp .ge 29, 3) := by decide +kernel
theorem dX10_isOn_12 : decode cX10_isOn 12 = .ok (.iload_n 2, 1) := by decide +kernel
theorem dX10_isOn_13 : decode cX10_isOn 13 = .ok (.ifCond .ne 13, 3) := by decide +kernel
theorem dX10_isOn_16 : decode cX10_isOn 16 = .ok (.aload_n 0, 1) := by decide +kernel
theorem dX10_isOn_17 : decode cX10_isOn 17 = .ok (.getfield 120, 3) := by decide +kernel
theorem dX10_isOn_20 : decode cX10_isOn 20 = .ok (.iload_n 3, 1) := by decide +kernel
theorem dX10_isOn_21 : decode cX10_isOn 21 = .ok (.iaload, 1) := by decide +kernel
theorem dX10_isOn_22 : decode cX10_isOn 22 = .ok (.iload_n 1, 1) := by decide +kernel
theorem dX10_isOn_23 : decode cX10_isOn 23 = .ok (.if_icmp .ne 7, 3) := by decide +kernel
theorem dX10_isOn_26 : decode cX10_isOn 26 = .ok (.iconst 1, 1) := by decide +kernel
theorem dX10_isOn_27 : decode cX10_isOn 27 = .ok (.goto 4, 3) := by decide +kernel
theorem dX10_isOn_30 : decode cX10_isOn 30 = .ok (.iconst 0, 1) := by decide +kernel
theorem dX10_isOn_31 : decode cX10_isOn 31 = .ok (.istore_n 2, 1) := by decide +kernel
theorem dX10_isOn_32 : decode cX10_isOn 32 = .ok (.iinc 3 1, 3) := by decide +kernel
theorem dX10_isOn_35 : decode cX10_isOn 35 = .ok (.goto (-31), 3) := by decide +kernel
theorem dX10_isOn_38 : decode cX10_isOn 38 = .ok (.iload_n 2, 1) := by decide +kernel
theorem dX10_isOn_39 : decode cX10_isOn 39 = .ok (.ireturn, 1) := by decide +kernel
set_option maxRecDepth 20000 in
theorem ggX10_close_X10_isOn : GoodIn wsX10_close wsX10_isOn := goodIn_r _ [16, 1, 3, 17, 18, 19, 20, 21, 22, 23, 24, 25, 26, 27, 28, 29, 30, 31, 32, 33, 34, 35, 36, 37, 38, 39, 40, 41, 42, 43, 44, 45, 46, 47, 48, 49, 50, 51, 52, 53, 54, 55, 56, 57, 58, 59, 60, 61, 62, 63, 64, 65, 66, 67, 68, 69, 70, 71] (by decide +kernel) (by decide +kernel)
set_option maxRecDepth 20000 in
theorem gX10_close_X10_isOn : GoodIn wsX10_close (wsV RX10 197 RX10 yX10_isOn wsX10_isOn) := goodIn_app (goodIn_of _ (by decide +kernel)) ggX10_close_X10_isOn
theorem dX10_close_0 : decode cX10_close 0 = .ok (.aload_n 0, 1) := by decide +kernel
theorem dX10_close_1 : decode cX10_close 1 = .ok (.getfield 188, 3) := by decide +kernel
theorem dX10_close_4 : decode cX10_close 4 = .ok (.ifCond .ne 7, 3) := by decide +kernel
theorem dX10_close_7 : decode cX10_close 7 = .ok (.iconst (-1), 1) := by decide +kernel
theorem dX10_close_8 : decode cX10_close 8 = .ok (.goto 21, 3) := by decide +kernel
theorem dX10_close_11 : decode cX10_close 11 = .ok (.iconst 4, 1) := by decide +kernel
theorem dX10_close_12 : decode cX10_close 12 = .ok (.aload_n 0, 1) := by decide +kernel
theorem dX10_close_13 : decode cX10_close 13 = .ok (.getfield 191, 3) := by decide +kernel
theorem dX10_close_16 : decode cX10_close 16 = .ok (.imul, 1) := by decide +kernel
theorem dX10_close_17 : decode cX10_close 17 = .ok (.aload_n 0, 1) := by decide +kernel
theorem dX10_close_18 : decode cX10_close 18 = .ok (.getfield 120, 3) := by decide +kernel
theorem dX10_close_21 : decode cX10_close 21 = .ok (.aload_n 0, 1) := by decide +kernel
theorem dX10_close_22 : decode cX10_close 22 = .ok (.getfield 188, 3) := by decide +kernel
theorem dX10_close_25 : decode cX10_close 25 = .ok (.iconst 1, 1) := by decide +kernel
theorem dX10_close_26 : decode cX10_close 26 = .ok (.isub, 1) := by decide +kernel
theorem dX10_close_27 : decode cX10_close 27 = .ok (.iaload, 1) := by decide +kernel
theorem dX10_close_28 : decode cX10_close 28 = .ok (.iadd, 1) := by decide +kernel
theorem dX10_close_29 : decode cX10_close 29 = .ok (.istore_n 2, 1) := by decide +kernel
theorem dX10_close_30 : decode cX10_close 30 = .ok (.aload_n 0, 1) := by decide +kernel
theorem dX10_close_31 : decode cX10_close 31 = .ok (.getfield 188, 3) := by decide +kernel
theorem dX10_close_34 : decode cX10_close 34 = .ok (.ifCond .ne 7, 3) := by decide +kernel
theorem dX10_close_37 : decode cX10_close 37 = .ok (.iconst 1, 1) := by decide +kernel
theorem dX10_close_38 : decode cX10_close 38 = .ok (.goto 9, 3) := by decide +kernel
theorem dX10_close_41 : decode cX10_close 41 = .ok (.aload_n 0, 1) := by decide +kernel
theorem dX10_close_42 : decode cX10_close 42 = .ok (.getfield 95, 3) := by decide +kernel
theorem dX10_close_45 : decode cX10_close 45 = .ok (.iload_n 2, 1) := by decide +kernel
theorem dX10_close_46 : decode cX10_close 46 = .ok (.iaload, 1) := by decide +kernel
theorem dX10_close_47 : decode cX10_close 47 = .ok (.istore_n 3, 1) := by decide +kernel
theorem dX10_close_48 : decode cX10_close 48 = .ok (.aload_n 0, 1) := by decide +kernel
theorem dX10_close_49 : decode cX10_close 49 = .ok (.dup, 1) := by decide +kernel
theorem dX10_close_50 : decode cX10_close 50 = .ok (.getfield 194, 3) := by decide +kernel
theorem dX10_close_53 : decode cX10_close 53 = .ok (.iload_n 3, 1) := by decide +kernel
theorem dX10_close_54 : decode cX10_close 54 = .ok (.aload_n 0, 1) := by decide +kernel
theorem dX10_close_55 : decode cX10_close 55 = .ok (.getfield 83, 3) := by decide +kernel
theorem dX10_close_58 : decode cX10_close 58 = .ok (.bipush 8, 2) := by decide +kernel
theorem dX10_close_60 : decode cX10_close 60 = .ok (.aload_n 0, 1) := by decide +kernel
theorem dX10_close_61 : decode cX10_close 61 = .ok (.getfield 191, 3) := by decide +kernel
theorem dX10_close_64 : decode cX10_close 64 = .ok (.imul, 1) := by decide +kernel
theorem dX10_close_65 : decode cX10_close 65 = .ok (.iload_n 1, 1) := by decide +kernel
theorem dX10_close_66 : decode cX10_close 66 = .ok (.iadd, 1) := by decide +kernel
theorem dX10_close_67 : decode cX10_close 67 = .ok (.iaload, 1) := by decide +kernel
theorem dX10_close_68 : decode cX10_close 68 = .ok (.imul, 1) := by decide +kernel
theorem dX10_close_69 : decode cX10_close 69 = .ok (.iadd, 1) := by decide +kernel
theorem dX10_close_70 : decode cX10_close 70 = .ok (.putfield 194, 3) := by decide +kernel
theorem dX10_close_73 : decode cX10_close 73 = .ok (.aload_n 0, 1) := by decide +kernel
theorem dX10_close_74 : decode cX10_close 74 = .ok (.getfield 188, 3) := by decide +kernel
theorem dX10_close_77 : decode cX10_close 77 = .ok (.ifCond .le 74, 3) := by decide +kernel
theorem dX10_close_80 : decode cX10_close 80 = .ok (.aload_n 0, 1) := by decide +kernel
theorem dX10_close_81 : decode cX10_close 81 = .ok (.getfield 123, 3) := by decide +kernel
theorem dX10_close_84 : decode cX10_close 84 = .ok (.aload_n 0, 1) := by decide +kernel
theorem dX10_close_85 : decode cX10_close 85 = .ok (.getfield 188, 3) := by decide +kernel
theorem dX10_close_88 : decode cX10_close 88 = .ok (.iconst 1, 1) := by decide +kernel
theorem dX10_close_89 : decode cX10_close 89 = .ok (.isub, 1) := by decide +kernel
theorem dX10_close_90 : decode cX10_close 90 = .ok (.dup2, 1) := by decide +kernel
theorem dX10_close_91 : decode cX10_close 91 = .ok (.iaload, 1) := by decide +kernel
theorem dX10_close_92 : decode cX10_close 92 = .ok (.iconst 1, 1) := by decide +kernel
theorem dX10_close_93 : decode cX10_close 93 = .ok (.iadd, 1) := by decide +kernel
theorem dX10_close_94 : decode cX10_close 94 = .ok (.iastore, 1) := by decide +kernel
theorem dX10_close_95 : decode cX10_close 95 = .ok (.iload_n 1, 1) := by decide +kernel
theorem dX10_close_96 : decode cX10_close 96 = .ok (.aload_n 0, 1) := by decide +kernel
theorem dX10_close_97 : decode cX10_close 97 = .ok (.getfield 89, 3) := by decide +kernel
theorem dX10_close_100 : decode cX10_close 100 = .ok (.iload_n 2, 1) := by decide +kernel
theorem dX10_close_101 : decode cX10_close 101 = .ok (.iaload, 1) := by decide +kernel
theorem dX10_close_102 : decode cX10_close 102 = .ok (.if_icmp .eq 23, 3) := by decide +kernel
theorem dX10_close_105 : decode cX10_close 105 = .ok (.aload_n 0, 1) := by decide +kernel
theorem dX10_close_106 : decode cX10_close 106 = .ok (.getfield 123, 3) := by decide +kernel
theorem dX10_close_109 : decode cX10_close 109 = .ok (.aload_n 0, 1) := by decide +kernel
theorem dX10_close_110 : decode cX10_close 110 = .ok (.getfield 188, 3) := by decide +kernel
theorem dX10_close_113 : decode cX10_close 113 = .ok (.iconst 1, 1) := by decide +kernel
theorem dX10_close_114 : decode cX10_close 114 = .ok (.isub, 1) := by decide +kernel
theorem dX10_close_115 : decode cX10_close 115 = .ok (.iaload, 1) := by decide +kernel
theorem dX10_close_116 : decode cX10_close 116 = .ok (.aload_n 0, 1) := by decide +kernel
theorem dX10_close_117 : decode cX10_close 117 = .ok (.getfield 92, 3) := by decide +kernel
theorem dX10_close_120 : decode cX10_close 120 = .ok (.iload_n 2, 1) := by decide +kernel
theorem dX10_close_121 : decode cX10_close 121 = .ok (.iaload, 1) := by decide +kernel
theorem dX10_close_122 : decode cX10_close 122 = .ok (.if_icmp .ne 29, 3) := by decide +kernel
theorem dX10_close_125 : decode cX10_close 125 = .ok (.aload_n 0, 1) := by decide +kernel
theorem dX10_close_126 : decode cX10_close 126 = .ok (.dup, 1) := by decide +kernel
theorem dX10_close_127 : decode cX10_close 127 = .ok (.getfield 194, 3) := by decide +kernel
theorem dX10_close_130 : decode cX10_close 130 = .ok (.aload_n 0, 1) := by decide +kernel
theorem dX10_close_131 : decode cX10_close 131 = .ok (.getfield 98, 3) := by decide +kernel
theorem dX10_close_134 : decode cX10_close 134 = .ok (.iload_n 2, 1) := by decide +kernel
theorem dX10_close_135 : decode cX10_close 135 = .ok (.iaload, 1) := by decide +kernel
theorem dX10_close_136 : decode cX10_close 136 = .ok (.iadd, 1) := by decide +kernel
theorem dX10_close_137 : decode cX10_close 137 = .ok (.putfield 194, 3) := by decide +kernel
theorem dX10_close_140 : decode cX10_close 140 = .ok (.aload_n 0, 1) := by decide +kernel
theorem dX10_close_141 : decode cX10_close 141 = .ok (.dup, 1) := by decide +kernel
theorem dX10_close_142 : decode cX10_close 142 = .ok (.getfield 188, 3) := by decide +kernel
theorem dX10_close_145 : decode cX10_close 145 = .ok (.iconst 1, 1) := by decide +kernel
theorem dX10_close_146 : decode cX10_close 146 = .ok (.isub, 1) := by decide +kernel
theorem dX10_close_147 : decode cX10_close 147 = .ok (.putfield 188, 3) := by decide +kernel
theorem dX10_close_150 : decode cX10_close 150 = .ok (.return_, 1) := by decide +kernel
theorem dX10_close_151 : decode cX10_close 151 = .ok (.iconst 0, 1) := by decide +kernel
theorem dX10_close_152 : decode cX10_close 152 = .ok (.istore 4, 2) := by decide +kernel
theorem dX10_close_154 : decode cX10_close 154 = .ok (.iload 4, 2) := by decide +kernel
theorem dX10_close_156 : decode cX10_close 156 = .ok (.iconst 4, 1) := by decide +kernel
theorem dX10_close_157 : decode cX10_close 157 = .ok (.if_icmp .ge 76, 3) := by decide +kernel
theorem dX10_close_160 : decode cX10_close 160 = .ok (.aload_n 0, 1) := by decide +kernel
theorem dX10_close_161 : decode cX10_close 161 = .ok (.getfield 188, 3) := by decide +kernel
theorem dX10_close_164 : decode cX10_close 164 = .ok (.iconst 3, 1) := by decide +kernel
theorem dX10_close_165 : decode cX10_close 165 = .ok (.if_icmp .ge 68, 3) := by decide +kernel
theorem dX10_close_168 : decode cX10_close 168 = .ok (.aload_n 0, 1) := by decide +kernel
theorem dX10_close_169 : decode cX10_close 169 = .ok (.getfield 86, 3) := by decide +kernel
theorem dX10_close_172 : decode cX10_close 172 = .ok (.iconst 4, 1) := by decide +kernel
theorem dX10_close_173 : decode cX10_close 173 = .ok (.aload_n 0, 1) := by decide +kernel
theorem dX10_close_174 : decode cX10_close 174 = .ok (.getfield 191, 3) := by decide +kernel
theorem dX10_close_177 : decode cX10_close 177 = .ok (.imul, 1) := by decide +kernel
theorem dX10_close_178 : decode cX10_close 178 = .ok (.iload 4, 2) := by decide +kernel
theorem dX10_close_180 : decode cX10_close 180 = .ok (.iadd, 1) := by decide +kernel
theorem dX10_close_181 : decode cX10_close 181 = .ok (.iaload, 1) := by decide +kernel
theorem dX10_close_182 : decode cX10_close 182 = .ok (.iload_n 1, 1) := by decide +kernel
theorem dX10_close_183 : decode cX10_close 183 = .ok (.if_icmp .ne 44, 3) := by decide +kernel
theorem dX10_close_186 : decode cX10_close 186 = .ok (.aload_n 0, 1) := by decide +kernel
theorem dX10_close_187 : decode cX10_close 187 = .ok (.iload 4, 2) := by decide +kernel
theorem dX10_close_189 : decode cX10_close 189 = .ok (.invokevirtual 197, 3) := by decide +kernel
theorem dX10_close_192 : decode cX10_close 192 = .ok (.ifCond .ne 35, 3) := by decide +kernel
theorem dX10_close_195 : decode cX10_close 195 = .ok (.aload_n 0, 1) := by decide +kernel
theorem dX10_close_196 : decode cX10_close 196 = .ok (.getfield 120, 3) := by decide +kernel
theorem dX10_close_199 : decode cX10_close 199 = .ok (.aload_n 0, 1) := by decide +kernel
theorem dX10_close_200 : decode cX10_close 200 = .ok (.getfield 188, 3) := by decide +kernel
theorem dX10_close_203 : decode cX10_close 203 = .ok (.iload 4, 2) := by decide +kernel
theorem dX10_close_205 : decode cX10_close 205 = .ok (.iastore, 1) := by decide +kernel
theorem dX10_close_206 : decode cX10_close 206 = .ok (.aload_n 0, 1) := by decide +kernel
theorem dX10_close_207 : decode cX10_close 207 = .ok (.getfield 123, 3) := by decide +kernel
theorem dX10_close_210 : decode cX10_close 210 = .ok (.aload_n 0, 1) := by decide +kernel
theorem dX10_close_211 : decode cX10_close 211 = .ok (.getfield 188, 3) := by decide +kernel
theorem dX10_close_214 : decode cX10_close 214 = .ok (.iconst 0, 1) := by decide +kernel
theorem dX10_close_215 : decode cX10_close 215 = .ok (.iastore, 1) := by decide +kernel
theorem dX10_close_216 : decode cX10_close 216 = .ok (.aload_n 0, 1) := by decide +kernel
theorem dX10_close_217 : decode cX10_close 217 = .ok (.dup, 1) := by decide +kernel
theorem dX10_close_218 : decode cX10_close 218 = .ok (.getfield 188, 3) := by decide +kernel
theorem dX10_close_221 : decode cX10_close 221 = .ok (.iconst 1, 1) := by decide +kernel
theorem dX10_close_222 : decode cX10_close 222 = .ok (.iadd, 1) := by decide +kernel
theorem dX10_close_223 : decode cX10_close 223 = .ok (.putfield 188, 3) := by decide +kernel
theorem dX10_close_226 : decode cX10_close 226 = .ok (.return_, 1) := by decide +kernel
theorem dX10_close_227 : decode cX10_close 227 = .ok (.iinc 4 1, 3) := by decide +kernel
theorem dX10_close_230 : decode cX10_close 230 = .ok (.goto (-76), 3) := by decide +kernel
theorem dX10_close_233 : decode cX10_close 233 = .ok (.return_, 1) := by decide +kernel
set_option maxRecDepth 20000 in
theorem ggX10_bumperAt_X10_in : GoodIn wsX10_bumperAt wsX10_in := goodIn_r _ [9] (by decide +kernel) (by decide +kernel)
set_option maxRecDepth 20000 in
theorem gX10_bumperAt_X10_in : GoodIn wsX10_bumperAt (va_wsS RX10 157 yX10_in wsX10_in) := goodIn_app (goodIn_of _ (by decide +kernel)) ggX10_bumperAt_X10_in
theorem dX10_bumperAt_0 : decode cX10_bumperAt 0 = .ok (.iconst (-1), 1) := by decide +kernel
theorem dX10_bumperAt_1 : decode cX10_bumperAt 1 = .ok (.istore 4, 2) := by decide +kernel
theorem dX10_bumperAt_3 : decode cX10_bumperAt 3 = .ok (.aload_n 0, 1) := by decide +kernel
theorem dX10_bumperAt_4 : decode cX10_bumperAt 4 = .ok (.getfield 28, 3) := by decide +kernel
theorem dX10_bumperAt_7 : decode cX10_bumperAt 7 = .ok (.iload_n 1, 1) := by decide +kernel
theorem dX10_bumperAt_8 : decode cX10_bumperAt 8 = .ok (.iaload, 1) := by decide +kernel
theorem dX10_bumperAt_9 : decode cX10_bumperAt 9 = .ok (.iconst 1, 1) := by decide +kernel
theorem dX10_bumperAt_10 : decode cX10_bumperAt 10 = .ok (.isub, 1) := by decide +kernel
theorem dX10_bumperAt_11 : decode cX10_bumperAt 11 = .ok (.istore 5, 2) := by decide +kernel
theorem dX10_bumperAt_13 : decode cX10_bumperAt 13 = .ok (.iload 5, 2) := by decide +kernel
theorem dX10_bumperAt_15 : decode cX10_bumperAt 15 = .ok (.ifCond .lt 89, 3) := by decide +kernel
theorem dX10_bumperAt_18 : decode cX10_bumperAt 18 = .ok (.bipush 8, 2) := by decide +kernel
theorem dX10_bumperAt_20 : decode cX10_bumperAt 20 = .ok (.iload_n 1, 1) := by decide +kernel
theorem dX10_bumperAt_21 : decode cX10_bumperAt 21 = .ok (.imul, 1) := by decide +kernel
theorem dX10_bumperAt_22 : decode cX10_bumperAt 22 = .ok (.iload 5, 2) := by decide +kernel
theorem dX10_bumperAt_24 : decode cX10_bumperAt 24 = .ok (.iadd, 1) := by decide +kernel
theorem dX10_bumperAt_25 : decode cX10_bumperAt 25 = .ok (.istore 6, 2) := by decide +kernel
theorem dX10_bumperAt_27 : decode cX10_bumperAt 27 = .ok (.iload_n 2, 1) := by decide +kernel
theorem dX10_bumperAt_28 : decode cX10_bumperAt 28 = .ok (.aload_n 0, 1) := by decide +kernel
theorem dX10_bumperAt_29 : decode cX10_bumperAt 29 = .ok (.getfield 31, 3) := by decide +kernel
theorem dX10_bumperAt_32 : decode cX10_bumperAt 32 = .ok (.iload 6, 2) := by decide +kernel
theorem dX10_bumperAt_34 : decode cX10_bumperAt 34 = .ok (.iaload, 1) := by decide +kernel
theorem dX10_bumperAt_35 : decode cX10_bumperAt 35 = .ok (.aload_n 0, 1) := by decide +kernel
theorem dX10_bumperAt_36 : decode cX10_bumperAt 36 = .ok (.getfield 31, 3) := by decide +kernel
theorem dX10_bumperAt_39 : decode cX10_bumperAt 39 = .ok (.iload 6, 2) := by decide +kernel
theorem dX10_bumperAt_41 : decode cX10_bumperAt 41 = .ok (.iaload, 1) := by decide +kernel
theorem dX10_bumperAt_42 : decode cX10_bumperAt 42 = .ok (.aload_n 0, 1) := by decide +kernel
theorem dX10_bumperAt_43 : decode cX10_bumperAt 43 = .ok (.getfield 37, 3) := by decide +kernel
theorem dX10_bumperAt_46 : decode cX10_bumperAt 46 = .ok (.iload 6, 2) := by decide +kernel
theorem dX10_bumperAt_48 : decode cX10_bumperAt 48 = .ok (.iaload, 1) := by decide +kernel
theorem dX10_bumperAt_49 : decode cX10_bumperAt 49 = .ok (.iadd, 1) := by decide +kernel
theorem dX10_bumperAt_50 : decode cX10_bumperAt 50 = .ok (.iconst 1, 1) := by decide +kernel
theorem dX10_bumperAt_51 : decode cX10_bumperAt 51 = .ok (.isub, 1) := by decide +kernel
theorem dX10_bumperAt_52 : decode cX10_bumperAt 52 = .ok (.invokestatic 157, 3) := by decide +kernel
theorem dX10_bumperAt_55 : decode cX10_bumperAt 55 = .ok (.ifCond .eq 39, 3) := by decide +kernel
theorem dX10_bumperAt_58 : decode cX10_bumperAt 58 = .ok (.iload_n 3, 1) := by decide +kernel
theorem dX10_bumperAt_59 : decode cX10_bumperAt 59 = .ok (.aload_n 0, 1) := by decide +kernel
theorem dX10_bumperAt_60 : decode cX10_bumperAt 60 = .ok (.getfield 34, 3) := by decide +kernel
theorem dX10_bumperAt_63 : decode cX10_bumperAt 63 = .ok (.iload 6, 2) := by decide +kernel
theorem dX10_bumperAt_65 : decode cX10_bumperAt 65 = .ok (.iaload, 1) := by decide +kernel
theorem dX10_bumperAt_66 : decode cX10_bumperAt 66 = .ok (.aload_n 0, 1) := by decide +kernel
theorem dX10_bumperAt_67 : decode cX10_bumperAt 67 = .ok (.getfield 34, 3) := by decide +kernel
theorem dX10_bumperAt_70 : decode cX10_bumperAt 70 = .ok (.iload 6, 2) := by decide +kernel
theorem dX10_bumperAt_72 : decode cX10_bumperAt 72 = .ok (.iaload, 1) := by decide +kernel
theorem dX10_bumperAt_73 : decode cX10_bumperAt 73 = .ok (.aload_n 0, 1) := by decide +kernel
theorem dX10_bumperAt_74 : decode cX10_bumperAt 74 = .ok (.getfield 40, 3) := by decide +kernel
theorem dX10_bumperAt_77 : decode cX10_bumperAt 77 = .ok (.iload 6, 2) := by decide +kernel
theorem dX10_bumperAt_79 : decode cX10_bumperAt 79 = .ok (.iaload, 1) := by decide +kernel
theorem dX10_bumperAt_80 : decode cX10_bumperAt 80 = .ok (.iadd, 1) := by decide +kernel
theorem dX10_bumperAt_81 : decode cX10_bumperAt 81 = .ok (.iconst 1, 1) := by decide +kernel
theorem dX10_bumperAt_82 : decode cX10_bumperAt 82 = .ok (.isub, 1) := by decide +kernel
theorem dX10_bumperAt_83 : decode cX10_bumperAt 83 = .ok (.invokestatic 157, 3) := by decide +kernel
theorem dX10_bumperAt_86 : decode cX10_bumperAt 86 = .ok (.ifCond .eq 8, 3) := by decide +kernel
theorem dX10_bumperAt_89 : decode cX10_bumperAt 89 = .ok (.iload 5, 2) := by decide +kernel
theorem dX10_bumperAt_91 : decode cX10_bumperAt 91 = .ok (.goto 5, 3) := by decide +kernel
theorem dX10_bumperAt_94 : decode cX10_bumperAt 94 = .ok (.iload 4, 2) := by decide +kernel
theorem dX10_bumperAt_96 : decode cX10_bumperAt 96 = .ok (.istore 4, 2) := by decide +kernel
theorem dX10_bumperAt_98 : decode cX10_bumperAt 98 = .ok (.iinc 5 (-1), 3) := by decide +kernel
theorem dX10_bumperAt_101 : decode cX10_bumperAt 101 = .ok (.goto (-88), 3) := by decide +kernel
theorem dX10_bumperAt_104 : decode cX10_bumperAt 104 = .ok (.iload 4, 2) := by decide +kernel
theorem dX10_bumperAt_106 : decode cX10_bumperAt 106 = .ok (.ireturn, 1) := by decide +kernel
theorem dX10_kicked_0 : decode cX10_kicked 0 = .ok (.bipush 8, 2) := by decide +kernel
theorem dX10_kicked_2 : decode cX10_kicked 2 = .ok (.iload_n 1, 1) := by decide +kernel
theorem dX10_kicked_3 : decode cX10_kicked 3 = .ok (.imul, 1) := by decide +kernel
theorem dX10_kicked_4 : decode cX10_kicked 4 = .ok (.iload_n 2, 1) := by decide +kernel
theorem dX10_kicked_5 : decode cX10_kicked 5 = .ok (.iadd, 1) := by decide +kernel
theorem dX10_kicked_6 : decode cX10_kicked 6 = .ok (.istore 4, 2) := by decide +kernel
theorem dX10_kicked_8 : decode cX10_kicked 8 = .ok (.iload_n 3, 1) := by decide +kernel
theorem dX10_kicked_9 : decode cX10_kicked 9 = .ok (.ineg, 1) := by decide +kernel
theorem dX10_kicked_10 : decode cX10_kicked 10 = .ok (.istore 5, 2) := by decide +kernel
theorem dX10_kicked_12 : decode cX10_kicked 12 = .ok (.iload 5, 2) := by decide +kernel
theorem dX10_kicked_14 : decode cX10_kicked 14 = .ok (.ifCond .eq 15, 3) := by decide +kernel
theorem dX10_kicked_17 : decode cX10_kicked 17 = .ok (.aload_n 0, 1) := by decide +kernel
theorem dX10_kicked_18 : decode cX10_kicked 18 = .ok (.getfield 49, 3) := by decide +kernel
theorem dX10_kicked_21 : decode cX10_kicked 21 = .ok (.iload 4, 2) := by decide +kernel
theorem dX10_kicked_23 : decode cX10_kicked 23 = .ok (.iaload, 1) := by decide +kernel
theorem dX10_kicked_24 : decode cX10_kicked 24 = .ok (.bipush 40, 2) := by decide +kernel
theorem dX10_kicked_26 : decode cX10_kicked 26 = .ok (.if_icmp .lt 6, 3) := by decide +kernel
theorem dX10_kicked_29 : decode cX10_kicked 29 = .ok (.iload 5, 2) := by decide +kernel
theorem dX10_kicked_31 : decode cX10_kicked 31 = .ok (.ireturn, 1) := by decide +kernel
theorem dX10_kicked_32 : decode cX10_kicked 32 = .ok (.iload 5, 2) := by decide +kernel
theorem dX10_kicked_34 : decode cX10_kicked 34 = .ok (.ifCond .ge 9, 3) := by decide +kernel
theorem dX10_kicked_37 : decode cX10_kicked 37 = .ok (.iload 5, 2) := by decide +kernel
theorem dX10_kicked_39 : decode cX10_kicked 39 = .ok (.ineg, 1) := by decide +kernel
theorem dX10_kicked_40 : decode cX10_kicked 40 = .ok (.goto 5, 3) := by decide +kernel
theorem dX10_kicked_43 : decode cX10_kicked 43 = .ok (.iload 5, 2) := by decide +kernel
theorem dX10_kicked_45 : decode cX10_kicked 45 = .ok (.aload_n 0, 1) := by decide +kernel
theorem dX10_kicked_46 : decode cX10_kicked 46 = .ok (.getfield 43, 3) := by decide +kernel
theorem dX10_kicked_49 : decode cX10_kicked 49 = .ok (.iload 4, 2) := by decide +kernel
theorem dX10_kicked_51 : decode cX10_kicked 51 = .ok (.iaload, 1) := by decide +kernel
theorem dX10_kicked_52 : decode cX10_kicked 52 = .ok (.iadd, 1) := by decide +kernel
theorem dX10_kicked_53 : decode cX10_kicked 53 = .ok (.istore 6, 2) := by decide +kernel
theorem dX10_kicked_55 : decode cX10_kicked 55 = .ok (.iload 6, 2) := by decide +kernel
theorem dX10_kicked_57 : decode cX10_kicked 57 = .ok (.bipush 30, 2) := by decide +kernel
theorem dX10_kicked_59 : decode cX10_kicked 59 = .ok (.if_icmp .le 8, 3) := by decide +kernel
theorem dX10_kicked_62 : decode cX10_kicked 62 = .ok (.bipush 30, 2) := by decide +kernel
theorem dX10_kicked_64 : decode cX10_kicked 64 = .ok (.goto 5, 3) := by decide +kernel
theorem dX10_kicked_67 : decode cX10_kicked 67 = .ok (.iload 6, 2) := by decide +kernel
theorem dX10_kicked_69 : decode cX10_kicked 69 = .ok (.istore 6, 2) := by decide +kernel
theorem dX10_kicked_71 : decode cX10_kicked 71 = .ok (.iload 5, 2) := by decide +kernel
theorem dX10_kicked_73 : decode cX10_kicked 73 = .ok (.ifCond .ge 9, 3) := by decide +kernel
theorem dX10_kicked_76 : decode cX10_kicked 76 = .ok (.iload 6, 2) := by decide +kernel
theorem dX10_kicked_78 : decode cX10_kicked 78 = .ok (.ineg, 1) := by decide +kernel
theorem dX10_kicked_79 : decode cX10_kicked 79 = .ok (.goto 5, 3) := by decide +kernel
theorem dX10_kicked_82 : decode cX10_kicked 82 = .ok (.iload 6, 2) := by decide +kernel
theorem dX10_kicked_84 : decode cX10_kicked 84 = .ok (.ireturn, 1) := by decide +kernel
set_option maxRecDepth 20000 in
theorem ggX10_strike_X10_close : GoodIn wsX10_strike wsX10_close := goodIn_r _ [7, 8, 9, 10, 11, 12, 13, 14, 15, 16, 17, 18, 19, 20, 21, 6, 22, 23, 24, 25, 26, 27, 28, 29, 30, 31, 32, 33, 34, 35, 36, 37, 38, 39, 40, 41, 42, 43, 44, 45, 46, 47, 48, 49, 50, 51, 52, 53, 54, 55, 56, 57, 58, 59, 60, 61, 62, 63, 64, 65, 66, 67, 68, 69, 70, 71, 72, 73, 74, 75, 76, 77] (by decide +kernel) (by decide +kernel)
set_option maxRecDepth 20000 in
theorem gX10_strike_X10_close : GoodIn wsX10_strike (wsV RX10 200 RX10 yX10_close wsX10_close) := goodIn_app (goodIn_of _ (by decide +kernel)) ggX10_strike_X10_close
theorem dX10_strike_0 : decode cX10_strike 0 = .ok (.iload_n 2, 1) := by decide +kernel
theorem dX10_strike_1 : decode cX10_strike 1 = .ok (.iconst (-1), 1) := by decide +kernel
theorem dX10_strike_2 : decode cX10_strike 2 = .ok (.if_icmp .ne 5, 3) := by decide +kernel
theorem dX10_strike_5 : decode cX10_strike 5 = .ok (.iconst 0, 1) := by decide +kernel
theorem dX10_strike_6 : decode cX10_strike 6 = .ok (.ireturn, 1) := by decide +kernel
theorem dX10_strike_7 : decode cX10_strike 7 = .ok (.aload_n 0, 1) := by decide +kernel
theorem dX10_strike_8 : decode cX10_strike 8 = .ok (.getfield 49, 3) := by decide +kernel
theorem dX10_strike_11 : decode cX10_strike 11 = .ok (.bipush 8, 2) := by decide +kernel
theorem dX10_strike_13 : decode cX10_strike 13 = .ok (.iload_n 1, 1) := by decide +kernel
theorem dX10_strike_14 : decode cX10_strike 14 = .ok (.imul, 1) := by decide +kernel
theorem dX10_strike_15 : decode cX10_strike 15 = .ok (.iload_n 2, 1) := by decide +kernel
theorem dX10_strike_16 : decode cX10_strike 16 = .ok (.iadd, 1) := by decide +kernel
theorem dX10_strike_17 : decode cX10_strike 17 = .ok (.dup2, 1) := by decide +kernel
theorem dX10_strike_18 : decode cX10_strike 18 = .ok (.iaload, 1) := by decide +kernel
theorem dX10_strike_19 : decode cX10_strike 19 = .ok (.iconst 1, 1) := by decide +kernel
theorem dX10_strike_20 : decode cX10_strike 20 = .ok (.iadd, 1) := by decide +kernel
theorem dX10_strike_21 : decode cX10_strike 21 = .ok (.iastore, 1) := by decide +kernel
theorem dX10_strike_22 : decode cX10_strike 22 = .ok (.aload_n 0, 1) := by decide +kernel
theorem dX10_strike_23 : decode cX10_strike 23 = .ok (.getfield 52, 3) := by decide +kernel
theorem dX10_strike_26 : decode cX10_strike 26 = .ok (.bipush 8, 2) := by decide +kernel
theorem dX10_strike_28 : decode cX10_strike 28 = .ok (.iload_n 1, 1) := by decide +kernel
theorem dX10_strike_29 : decode cX10_strike 29 = .ok (.imul, 1) := by decide +kernel
theorem dX10_strike_30 : decode cX10_strike 30 = .ok (.iload_n 2, 1) := by decide +kernel
theorem dX10_strike_31 : decode cX10_strike 31 = .ok (.iadd, 1) := by decide +kernel
theorem dX10_strike_32 : decode cX10_strike 32 = .ok (.iaload, 1) := by decide +kernel
theorem dX10_strike_33 : decode cX10_strike 33 = .ok (.iconst (-1), 1) := by decide +kernel
theorem dX10_strike_34 : decode cX10_strike 34 = .ok (.if_icmp .eq 5, 3) := by decide +kernel
theorem dX10_strike_37 : decode cX10_strike 37 = .ok (.iconst 0, 1) := by decide +kernel
theorem dX10_strike_38 : decode cX10_strike 38 = .ok (.ireturn, 1) := by decide +kernel
theorem dX10_strike_39 : decode cX10_strike 39 = .ok (.aload_n 0, 1) := by decide +kernel
theorem dX10_strike_40 : decode cX10_strike 40 = .ok (.iload_n 2, 1) := by decide +kernel
theorem dX10_strike_41 : decode cX10_strike 41 = .ok (.invokevirtual 200, 3) := by decide +kernel
theorem dX10_strike_44 : decode cX10_strike 44 = .ok (.iload_n 2, 1) := by decide +kernel
theorem dX10_strike_45 : decode cX10_strike 45 = .ok (.iconst 1, 1) := by decide +kernel
theorem dX10_strike_46 : decode cX10_strike 46 = .ok (.iadd, 1) := by decide +kernel
theorem dX10_strike_47 : decode cX10_strike 47 = .ok (.ireturn, 1) := by decide +kernel
set_option maxRecDepth 20000 in
theorem ggX10_shoot_X10_in : GoodIn wsX10_shoot wsX10_in := goodIn_r _ [9] (by decide +kernel) (by decide +kernel)
set_option maxRecDepth 20000 in
theorem gX10_shoot_X10_in : GoodIn wsX10_shoot (va_wsS RX10 157 yX10_in wsX10_in) := goodIn_app (goodIn_of _ (by decide +kernel)) ggX10_shoot_X10_in
set_option maxRecDepth 20000 in
theorem ggX10_shoot_X10_isTable : GoodIn wsX10_shoot wsX10_isTable := goodIn_r _ [13, 14, 6, 7, 8, 9, 79, 80, 81, 82, 83, 84, 85, 86, 87, 88, 89, 90, 91, 92, 93, 94, 95, 96, 97, 98, 99, 100, 101, 102, 103, 104, 105, 106, 107, 108, 109, 110, 111, 112, 113, 114, 115, 116, 117, 118, 119, 120, 121, 122, 123, 124, 125, 126, 127, 128, 129, 130, 131, 132, 133] (by decide +kernel) (by decide +kernel)
set_option maxRecDepth 20000 in
theorem gX10_shoot_X10_isTable : GoodIn wsX10_shoot (wsV RX10 161 RX10 yX10_isTable wsX10_isTable) := goodIn_app (goodIn_of _ (by decide +kernel)) ggX10_shoot_X10_isTable
set_option maxRecDepth 20000 in
theorem ggX10_shoot_X10_isFree : GoodIn wsX10_shoot wsX10_isFree := goodIn_r _ [18, 1, 79, 80, 81, 82, 83, 84, 85, 86, 87, 88, 89, 90, 91, 92, 93, 94, 95, 96, 97, 98, 99, 100, 101, 102, 103, 104, 105, 106, 107, 108, 109, 110, 111, 112, 113, 114, 115, 116, 117, 118, 119, 120, 121, 122, 123, 124, 125, 126, 127, 128, 129, 130, 131, 132, 133] (by decide +kernel) (by decide +kernel)
set_option maxRecDepth 20000 in
theorem gX10_shoot_X10_isFree : GoodIn wsX10_shoot (wsV RX10 171 RX10 yX10_isFree wsX10_isFree) := goodIn_app (goodIn_of _ (by decide +kernel)) ggX10_shoot_X10_isFree
set_option maxRecDepth 20000 in
theorem ggX10_shoot_X10_refused : GoodIn wsX10_shoot wsX10_refused := goodIn_r _ [22, 23, 79, 80, 81, 82, 83, 84, 85, 86, 87, 88, 89, 90, 91, 92, 93, 94, 95, 96, 97, 98, 99, 100, 101, 102, 103, 104, 105, 106, 107, 108, 109, 110, 111, 112, 113, 114, 115, 116, 117, 118, 119, 120, 121, 122, 123, 124, 125, 126, 127, 128, 129, 130, 131, 132, 133] (by decide +kernel) (by decide +kernel)
set_option maxRecDepth 20000 in
theorem gX10_shoot_X10_refused : GoodIn wsX10_shoot (wsV RX10 168 RX10 yX10_refused wsX10_refused) := goodIn_app (goodIn_of _ (by decide +kernel)) ggX10_shoot_X10_refused
set_option maxRecDepth 20000 in
theorem ggX10_shoot_X10_load : GoodIn wsX10_shoot wsX10_load := goodIn_r _ [27, 28, 29, 5, 30, 31, 32, 33, 34, 35, 79, 80, 81, 82, 83, 84, 85, 86, 87, 88, 89, 90, 91, 92, 93, 94, 95, 96, 97, 98, 99, 100, 101, 102, 103, 104, 105, 106, 107, 108, 109, 110, 111, 112, 113, 114, 115, 116, 117, 118, 119, 120, 121, 122, 123, 124, 125, 126, 127, 128, 129, 130, 131, 132, 133] (by decide +kernel) (by decide +kernel)
set_option maxRecDepth 20000 in
theorem gX10_shoot_X10_load : GoodIn wsX10_shoot (wsV RX10 204 RX10 yX10_load wsX10_load) := goodIn_app (goodIn_of _ (by decide +kernel)) ggX10_shoot_X10_load
set_option maxRecDepth 20000 in
theorem ggX10_shoot_X10_roll : GoodIn wsX10_shoot wsX10_roll := goodIn_r _ [39, 40, 3, 41, 42, 43, 44, 8, 45, 46, 47, 48, 49, 50, 6, 7, 9, 51, 52, 53, 54, 55, 56, 57, 58, 59, 60, 4, 61, 62, 63, 64, 31, 28, 32, 65, 5, 66, 34, 67, 68, 69, 70, 71, 72, 73, 74, 79, 80, 81, 82, 83, 84, 85, 86, 87, 88, 89, 90, 91, 92, 93, 94, 95, 96, 97, 98, 99, 100, 101, 102, 103, 104, 105, 106, 107, 108, 109, 110, 111, 112, 113, 114, 115, 116, 117, 118, 119, 120, 121, 122, 123, 124, 125, 126, 127, 128, 129, 130, 131, 132, 133] (by decide +kernel) (by decide +kernel)
set_option maxRecDepth 20000 in
theorem gX10_shoot_X10_roll : GoodIn wsX10_shoot (wsV RX10 207 RX10 yX10_roll wsX10_roll) := goodIn_app (goodIn_of _ (by decide +kernel)) ggX10_shoot_X10_roll
set_option maxRecDepth 20000 in
theorem ggX10_shoot_X10_keep : GoodIn wsX10_shoot wsX10_keep := goodIn_r _ [78, 29, 5, 30, 31, 33, 32, 35, 34, 79, 80, 81, 82, 83, 84, 85, 86, 87, 88, 89, 90, 91, 92, 93, 94, 95, 96, 97, 98, 99, 100, 101, 102, 103, 104, 105, 106, 107, 108, 109, 110, 111, 112, 113, 114, 115, 116, 117, 118, 119, 120, 121, 122, 123, 124, 125, 126, 127, 128, 129, 130, 131, 132, 133] (by decide +kernel) (by decide +kernel)
set_option maxRecDepth 20000 in
theorem gX10_shoot_X10_keep : GoodIn wsX10_shoot (wsV RX10 211 RX10 yX10_keep wsX10_keep) := goodIn_app (goodIn_of _ (by decide +kernel)) ggX10_shoot_X10_keep
theorem dX10_shoot_0 : decode cX10_shoot 0 = .ok (.iload_n 2, 1) := by decide +kernel
theorem dX10_shoot_1 : decode cX10_shoot 1 = .ok (.iconst 0, 1) := by decide +kernel
theorem dX10_shoot_2 : decode cX10_shoot 2 = .ok (.sipush 159, 3) := by decide +kernel
theorem dX10_shoot_5 : decode cX10_shoot 5 = .ok (.invokestatic 157, 3) := by decide +kernel
theorem dX10_shoot_8 : decode cX10_shoot 8 = .ok (.ifCond .eq 30, 3) := by decide +kernel
theorem dX10_shoot_11 : decode cX10_shoot 11 = .ok (.iload_n 3, 1) := by decide +kernel
theorem dX10_shoot_12 : decode cX10_shoot 12 = .ok (.bipush (-30), 2) := by decide +kernel
theorem dX10_shoot_14 : decode cX10_shoot 14 = .ok (.bipush 30, 2) := by decide +kernel
theorem dX10_shoot_16 : decode cX10_shoot 16 = .ok (.invokestatic 157, 3) := by decide +kernel
theorem dX10_shoot_19 : decode cX10_shoot 19 = .ok (.ifCond .eq 19, 3) := by decide +kernel
theorem dX10_shoot_22 : decode cX10_shoot 22 = .ok (.iload 4, 2) := by decide +kernel
theorem dX10_shoot_24 : decode cX10_shoot 24 = .ok (.bipush (-30), 2) := by decide +kernel
theorem dX10_shoot_26 : decode cX10_shoot 26 = .ok (.bipush 30, 2) := by decide +kernel
theorem dX10_shoot_28 : decode cX10_shoot 28 = .ok (.invokestatic 157, 3) := by decide +kernel
theorem dX10_shoot_31 : decode cX10_shoot 31 = .ok (.ifCond .eq 7, 3) := by decide +kernel
theorem dX10_shoot_34 : decode cX10_shoot 34 = .ok (.iconst 1, 1) := by decide +kernel
theorem dX10_shoot_35 : decode cX10_shoot 35 = .ok (.goto 4, 3) := by decide +kernel
theorem dX10_shoot_38 : decode cX10_shoot 38 = .ok (.iconst 0, 1) := by decide +kernel
theorem dX10_shoot_39 : decode cX10_shoot 39 = .ok (.istore 5, 2) := by decide +kernel
theorem dX10_shoot_41 : decode cX10_shoot 41 = .ok (.aload_n 0, 1) := by decide +kernel
theorem dX10_shoot_42 : decode cX10_shoot 42 = .ok (.aload_n 0, 1) := by decide +kernel
theorem dX10_shoot_43 : decode cX10_shoot 43 = .ok (.iload_n 1, 1) := by decide +kernel
theorem dX10_shoot_44 : decode cX10_shoot 44 = .ok (.invokevirtual 161, 3) := by decide +kernel
theorem dX10_shoot_47 : decode cX10_shoot 47 = .ok (.ifCond .ne 7, 3) := by decide +kernel
theorem dX10_shoot_50 : decode cX10_shoot 50 = .ok (.iconst 1, 1) := by decide +kernel
theorem dX10_shoot_51 : decode cX10_shoot 51 = .ok (.goto 25, 3) := by decide +kernel
theorem dX10_shoot_54 : decode cX10_shoot 54 = .ok (.iload 5, 2) := by decide +kernel
theorem dX10_shoot_56 : decode cX10_shoot 56 = .ok (.ifCond .ne 7, 3) := by decide +kernel
theorem dX10_shoot_59 : decode cX10_shoot 59 = .ok (.iconst 2, 1) := by decide +kernel
theorem dX10_shoot_60 : decode cX10_shoot 60 = .ok (.goto 16, 3) := by decide +kernel
theorem dX10_shoot_63 : decode cX10_shoot 63 = .ok (.aload_n 0, 1) := by decide +kernel
theorem dX10_shoot_64 : decode cX10_shoot 64 = .ok (.iload_n 1, 1) := by decide +kernel
theorem dX10_shoot_65 : decode cX10_shoot 65 = .ok (.invokevirtual 171, 3) := by decide +kernel
theorem dX10_shoot_68 : decode cX10_shoot 68 = .ok (.ifCond .eq 7, 3) := by decide +kernel
theorem dX10_shoot_71 : decode cX10_shoot 71 = .ok (.iconst 3, 1) := by decide +kernel
theorem dX10_shoot_72 : decode cX10_shoot 72 = .ok (.goto 4, 3) := by decide +kernel
theorem dX10_shoot_75 : decode cX10_shoot 75 = .ok (.iconst 0, 1) := by decide +kernel
theorem dX10_shoot_76 : decode cX10_shoot 76 = .ok (.invokevirtual 168, 3) := by decide +kernel
theorem dX10_shoot_79 : decode cX10_shoot 79 = .ok (.ifCond .eq 5, 3) := by decide +kernel
theorem dX10_shoot_82 : decode cX10_shoot 82 = .ok (.iconst 0, 1) := by decide +kernel
theorem dX10_shoot_83 : decode cX10_shoot 83 = .ok (.ireturn, 1) := by decide +kernel
theorem dX10_shoot_84 : decode cX10_shoot 84 = .ok (.aload_n 0, 1) := by decide +kernel
theorem dX10_shoot_85 : decode cX10_shoot 85 = .ok (.getfield 25, 3) := by decide +kernel
theorem dX10_shoot_88 : decode cX10_shoot 88 = .ok (.iload_n 1, 1) := by decide +kernel
theorem dX10_shoot_89 : decode cX10_shoot 89 = .ok (.iaload, 1) := by decide +kernel
theorem dX10_shoot_90 : decode cX10_shoot 90 = .ok (.istore 6, 2) := by decide +kernel
theorem dX10_shoot_92 : decode cX10_shoot 92 = .ok (.iconst 3, 1) := by decide +kernel
theorem dX10_shoot_93 : decode cX10_shoot 93 = .ok (.iload 6, 2) := by decide +kernel
theorem dX10_shoot_95 : decode cX10_shoot 95 = .ok (.imul, 1) := by decide +kernel
theorem dX10_shoot_96 : decode cX10_shoot 96 = .ok (.iconst 3, 1) := by decide +kernel
theorem dX10_shoot_97 : decode cX10_shoot 97 = .ok (.iadd, 1) := by decide +kernel
theorem dX10_shoot_98 : decode cX10_shoot 98 = .ok (.aload_n 0, 1) := by decide +kernel
theorem dX10_shoot_99 : decode cX10_shoot 99 = .ok (.getfield 77, 3) := by decide +kernel
theorem dX10_shoot_102 : decode cX10_shoot 102 = .ok (.iload 6, 2) := by decide +kernel
theorem dX10_shoot_104 : decode cX10_shoot 104 = .ok (.iaload, 1) := by decide +kernel
theorem dX10_shoot_105 : decode cX10_shoot 105 = .ok (.isub, 1) := by decide +kernel
theorem dX10_shoot_106 : decode cX10_shoot 106 = .ok (.istore 7, 2) := by decide +kernel
theorem dX10_shoot_108 : decode cX10_shoot 108 = .ok (.iconst 0, 1) := by decide +kernel
theorem dX10_shoot_109 : decode cX10_shoot 109 = .ok (.istore 8, 2) := by decide +kernel
theorem dX10_shoot_111 : decode cX10_shoot 111 = .ok (.iload 8, 2) := by decide +kernel
theorem dX10_shoot_113 : decode cX10_shoot 113 = .ok (.bipush 8, 2) := by decide +kernel
theorem dX10_shoot_115 : decode cX10_shoot 115 = .ok (.if_icmp .ge 36, 3) := by decide +kernel
theorem dX10_shoot_118 : decode cX10_shoot 118 = .ok (.aload_n 0, 1) := by decide +kernel
theorem dX10_shoot_119 : decode cX10_shoot 119 = .ok (.getfield 117, 3) := by decide +kernel
theorem dX10_shoot_122 : decode cX10_shoot 122 = .ok (.bipush 8, 2) := by decide +kernel
theorem dX10_shoot_124 : decode cX10_shoot 124 = .ok (.iload 7, 2) := by decide +kernel
theorem dX10_shoot_126 : decode cX10_shoot 126 = .ok (.imul, 1) := by decide +kernel
