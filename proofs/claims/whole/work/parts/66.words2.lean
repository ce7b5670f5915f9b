set_option maxRecDepth 20000 in
theorem in_uX9 : ∀ w ∈ wsX90, w ∈ lw_tbl := in_pl _ [181, 183, 185, 187, 189, 191, 193, 195, 197] (by decide +kernel)
set_option maxRecDepth 20000 in
theorem in_uX10 : ∀ w ∈ wsX100, w ∈ lw_tbl := in_pl _ [1073, 1075, 1077, 1079, 1081, 1083, 1085, 1087, 1089, 1091, 1093, 1095, 1097, 1099, 1101, 1103, 1105, 1107, 1109, 1111, 1113, 1115, 1117, 1119, 1121, 1123, 1125, 1127, 1129, 1131, 1133, 1135, 1137, 1139, 1141, 1143, 1145, 1147, 1149, 1151, 1153, 1155, 1157, 1159, 1161, 1163, 1165, 1167, 1169, 1171, 1173, 1175, 1177, 1179, 1181] (by decide +kernel)
set_option maxRecDepth 20000 in
theorem in_uJx4a65c : ∀ w ∈ wsJx4a65c0, w ∈ lw_tbl := in_pl _ [109, 105, 107] (by decide +kernel)
set_option maxRecDepth 20000 in
theorem in_uX8 : ∀ w ∈ wsX80, w ∈ lw_tbl := in_pl _ [121, 123] (by decide +kernel)
set_option maxRecDepth 20000 in
theorem in_uX5 : ∀ w ∈ wsX50, w ∈ lw_tbl := in_pl _ [138, 140, 142, 144] (by decide +kernel)
set_option maxRecDepth 20000 in
theorem in_uX4 : ∀ w ∈ wsX40, w ∈ lw_tbl := in_pl _ [161, 163, 165, 167, 169] (by decide +kernel)
set_option maxRecDepth 20000 in
theorem in_uX7 : ∀ w ∈ wsX70, w ∈ lw_tbl := in_pl _ [349, 351, 353, 355, 357, 359, 361, 363] (by decide +kernel)
set_option maxRecDepth 20000 in
theorem in_uX6 : ∀ w ∈ wsX60, w ∈ lw_tbl := in_pl _ [326, 328] (by decide +kernel)
set_option maxRecDepth 20000 in
theorem in_uX1 : ∀ w ∈ wsX10, w ∈ lw_tbl := in_pl _ [491, 493, 495, 497, 499, 501, 503] (by decide +kernel)
set_option maxRecDepth 20000 in
theorem in_uX3 : ∀ w ∈ wsX30, w ∈ lw_tbl := in_pl _ [557, 559, 561, 563, 565] (by decide +kernel)
set_option maxRecDepth 20000 in
theorem in_uX2 : ∀ w ∈ wsX20, w ∈ lw_tbl := in_pl _ [630, 632, 634, 636, 638, 640] (by decide +kernel)
set_option maxRecDepth 20000 in
theorem in_uX0 : ∀ w ∈ wsX00, w ∈ lw_tbl := in_pl _ [662, 664, 666, 668] (by decide +kernel)
set_option maxRecDepth 20000 in
theorem wsL_law_in0 : ∀ w ∈ wsL_law0, w ∈ lw_tbl := fun w h => (List.mem_append.mp h).elim (fun h => (List.mem_append.mp h).elim (fun h => (List.mem_append.mp h).elim (fun h => (List.mem_append.mp h).elim (fun h => (List.mem_append.mp h).elim (fun h => (List.mem_append.mp h).elim (fun h => (List.mem_append.mp h).elim (fun h => (List.mem_append.mp h).elim (fun h => (List.mem_append.mp h).elim (fun h => (List.mem_append.mp h).elim (fun h => (List.mem_append.mp h).elim (fun h => (List.mem_append.mp h).elim (fun h => (List.mem_append.mp h).elim (fun h => ((fun h => (List.mem_append.mp h).elim (fun h => in_lr1 w h) (fun h => (List.mem_append.mp h).elim (fun h => in_lr2 w h) (fun h => (List.mem_append.mp h).elim (fun h => in_lr3 w h) (fun h => (List.mem_append.mp h).elim (fun h => in_lr4 w h) (fun h => (List.mem_append.mp h).elim (fun h => in_lr5 w h) (fun h => (List.mem_append.mp h).elim (fun h => in_lr6 w h) (fun h => (List.mem_append.mp h).elim (fun h => in_lr7 w h) (fun h => (List.mem_append.mp h).elim (fun h => in_lr8 w h) (fun h => (List.mem_append.mp h).elim (fun h => in_lr9 w h) (fun h => (List.mem_append.mp h).elim (fun h => in_lr10 w h) (fun h => (List.mem_append.mp h).elim (fun h => in_lr11 w h) (fun h => (List.mem_append.mp h).elim (fun h => in_lr12 w h) (fun h => (List.mem_append.mp h).elim (fun h => in_lr13 w h) (fun h => (List.mem_append.mp h).elim (fun h => in_lr14 w h) (fun h => (List.mem_append.mp h).elim (fun h => in_lr15 w h) (fun h => (List.mem_append.mp h).elim (fun h => in_lr16 w h) (fun h => (List.mem_append.mp h).elim (fun h => in_lr17 w h) (fun h => (List.mem_append.mp h).elim (fun h => in_lr18 w h) (fun h => (List.mem_append.mp h).elim (fun h => in_lr19 w h) (fun h => (List.mem_append.mp h).elim (fun h => in_lr20 w h) (fun h => (List.mem_append.mp h).elim (fun h => in_lr21 w h) (fun h => (List.mem_append.mp h).elim (fun h => in_lr22 w h) (fun h => (List.mem_append.mp h).elim (fun h => in_lr23 w h) (fun h => (List.mem_append.mp h).elim (fun h => in_lr24 w h) (fun h => (List.mem_append.mp h).elim (fun h => in_lr25 w h) (fun h => (List.mem_append.mp h).elim (fun h => in_lr26 w h) (fun h => (List.mem_append.mp h).elim (fun h => in_lr27 w h) (fun h => (List.mem_append.mp h).elim (fun h => in_lr28 w h) (fun h => (List.mem_append.mp h).elim (fun h => in_lr29 w h) (fun h => (List.mem_append.mp h).elim (fun h => in_lr30 w h) (fun h => (List.mem_append.mp h).elim (fun h => in_lr31 w h) (fun h => (List.mem_append.mp h).elim (fun h => in_lr32 w h) (fun h => (List.mem_append.mp h).elim (fun h => in_lr33 w h) (fun h => (List.mem_append.mp h).elim (fun h => in_lr34 w h) (fun h => (List.mem_append.mp h).elim (fun h => in_lr35 w h) (fun h => (List.mem_append.mp h).elim (fun h => in_lr36 w h) (fun h => (List.mem_append.mp h).elim (fun h => in_lr37 w h) (fun h => (List.mem_append.mp h).elim (fun h => in_lr38 w h) (fun h => (List.mem_append.mp h).elim (fun h => in_lr39 w h) (fun h => (List.mem_append.mp h).elim (fun h => in_lr40 w h) (fun h => (List.mem_append.mp h).elim (fun h => in_lr41 w h) (fun h => (List.mem_append.mp h).elim (fun h => in_lr42 w h) (fun h => (List.mem_append.mp h).elim (fun h => in_lr43 w h) (fun h => in_lr44 w h)))))))))))))))))))))))))))))))))))))))))))) h)) (fun h => in_uX9 w h)) (fun h => in_uX10 w h)) (fun h => in_uJx4a65c w h)) (fun h => in_uX8 w h)) (fun h => in_uX5 w h)) (fun h => in_uX4 w h)) (fun h => in_uX7 w h)) (fun h => in_uX6 w h)) (fun h => in_uX1 w h)) (fun h => in_uX3 w h)) (fun h => in_uX2 w h)) (fun h => in_uX0 w h)) (fun h => nomatch h)
set_option maxRecDepth 20000 in
theorem wsL_law_x0 : ∀ w ∈ (vx_atS RX9 67 "java/lang/IllegalStateException" ["java/lang/RuntimeException", "java/lang/Exception"]).filter goodWord, w ∈ lw_tbl := by decide +kernel
set_option maxRecDepth 20000 in
theorem wsL_law_x1 : ∀ w ∈ (vx_atS RX9 292 "java/lang/IllegalArgumentException" ["java/lang/RuntimeException", "java/lang/Exception"]).filter goodWord, w ∈ lw_tbl := by decide +kernel
set_option maxRecDepth 20000 in
theorem wsL_law_x2 : ∀ w ∈ (vx_atS RX9 279 "java/lang/IndexOutOfBoundsException" ["java/lang/RuntimeException", "java/lang/Exception"]).filter goodWord, w ∈ lw_tbl := by decide +kernel
set_option maxRecDepth 20000 in
theorem wsL_law_in : ∀ w ∈ wsL_law, w ∈ lw_tbl := fun w h => (List.mem_append.mp h).elim (fun h => (List.mem_append.mp h).elim (fun h => (List.mem_append.mp h).elim (fun h => wsL_law_in0 w h) (fun h => wsL_law_x0 w h)) (fun h => wsL_law_x1 w h)) (fun h => wsL_law_x2 w h)
