set_option maxRecDepth 20000 in
theorem in_uX9 : ∀ w ∈ wsX90, w ∈ lw_tbl := in_pl _ [181, 183, 185, 187, 189, 191, 193, 195, 197] (by decide +kernel)
set_option maxRecDepth 20000 in
theorem in_uX10 : ∀ w ∈ wsX100, w ∈ lw_tbl := in_pl _ [1076, 1078, 1080, 1082, 1084, 1086, 1088, 1090, 1092, 1094, 1096, 1098, 1100, 1102, 1104, 1106, 1108, 1110, 1112, 1114, 1116, 1118, 1120, 1122, 1124, 1126, 1128, 1130, 1132, 1134, 1136, 1138, 1140, 1142, 1144, 1146, 1148, 1150, 1152, 1154, 1156, 1158, 1160, 1162, 1164, 1166, 1168, 1170, 1172, 1174, 1176, 1178, 1180, 1182, 1184] (by decide +kernel)
set_option maxRecDepth 20000 in
theorem in_uJx4a65c : ∀ w ∈ wsJx4a65c0, w ∈ lw_tbl := in_pl _ [109, 105, 107] (by decide +kernel)
set_option maxRecDepth 20000 in
theorem in_uX8 : ∀ w ∈ wsX80, w ∈ lw_tbl := in_pl _ [121, 123] (by decide +kernel)
set_option maxRecDepth 20000 in
theorem in_uX5 : ∀ w ∈ wsX50, w ∈ lw_tbl := in_pl _ [138, 140, 142, 144] (by decide +kernel)
set_option maxRecDepth 20000 in
theorem in_uX4 : ∀ w ∈ wsX40, w ∈ lw_tbl := in_pl _ [161, 163, 165, 167, 169] (by decide +kernel)
set_option maxRecDepth 20000 in
theorem in_uX7 : ∀ w ∈ wsX70, w ∈ lw_tbl := in_pl _ [349, 351, 353, 355, 357, 359, 361, 363] (by decide +kernel)
set_option maxRecDepth 20000 in
theorem in_uX6 : ∀ w ∈ wsX60, w ∈ lw_tbl := in_pl _ [326, 328] (by decide +kernel)
set_option maxRecDepth 20000 in
theorem in_uX1 : ∀ w ∈ wsX10, w ∈ lw_tbl := in_pl _ [491, 493, 495, 497, 499, 501, 503] (by decide +kernel)
set_option maxRecDepth 20000 in
theorem in_uX3 : ∀ w ∈ wsX30, w ∈ lw_tbl := in_pl _ [560, 562, 564, 566, 568] (by decide +kernel)
set_option maxRecDepth 20000 in
theorem in_uX2 : ∀ w ∈ wsX20, w ∈ lw_tbl := in_pl _ [633, 635, 637, 639, 641, 643] (by decide +kernel)
set_option maxRecDepth 20000 in
theorem in_uX0 : ∀ w ∈ wsX00, w ∈ lw_tbl := in_pl _ [665, 667, 669, 671] (by decide +kernel)
set_option maxRecDepth 20000 in
theorem wsL_law_in0 : ∀ w ∈ wsL_law0, w ∈ lw_tbl := fun w h => (List.mem_append.mp h).elim (fun h => (List.mem_append.mp h).elim (fun h => (List.mem_append.mp h).elim (fun h => (List.mem_append.mp h).elim (fun h => (List.mem_append.mp h).elim (fun h => (List.mem_append.mp h).elim (fun h => (List.mem_append.mp h).elim (fun h => (List.mem_append.mp h).elim (fun h => (List.mem_append.mp h).elim (fun h => (List.mem_append.mp h).elim (fun h => (List.mem_append.mp h).elim (fun h => (List.mem_append.mp h).elim (fun h => (List.mem_append.mp h).elim (fun h => ((fun h => (List.mem_append.mp h).elim (fun h => in_lr1 w h) (fun h => (List.mem_append.mp h).elim (fun h => in_lr2 w h) (fun h => (List.mem_append.mp h).elim (fun h => in_lr3 w h) (fun h => (List.mem_append.mp h).elim (fun h => in_lr4 w h) (fun h => (List.mem_append.mp h).elim (fun h => in_lr5 w h) (fun h => (List.mem_append.mp h).elim (fun h => in_lr6 w h) (fun h => (List.mem_append.mp h).elim (fun h => in_lr7 w h) (fun h => (List.mem_append.mp h).elim (fun h => in_lr8 w h) (fun h => (List.mem_append.mp h).elim (fun h => in_lr9 w h) (fun h => (List.mem_append.mp h).elim (fun h => in_lr10 w h) (fun h => (List.mem_append.mp h).elim (fun h => in_lr11 w h) (fun h => (List.mem_append.mp h).elim (fun h => in_lr12 w h) (fun h => (List.mem_append.mp h).elim (fun h => in_lr13 w h) (fun h => (List.mem_append.mp h).elim (fun h => in_lr14 w h) (fun h => (List.mem_append.mp h).elim (fun h => in_lr15 w h) (fun h => (List.mem_append.mp h).elim (fun h => in_lr16 w h) (fun h => (List.mem_append.mp h).elim (fun h => in_lr17 w h) (fun h => (List.mem_append.mp h).elim (fun h => in_lr18 w h) (fun h => (List.mem_append.mp h).elim (fun h => in_lr19 w h) (fun h => (List.mem_append.mp h).elim (fun h => in_lr20 w h) (fun h => (List.mem_append.mp h).elim (fun h => in_lr21 w h) (fun h => (List.mem_append.mp h).elim (fun h => in_lr22 w h) (fun h => (List.mem_append.mp h).elim (fun h => in_lr23 w h) (fun h => (List.mem_append.mp h).elim (fun h => in_lr24 w h) (fun h => (List.mem_append.mp h).elim (fun h => in_lr25 w h) (fun h => (List.mem_append.mp h).elim (fun h => in_lr26 w h) (fun h => (List.mem_append.mp h).elim (fun h => in_lr27 w h) (fun h => (List.mem_append.mp h).elim (fun h => in_lr28 w h) (fun h => (List.mem_append.mp h).elim (fun h => in_lr29 w h) (fun h => (List.mem_append.mp h).elim (fun h => in_lr30 w h) (fun h => (List.mem_append.mp h).elim (fun h => in_lr31 w h) (fun h => (List.mem_append.mp h).elim (fun h => in_lr32 w h) (fun h => (List.mem_append.mp h).elim (fun h => in_lr33 w h) (fun h => (List.mem_append.mp h).elim (fun h => in_lr34 w h) (fun h => (List.mem_append.mp h).elim (fun h => in_lr35 w h) (fun h => (List.mem_append.mp h).elim (fun h => in_lr36 w h) (fun h => (List.mem_append.mp h).elim (fun h => in_lr37 w h) (fun h => (List.mem_append.mp h).elim (fun h => in_lr38 w h) (fun h => (List.mem_append.mp h).elim (fun h => in_lr39 w h) (fun h => (List.mem_append.mp h).elim (fun h => in_lr40 w h) (fun h => (List.mem_append.mp h).elim (fun h => in_lr41 w h) (fun h => (List.mem_append.mp h).elim (fun h => in_lr42 w h) (fun h => (List.mem_append.mp h).elim (fun h => in_lr43 w h) (fun h => in_lr44 w h)))))))))))))))))))))))))))))))))))))))))))) h)) (fun h => in_uX9 w h)) (fun h => in_uX10 w h)) (fun h => in_uJx4a65c w h)) (fun h => in_uX8 w h)) (fun h => in_uX5 w h)) (fun h => in_uX4 w h)) (fun h => in_uX7 w h)) (fun h => in_uX6 w h)) (fun h => in_uX1 w h)) (fun h => in_uX3 w h)) (fun h => in_uX2 w h)) (fun h => in_uX0 w h)) (fun h => nomatch h)
set_option maxRecDepth 20000 in
theorem wsL_law_x0 : ∀ w ∈ (vx_atS RX9 67 "java/lang/IllegalStateException" ["java/lang/RuntimeException", "java/lang/Exception"]).filter goodWord, w ∈ lw_tbl := by decide +kernel
set_option maxRecDepth 20000 in
theorem wsL_law_x1 : ∀ w ∈ (vx_atS RX9 292 "java/lang/IllegalArgumentException" ["java/lang/RuntimeException", "java/lang/Exception"]).filter goodWord, w ∈ lw_tbl := by decide +kernel
set_option maxRecDepth 20000 in
theorem wsL_law_x2 : ∀ w ∈ (vx_atS RX9 279 "java/lang/IndexOutOfBoundsException" ["java/lang/RuntimeException", "java/lang/Exception"]).filter goodWord, w ∈ lw_tbl := by decide +kernel
set_option maxRecDepth 20000 in
theorem wsL_law_in : ∀ w ∈ wsL_law, w ∈ lw_tbl := fun w h => (List.mem_append.mp h).elim (fun h => (List.mem_append.mp h).elim (fun h => (List.mem_append.mp h).elim (fun h => wsL_law_in0 w h) (fun h => wsL_law_x0 w h)) (fun h => wsL_law_x1 w h)) (fun h => wsL_law_x2 w h)
