set_option maxRecDepth 20000 in
theorem ggL_act_X9_tables : GoodIn wsL_act wsX9_tables := goodIn_r _ [5, 6, 7, 8, 9, 10, 11, 12, 498, 499, 500, 501, 502, 503, 504, 505, 506, 507, 508, 509] (by decide +kernel) (by decide +kernel)
set_option maxRecDepth 20000 in
theorem gL_act_X9_tables : GoodIn wsL_act (wsV RL 117 RX9 yX9_tables wsX9_tables) := goodIn_app (goodIn_of _ (by decide +kernel)) ggL_act_X9_tables
set_option maxRecDepth 20000 in
theorem ggL_act_L_tables : GoodIn wsL_act wsL_tables := goodIn_ca (goodIn_ca (goodIn_r _ [16, 17, 18, 19, 20, 21, 22, 23, 4, 24, 25, 26, 6, 27, 28, 29, 30, 31, 32, 33, 34, 7, 8, 9, 10, 11, 12, 35, 36, 37, 38, 39, 40, 41, 42, 43, 44, 45, 46, 47, 48, 49, 50, 51, 52, 53, 54, 55, 56, 57, 58, 59, 60, 61, 62, 63, 64, 65, 66, 67, 68, 69, 70, 71, 72, 73, 74, 75, 76, 77, 78, 79, 80, 81, 82, 83, 84, 85, 86, 87, 88, 89, 90, 91, 92, 93, 94, 95, 96, 97, 98, 99, 100, 101, 102, 103, 104, 105, 106, 107, 108, 109, 110, 111, 112, 113, 114, 115, 116, 117, 118, 119, 120, 121, 122, 123, 124, 125, 126, 127, 498, 499, 500, 501, 502, 503, 504, 505, 506, 510, 511, 512, 513, 514, 515, 516, 517, 507, 508, 509, 518, 519] (by decide +kernel) (by decide +kernel)) (goodIn_sub (fun _ h => List.mem_cons_of_mem _ (List.mem_append_left _ (List.mem_append_left _ (List.mem_append_right _ h)))) (by decide +kernel))) (goodIn_sub (fun _ h => List.mem_cons_of_mem _ (List.mem_append_left _ (List.mem_append_right _ h))) (by decide +kernel))
set_option maxRecDepth 20000 in
theorem gL_act_L_tables : GoodIn wsL_act (va_wsS RL 124 yL_tables wsL_tables) := goodIn_app (goodIn_of _ (by decide +kernel)) ggL_act_L_tables
set_option maxRecDepth 20000 in
theorem ggL_act_L_bumpers : GoodIn wsL_act wsL_bumpers := goodIn_ca (goodIn_ca (goodIn_ca (goodIn_r _ [130, 131, 17, 18, 132, 19, 20, 133, 134, 135, 4, 136, 25, 26, 137, 138, 139, 140, 141, 142, 143, 144, 145, 146, 6, 147, 7, 8, 9, 10, 11, 12, 148, 149, 150, 151, 152, 153, 154, 155, 156, 157, 158, 159, 160, 161, 162, 163, 58, 30, 31, 32, 33, 34, 164, 165, 166, 167, 168, 169, 170, 171, 39, 40, 172, 173, 174, 175, 176, 177, 178, 76, 77, 78, 79, 80, 81, 82, 83, 84, 85, 86, 87, 88, 89, 90, 91, 92, 93, 57, 94, 95, 96, 97, 98, 99, 100, 101, 102, 103, 104, 105, 106, 107, 108, 109, 110, 111, 112, 113, 114, 115, 116, 117, 118, 119, 120, 121, 122, 123, 124, 125, 126, 127, 510, 511, 512, 513, 514, 515, 516, 517, 520, 521, 522, 523, 524, 525, 526, 498, 499, 500, 501, 502, 503, 504, 505, 506, 507, 508, 509] (by decide +kernel) (by decide +kernel)) (goodIn_sub (fun _ h => List.mem_cons_of_mem _ (List.mem_append_left _ (List.mem_append_left _ (List.mem_append_right _ h)))) (by decide +kernel))) (goodIn_sub (fun _ h => List.mem_cons_of_mem _ (List.mem_append_right _ h)) (by decide +kernel))) (goodIn_sub (fun _ h => List.mem_cons_of_mem _ (List.mem_append_left _ (List.mem_append_right _ h))) (by decide +kernel))
set_option maxRecDepth 20000 in
theorem gL_act_L_bumpers : GoodIn wsL_act (va_wsS RL 129 yL_bumpers wsL_bumpers) := goodIn_app (goodIn_of _ (by decide +kernel)) ggL_act_L_bumpers
set_option maxRecDepth 20000 in
theorem ggL_act_L_points : GoodIn wsL_act wsL_points := goodIn_ca (goodIn_ca (goodIn_ca (goodIn_r _ [181, 131, 17, 18, 132, 19, 20, 182, 183, 184, 4, 185, 186, 141, 142, 143, 144, 145, 146, 6, 147, 7, 8, 9, 10, 11, 12, 148, 149, 150, 151, 152, 153, 154, 155, 156, 157, 158, 159, 160, 161, 162, 163, 58, 187, 188, 189, 137, 190, 30, 31, 32, 33, 34, 164, 165, 166, 25, 26, 167, 191, 192, 193, 46, 194, 73, 195, 196, 197, 198, 510, 511, 512, 513, 514, 515, 516, 517, 498, 499, 500, 501, 502, 503, 504, 505, 506, 507, 508, 509, 518, 519] (by decide +kernel) (by decide +kernel)) (goodIn_sub (fun _ h => List.mem_cons_of_mem _ (List.mem_append_right _ h)) (by decide +kernel))) (goodIn_sub (fun _ h => List.mem_cons_of_mem _ (List.mem_append_left _ (List.mem_append_right _ h))) (by decide +kernel))) (goodIn_sub (fun _ h => List.mem_cons_of_mem _ (List.mem_append_left _ (List.mem_append_left _ (List.mem_append_right _ h)))) (by decide +kernel))
set_option maxRecDepth 20000 in
theorem gL_act_L_points : GoodIn wsL_act (va_wsS RL 133 yL_points wsL_points) := goodIn_app (goodIn_of _ (by decide +kernel)) ggL_act_L_points
set_option maxRecDepth 20000 in
theorem ggL_act_L_modes : GoodIn wsL_act wsL_modes := goodIn_ca (goodIn_ca (goodIn_ca (goodIn_r _ [201, 131, 17, 18, 132, 19, 20, 202, 203, 204, 4, 205, 186, 206, 207, 208, 141, 142, 143, 144, 145, 146, 6, 147, 7, 8, 9, 10, 11, 12, 148, 149, 150, 151, 152, 153, 154, 155, 156, 157, 158, 159, 160, 161, 162, 163, 58, 209, 210, 211, 187, 188, 189, 137, 190, 212, 213, 214, 33, 34, 30, 31, 32, 164, 165, 166, 25, 26, 167, 215, 216, 217, 46, 218, 75, 219, 220, 221, 222, 39, 40, 223, 224, 225, 226, 227, 228, 229, 230, 231, 510, 511, 512, 513, 514, 515, 516, 517, 527, 528, 529, 530, 531, 498, 499, 500, 501, 502, 503, 504, 505, 506, 507, 508, 509, 518, 519] (by decide +kernel) (by decide +kernel)) (goodIn_sub (fun _ h => List.mem_cons_of_mem _ (List.mem_append_right _ h)) (by decide +kernel))) (goodIn_sub (fun _ h => List.mem_cons_of_mem _ (List.mem_append_left _ (List.mem_append_right _ h))) (by decide +kernel))) (goodIn_sub (fun _ h => List.mem_cons_of_mem _ (List.mem_append_left _ (List.mem_append_left _ (List.mem_append_right _ h)))) (by decide +kernel))
set_option maxRecDepth 20000 in
theorem gL_act_L_modes : GoodIn wsL_act (va_wsS RL 137 yL_modes wsL_modes) := goodIn_app (goodIn_of _ (by decide +kernel)) ggL_act_L_modes
set_option maxRecDepth 20000 in
theorem ggL_act_L_stick : GoodIn wsL_act wsL_stick := goodIn_ca (goodIn_ca (goodIn_r _ [234, 131, 18, 132, 20, 235, 236, 237, 4, 238, 25, 26, 239, 240, 141, 142, 143, 144, 145, 146, 6, 147, 7, 8, 9, 10, 11, 12, 148, 149, 150, 151, 152, 153, 154, 155, 156, 157, 158, 159, 160, 161, 162, 163, 58, 187, 188, 189, 137, 190, 520, 521, 522, 523, 524, 525, 526, 498, 499, 500, 501, 502, 503, 504, 505, 506, 507, 508, 509, 510, 511, 512, 513, 514, 515, 516, 517] (by decide +kernel) (by decide +kernel)) (goodIn_sub (fun _ h => List.mem_cons_of_mem _ (List.mem_append_left _ (List.mem_append_left _ (List.mem_append_right _ h)))) (by decide +kernel))) (goodIn_sub (fun _ h => List.mem_cons_of_mem _ (List.mem_append_right _ h)) (by decide +kernel))
set_option maxRecDepth 20000 in
theorem gL_act_L_stick : GoodIn wsL_act (va_wsS RL 140 yL_stick wsL_stick) := goodIn_app (goodIn_of _ (by decide +kernel)) ggL_act_L_stick
set_option maxRecDepth 20000 in
theorem ggL_act_L_coin : GoodIn wsL_act wsL_coin := goodIn_ca (goodIn_ca (goodIn_r _ [243, 131, 18, 132, 20, 244, 245, 246, 4, 247, 25, 26, 248, 249, 250, 251, 186, 167, 252, 253, 254, 141, 142, 143, 144, 145, 146, 6, 147, 7, 8, 9, 10, 11, 12, 148, 149, 150, 151, 152, 153, 154, 155, 156, 157, 158, 159, 160, 161, 162, 163, 58, 164, 165, 166, 255, 256, 257, 46, 258, 259, 45, 73, 75, 260, 69, 70, 71, 39, 40, 72, 74, 261, 196, 197, 198, 262, 229, 230, 231, 263, 264, 265, 266, 267, 268, 269, 270, 271, 272, 273, 274, 275, 276, 277, 278, 279, 280, 281, 282, 283, 76, 77, 78, 79, 80, 81, 82, 83, 84, 85, 86, 87, 88, 89, 90, 91, 92, 93, 57, 94, 95, 96, 97, 98, 99, 100, 101, 102, 103, 104, 105, 106, 107, 108, 109, 110, 111, 112, 113, 114, 115, 116, 117, 118, 119, 120, 121, 122, 123, 124, 125, 126, 127, 498, 499, 500, 501, 502, 503, 504, 505, 506, 532, 533, 534, 535, 536, 537, 510, 511, 512, 513, 514, 515, 516, 517, 507, 508, 509, 518, 519, 538, 539, 540, 541] (by decide +kernel) (by decide +kernel)) (goodIn_sub (fun _ h => List.mem_cons_of_mem _ (List.mem_append_left _ (List.mem_append_left _ (List.mem_append_right _ h)))) (by decide +kernel))) (goodIn_sub (fun _ h => List.mem_cons_of_mem _ (List.mem_append_right _ h)) (by decide +kernel))
set_option maxRecDepth 20000 in
theorem gL_act_L_coin : GoodIn wsL_act (va_wsS RL 146 yL_coin wsL_coin) := goodIn_app (goodIn_of _ (by decide +kernel)) ggL_act_L_coin
set_option maxRecDepth 20000 in
theorem ggL_act_L_rob : GoodIn wsL_act wsL_rob := goodIn_ca (goodIn_ca (goodIn_ca (goodIn_r _ [286, 131, 17, 18, 132, 19, 20, 287, 288, 289, 4, 290, 25, 26, 252, 141, 142, 143, 144, 145, 146, 6, 147, 7, 8, 9, 10, 11, 12, 148, 149, 150, 151, 152, 153, 154, 155, 156, 157, 158, 159, 160, 161, 162, 163, 58, 30, 31, 32, 33, 34, 510, 511, 512, 513, 514, 515, 516, 517, 498, 499, 500, 501, 502, 503, 504, 505, 506, 507, 508, 509] (by decide +kernel) (by decide +kernel)) (goodIn_sub (fun _ h => List.mem_cons_of_mem _ (List.mem_append_left _ (List.mem_append_left _ (List.mem_append_right _ h)))) (by decide +kernel))) (goodIn_sub (fun _ h => List.mem_cons_of_mem _ (List.mem_append_right _ h)) (by decide +kernel))) (goodIn_sub (fun _ h => List.mem_cons_of_mem _ (List.mem_append_left _ (List.mem_append_right _ h))) (by decide +kernel))
set_option maxRecDepth 20000 in
theorem gL_act_L_rob : GoodIn wsL_act (va_wsS RL 176 yL_rob wsL_rob) := goodIn_app (goodIn_of _ (by decide +kernel)) ggL_act_L_rob
set_option maxRecDepth 20000 in
theorem ggL_act_L_load : GoodIn wsL_act wsL_load := goodIn_ca (goodIn_ca (goodIn_ca (goodIn_r _ [293, 131, 17, 18, 132, 19, 20, 294, 295, 296, 4, 297, 25, 26, 298, 299, 300, 301, 145, 146, 302, 303, 30, 31, 32, 33, 34, 304, 305, 306, 307, 308, 309, 310, 311, 312, 313, 498, 499, 500, 501, 502, 503, 504, 505, 506, 542, 543] (by decide +kernel) (by decide +kernel)) (goodIn_sub (fun _ h => List.mem_cons_of_mem _ (List.mem_append_left _ (List.mem_append_left _ (List.mem_append_right _ h)))) (by decide +kernel))) (goodIn_sub (fun _ h => List.mem_cons_of_mem _ (List.mem_append_right _ h)) (by decide +kernel))) (goodIn_sub (fun _ h => List.mem_cons_of_mem _ (List.mem_append_left _ (List.mem_append_right _ h))) (by decide +kernel))
set_option maxRecDepth 20000 in
theorem gL_act_L_load : GoodIn wsL_act (va_wsS RL 182 yL_load wsL_load) := goodIn_app (goodIn_of _ (by decide +kernel)) ggL_act_L_load
set_option maxRecDepth 20000 in
theorem ggL_act_L_go : GoodIn wsL_act wsL_go := goodIn_ca (goodIn_ca (goodIn_r _ [316, 131, 18, 132, 20, 317, 318, 319, 4, 320, 25, 26, 321, 6, 322, 323, 324, 298, 299, 300, 301, 145, 146, 302, 303, 325, 326, 327, 328, 329, 330, 331, 332, 333, 334, 335, 336, 337, 338, 339, 340, 8, 9, 10, 11, 12, 341, 149, 150, 151, 152, 153, 154, 155, 156, 157, 158, 159, 160, 161, 162, 163, 58, 342, 343, 344, 29, 345, 48, 49, 346, 347, 348, 349, 43, 350, 351, 352, 353, 354, 355, 356, 140, 357, 172, 358, 359, 360, 361, 362, 363, 96, 364, 365, 366, 367, 368, 369, 370, 371, 372, 373, 374, 122, 123, 375, 376, 377, 378, 379, 380, 381, 382, 141, 142, 143, 144, 147, 7, 148, 383, 384, 385, 386, 51, 50, 387, 388, 389, 390, 137, 190, 239, 391, 392, 393, 394, 307, 395, 396, 305, 306, 308, 309, 397, 311, 312, 313, 398, 399, 400, 401, 402, 498, 499, 500, 501, 502, 503, 504, 505, 506, 542, 543, 544, 545, 546, 547, 548, 510, 511, 512, 513, 514, 515, 516, 517, 507, 508, 509, 520, 521, 522, 523, 524, 525, 526] (by decide +kernel) (by decide +kernel)) (goodIn_sub (fun _ h => List.mem_cons_of_mem _ (List.mem_append_left _ (List.mem_append_left _ (List.mem_append_right _ h)))) (by decide +kernel))) (goodIn_sub (fun _ h => List.mem_cons_of_mem _ (List.mem_append_right _ h)) (by decide +kernel))
set_option maxRecDepth 20000 in
theorem gL_act_L_go : GoodIn wsL_act (va_wsS RL 192 yL_go wsL_go) := goodIn_app (goodIn_of _ (by decide +kernel)) ggL_act_L_go
set_option maxRecDepth 20000 in
theorem ggL_act_L_shoot : GoodIn wsL_act wsL_shoot := goodIn_ca (goodIn_ca (goodIn_ca (goodIn_r _ [405, 131, 17, 18, 132, 19, 20, 406, 407, 408, 4, 409, 25, 26, 167, 248, 410, 411, 412, 413, 414, 415, 416, 141, 142, 143, 144, 145, 146, 6, 147, 7, 8, 9, 10, 11, 12, 148, 149, 150, 151, 152, 153, 154, 155, 156, 157, 158, 159, 160, 161, 162, 163, 58, 30, 31, 32, 33, 34, 417, 418, 419, 420, 39, 40, 421, 422, 423, 424, 425, 426, 427, 428, 429, 430, 431, 432, 433, 434, 435, 436, 122, 96, 123, 437, 438, 439, 440, 441, 442, 443, 444, 445, 29, 446, 43, 350, 352, 353, 447, 448, 449, 140, 450, 174, 176, 175, 177, 451, 452, 453, 454, 455, 456, 457, 363, 364, 178, 458, 459, 355, 356, 357, 172, 460, 461, 462, 463, 464, 465, 466, 467, 137, 190, 401, 239, 468, 469, 470, 251, 471, 273, 272, 274, 270, 276, 472, 473, 474, 269, 475, 282, 280, 283, 476, 281, 477, 478, 479, 480, 216, 217, 46, 218, 75, 481, 192, 193, 194, 73, 482, 483, 484, 485, 486, 487, 488, 489, 490, 491, 492, 493, 494, 495, 496, 497, 510, 511, 512, 513, 514, 515, 516, 517, 498, 499, 500, 501, 502, 503, 504, 505, 506, 532, 533, 534, 535, 536, 537, 538, 539, 540, 541, 549, 550, 551, 552, 507, 508, 509, 520, 521, 522, 523, 524, 525, 526, 527, 528, 529, 530, 531, 518, 519] (by decide +kernel) (by decide +kernel)) (goodIn_sub (fun _ h => List.mem_cons_of_mem _ (List.mem_append_left _ (List.mem_append_left _ (List.mem_append_right _ h)))) (by decide +kernel))) (goodIn_sub (fun _ h => List.mem_cons_of_mem _ (List.mem_append_right _ h)) (by decide +kernel))) (goodIn_sub (fun _ h => List.mem_cons_of_mem _ (List.mem_append_left _ (List.mem_append_right _ h))) (by decide +kernel))
set_option maxRecDepth 20000 in
theorem gL_act_L_shoot : GoodIn wsL_act (va_wsS RL 149 yL_shoot wsL_shoot) := goodIn_app (goodIn_of _ (by decide +kernel)) ggL_act_L_shoot
theorem dL_act_0 : decode cL_act 0 = .ok (.iload_n 2, 1) := by decide +kernel
theorem dL_act_1 : decode cL_act 1 = .ok (.bipush 32, 2) := by decide +kernel
theorem dL_act_3 : decode cL_act 3 = .ok (.idiv, 1) := by decide +kernel
theorem dL_act_4 : decode cL_act 4 = .ok (.istore_n 3, 1) := by decide +kernel
theorem dL_act_5 : decode cL_act 5 = .ok (.aload_n 0, 1) := by decide +kernel
theorem dL_act_6 : decode cL_act 6 = .ok (.invokevirtual 117, 3) := by decide +kernel
theorem dL_act_9 : decode cL_act 9 = .ok (.ifCond .ne 7, 3) := by decide +kernel
theorem dL_act_12 : decode cL_act 12 = .ok (.iconst 0, 1) := by decide +kernel
theorem dL_act_13 : decode cL_act 13 = .ok (.goto 9, 3) := by decide +kernel
theorem dL_act_16 : decode cL_act 16 = .ok (.iload_n 3, 1) := by decide +kernel
theorem dL_act_17 : decode cL_act 17 = .ok (.aload_n 0, 1) := by decide +kernel
theorem dL_act_18 : decode cL_act 18 = .ok (.invokevirtual 117, 3) := by decide +kernel
theorem dL_act_21 : decode cL_act 21 = .ok (.irem, 1) := by decide +kernel
theorem dL_act_22 : decode cL_act 22 = .ok (.istore 4, 2) := by decide +kernel
theorem dL_act_24 : decode cL_act 24 = .ok (.aload_n 0, 1) := by decide +kernel
theorem dL_act_25 : decode cL_act 25 = .ok (.invokevirtual 117, 3) := by decide +kernel
theorem dL_act_28 : decode cL_act 28 = .ok (.ifCond .ne 7, 3) := by decide +kernel
theorem dL_act_31 : decode cL_act 31 = .ok (.iconst 0, 1) := by decide +kernel
theorem dL_act_32 : decode cL_act 32 = .ok (.goto 7, 3) := by decide +kernel
theorem dL_act_35 : decode cL_act 35 = .ok (.aload_n 1, 1) := by decide +kernel
theorem dL_act_36 : decode cL_act 36 = .ok (.iload 4, 2) := by decide +kernel
theorem dL_act_38 : decode cL_act 38 = .ok (.iaload, 1) := by decide +kernel
theorem dL_act_39 : decode cL_act 39 = .ok (.istore 5, 2) := by decide +kernel
theorem dL_act_41 : decode cL_act 41 = .ok (.iload 5, 2) := by decide +kernel
theorem dL_act_43 : decode cL_act 43 = .ok (.ifCond .ne 7, 3) := by decide +kernel
theorem dL_act_46 : decode cL_act 46 = .ok (.iconst 0, 1) := by decide +kernel
theorem dL_act_47 : decode cL_act 47 = .ok (.goto 10, 3) := by decide +kernel
theorem dL_act_50 : decode cL_act 50 = .ok (.iload_n 3, 1) := by decide +kernel
theorem dL_act_51 : decode cL_act 51 = .ok (.bipush 8, 2) := by decide +kernel
theorem dL_act_53 : decode cL_act 53 = .ok (.idiv, 1) := by decide +kernel
theorem dL_act_54 : decode cL_act 54 = .ok (.iload 5, 2) := by decide +kernel
theorem dL_act_56 : decode cL_act 56 = .ok (.irem, 1) := by decide +kernel
theorem dL_act_57 : decode cL_act 57 = .ok (.istore 6, 2) := by decide +kernel
theorem dL_act_59 : decode cL_act 59 = .ok (.iload_n 2, 1) := by decide +kernel
theorem dL_act_60 : decode cL_act 60 = .ok (.bipush 32, 2) := by decide +kernel
theorem dL_act_62 : decode cL_act 62 = .ok (.irem, 1) := by decide +kernel
theorem dL_act_63 : decode cL_act 63 = .ok (.tableswitch 330 0 20 #[97, 115, 115, 115, 115, 168, 168, 185, 185, 262, 262, 262, 271, 271, 271, 271, 278, 294, 294, 319, 319], 97) := by decide +kernel
theorem dL_act_160 : decode cL_act 160 = .ok (.aload_n 0, 1) := by decide +kernel
theorem dL_act_161 : decode cL_act 161 = .ok (.iload_n 3, 1) := by decide +kernel
theorem dL_act_162 : decode cL_act 162 = .ok (.bipush 101, 2) := by decide +kernel
theorem dL_act_164 : decode cL_act 164 = .ok (.irem, 1) := by decide +kernel
theorem dL_act_165 : decode cL_act 165 = .ok (.iconst 1, 1) := by decide +kernel
theorem dL_act_166 : decode cL_act 166 = .ok (.iload_n 3, 1) := by decide +kernel
theorem dL_act_167 : decode cL_act 167 = .ok (.bipush 101, 2) := by decide +kernel
theorem dL_act_169 : decode cL_act 169 = .ok (.idiv, 1) := by decide +kernel
theorem dL_act_170 : decode cL_act 170 = .ok (.bipush 9, 2) := by decide +kernel
theorem dL_act_172 : decode cL_act 172 = .ok (.irem, 1) := by decide +kernel
theorem dL_act_173 : decode cL_act 173 = .ok (.iadd, 1) := by decide +kernel
theorem dL_act_174 : decode cL_act 174 = .ok (.invokestatic 124, 3) := by decide +kernel
theorem dL_act_177 : decode cL_act 177 = .ok (.ireturn, 1) := by decide +kernel
theorem dL_act_178 : decode cL_act 178 = .ok (.aload_n 0, 1) := by decide +kernel
theorem dL_act_179 : decode cL_act 179 = .ok (.iload 4, 2) := by decide +kernel
theorem dL_act_181 : decode cL_act 181 = .ok (.iload_n 3, 1) := by decide +kernel
theorem dL_act_182 : decode cL_act 182 = .ok (.bipush 8, 2) := by decide +kernel
theorem dL_act_184 : decode cL_act 184 = .ok (.idiv, 1) := by decide +kernel
theorem dL_act_185 : decode cL_act 185 = .ok (.sipush 160, 3) := by decide +kernel
theorem dL_act_188 : decode cL_act 188 = .ok (.irem, 1) := by decide +kernel
theorem dL_act_189 : decode cL_act 189 = .ok (.iload_n 3, 1) := by decide +kernel
theorem dL_act_190 : decode cL_act 190 = .ok (.sipush 1280, 3) := by decide +kernel
theorem dL_act_193 : decode cL_act 193 = .ok (.idiv, 1) := by decide +kernel
theorem dL_act_194 : decode cL_act 194 = .ok (.sipush 240, 3) := by decide +kernel
theorem dL_act_197 : decode cL_act 197 = .ok (.irem, 1) := by decide +kernel
theorem dL_act_198 : decode cL_act 198 = .ok (.bipush 100, 2) := by decide +kernel
theorem dL_act_200 : decode cL_act 200 = .ok (.iconst 1, 1) := by decide +kernel
theorem dL_act_201 : decode cL_act 201 = .ok (.iload_n 3, 1) := by decide +kernel
theorem dL_act_202 : decode cL_act 202 = .ok (.bipush 7, 2) := by decide +kernel
theorem dL_act_204 : decode cL_act 204 = .ok (.idiv, 1) := by decide +kernel
theorem dL_act_205 : decode cL_act 205 = .ok (.bipush 60, 2) := by decide +kernel
theorem dL_act_207 : decode cL_act 207 = .ok (.irem, 1) := by decide +kernel
theorem dL_act_208 : decode cL_act 208 = .ok (.iadd, 1) := by decide +kernel
theorem dL_act_209 : decode cL_act 209 = .ok (.imul, 1) := by decide +kernel
theorem dL_act_210 : decode cL_act 210 = .ok (.iconst 1, 1) := by decide +kernel
theorem dL_act_211 : decode cL_act 211 = .ok (.iadd, 1) := by decide +kernel
theorem dL_act_212 : decode cL_act 212 = .ok (.iload_n 3, 1) := by decide +kernel
theorem dL_act_213 : decode cL_act 213 = .ok (.bipush 11, 2) := by decide +kernel
theorem dL_act_215 : decode cL_act 215 = .ok (.idiv, 1) := by decide +kernel
theorem dL_act_216 : decode cL_act 216 = .ok (.bipush 60, 2) := by decide +kernel
theorem dL_act_218 : decode cL_act 218 = .ok (.irem, 1) := by decide +kernel
theorem dL_act_219 : decode cL_act 219 = .ok (.iadd, 1) := by decide +kernel
theorem dL_act_220 : decode cL_act 220 = .ok (.iload_n 3, 1) := by decide +kernel
theorem dL_act_221 : decode cL_act 221 = .ok (.bipush 13, 2) := by decide +kernel
theorem dL_act_223 : decode cL_act 223 = .ok (.idiv, 1) := by decide +kernel
theorem dL_act_224 : decode cL_act 224 = .ok (.bipush 21, 2) := by decide +kernel
theorem dL_act_226 : decode cL_act 226 = .ok (.irem, 1) := by decide +kernel
theorem dL_act_227 : decode cL_act 227 = .ok (.invokestatic 129, 3) := by decide +kernel
theorem dL_act_230 : decode cL_act 230 = .ok (.ireturn, 1) := by decide +kernel
theorem dL_act_231 : decode cL_act 231 = .ok (.aload_n 0, 1) := by decide +kernel
theorem dL_act_232 : decode cL_act 232 = .ok (.iload 4, 2) := by decide +kernel
theorem dL_act_234 : decode cL_act 234 = .ok (.iload 6, 2) := by decide +kernel
theorem dL_act_236 : decode cL_act 236 = .ok (.iload_n 3, 1) := by decide +kernel
theorem dL_act_237 : decode cL_act 237 = .ok (.bipush 16, 2) := by decide +kernel
theorem dL_act_239 : decode cL_act 239 = .ok (.idiv, 1) := by decide +kernel
theorem dL_act_240 : decode cL_act 240 = .ok (.sipush 1001, 3) := by decide +kernel
theorem dL_act_243 : decode cL_act 243 = .ok (.irem, 1) := by decide +kernel
theorem dL_act_244 : decode cL_act 244 = .ok (.invokestatic 133, 3) := by decide +kernel
theorem dL_act_247 : decode cL_act 247 = .ok (.ireturn, 1) := by decide +kernel
theorem dL_act_248 : decode cL_act 248 = .ok (.aload_n 0, 1) := by decide +kernel
theorem dL_act_249 : decode cL_act 249 = .ok (.iload 4, 2) := by decide +kernel
theorem dL_act_251 : decode cL_act 251 = .ok (.iload_n 3, 1) := by decide +kernel
theorem dL_act_252 : decode cL_act 252 = .ok (.bipush 8, 2) := by decide +kernel
theorem dL_act_254 : decode cL_act 254 = .ok (.idiv, 1) := by decide +kernel
theorem dL_act_255 : decode cL_act 255 = .ok (.iconst 4, 1) := by decide +kernel
theorem dL_act_256 : decode cL_act 256 = .ok (.irem, 1) := by decide +kernel
theorem dL_act_257 : decode cL_act 257 = .ok (.iload_n 3, 1) := by decide +kernel
theorem dL_act_258 : decode cL_act 258 = .ok (.iconst 3, 1) := by decide +kernel
theorem dL_act_259 : decode cL_act 259 = .ok (.idiv, 1) := by decide +kernel
theorem dL_act_260 : decode cL_act 260 = .ok (.iconst 5, 1) := by decide +kernel
theorem dL_act_261 : decode cL_act 261 = .ok (.irem, 1) := by decide +kernel
theorem dL_act_262 : decode cL_act 262 = .ok (.ifCond .ne 7, 3) := by decide +kernel
theorem dL_act_265 : decode cL_act 265 = .ok (.iconst (-1), 1) := by decide +kernel
theorem dL_act_266 : decode cL_act 266 = .ok (.goto 25, 3) := by decide +kernel
theorem dL_act_269 : decode cL_act 269 = .ok (.bipush 10, 2) := by decide +kernel
theorem dL_act_271 : decode cL_act 271 = .ok (.iload 6, 2) := by decide +kernel
theorem dL_act_273 : decode cL_act 273 = .ok (.imul, 1) := by decide +kernel
theorem dL_act_274 : decode cL_act 274 = .ok (.iload 5, 2) := by decide +kernel
theorem dL_act_276 : decode cL_act 276 = .ok (.ifCond .ne 7, 3) := by decide +kernel
theorem dL_act_279 : decode cL_act 279 = .ok (.iconst 0, 1) := by decide +kernel
theorem dL_act_280 : decode cL_act 280 = .ok (.goto 10, 3) := by decide +kernel
theorem dL_act_283 : decode cL_act 283 = .ok (.iload_n 3, 1) := by decide +kernel
theorem dL_act_284 : decode cL_act 284 = .ok (.bipush 64, 2) := by decide +kernel
theorem dL_act_286 : decode cL_act 286 = .ok (.idiv, 1) := by decide +kernel
theorem dL_act_287 : decode cL_act 287 = .ok (.iload 5, 2) := by decide +kernel
theorem dL_act_289 : decode cL_act 289 = .ok (.irem, 1) := by decide +kernel
theorem dL_act_290 : decode cL_act 290 = .ok (.iadd, 1) := by decide +kernel
theorem dL_act_291 : decode cL_act 291 = .ok (.bipush 100, 2) := by decide +kernel
theorem dL_act_293 : decode cL_act 293 = .ok (.iconst 1, 1) := by decide +kernel
theorem dL_act_294 : decode cL_act 294 = .ok (.iload_n 3, 1) := by decide +kernel
theorem dL_act_295 : decode cL_act 295 = .ok (.sipush 256, 3) := by decide +kernel
theorem dL_act_298 : decode cL_act 298 = .ok (.idiv, 1) := by decide +kernel
theorem dL_act_299 : decode cL_act 299 = .ok (.bipush 8, 2) := by decide +kernel
theorem dL_act_301 : decode cL_act 301 = .ok (.irem, 1) := by decide +kernel
theorem dL_act_302 : decode cL_act 302 = .ok (.iadd, 1) := by decide +kernel
theorem dL_act_303 : decode cL_act 303 = .ok (.imul, 1) := by decide +kernel
theorem dL_act_304 : decode cL_act 304 = .ok (.iconst 2, 1) := by decide +kernel
theorem dL_act_305 : decode cL_act 305 = .ok (.iadd, 1) := by decide +kernel
theorem dL_act_306 : decode cL_act 306 = .ok (.iload_n 3, 1) := by decide +kernel
theorem dL_act_307 : decode cL_act 307 = .ok (.iconst 5, 1) := by decide +kernel
theorem dL_act_308 : decode cL_act 308 = .ok (.idiv, 1) := by decide +kernel
theorem dL_act_309 : decode cL_act 309 = .ok (.bipush 8, 2) := by decide +kernel
theorem dL_act_311 : decode cL_act 311 = .ok (.irem, 1) := by decide +kernel
theorem dL_act_312 : decode cL_act 312 = .ok (.iadd, 1) := by decide +kernel
theorem dL_act_313 : decode cL_act 313 = .ok (.iload_n 3, 1) := by decide +kernel
theorem dL_act_314 : decode cL_act 314 = .ok (.bipush 9, 2) := by decide +kernel
theorem dL_act_316 : decode cL_act 316 = .ok (.idiv, 1) := by decide +kernel
theorem dL_act_317 : decode cL_act 317 = .ok (.sipush 5001, 3) := by decide +kernel
theorem dL_act_320 : decode cL_act 320 = .ok (.irem, 1) := by decide +kernel
theorem dL_act_321 : decode cL_act 321 = .ok (.invokestatic 137, 3) := by decide +kernel
theorem dL_act_324 : decode cL_act 324 = .ok (.ireturn, 1) := by decide +kernel
theorem dL_act_325 : decode cL_act 325 = .ok (.aload_n 0, 1) := by decide +kernel
theorem dL_act_326 : decode cL_act 326 = .ok (.iload 4, 2) := by decide +kernel
theorem dL_act_328 : decode cL_act 328 = .ok (.iload 6, 2) := by decide +kernel
theorem dL_act_330 : decode cL_act 330 = .ok (.invokestatic 140, 3) := by decide +kernel
theorem dL_act_333 : decode cL_act 333 = .ok (.ireturn, 1) := by decide +kernel
theorem dL_act_334 : decode cL_act 334 = .ok (.aload_n 0, 1) := by decide +kernel
theorem dL_act_335 : decode cL_act 335 = .ok (.iload 4, 2) := by decide +kernel
theorem dL_act_337 : decode cL_act 337 = .ok (.invokestatic 146, 3) := by decide +kernel
theorem dL_act_340 : decode cL_act 340 = .ok (.ireturn, 1) := by decide +kernel
theorem dL_act_341 : decode cL_act 341 = .ok (.aload_n 0, 1) := by decide +kernel
theorem dL_act_342 : decode cL_act 342 = .ok (.iload 4, 2) := by decide +kernel
theorem dL_act_344 : decode cL_act 344 = .ok (.iconst 1, 1) := by decide +kernel
theorem dL_act_345 : decode cL_act 345 = .ok (.iload_n 3, 1) := by decide +kernel
theorem dL_act_346 : decode cL_act 346 = .ok (.bipush 8, 2) := by decide +kernel
theorem dL_act_348 : decode cL_act 348 = .ok (.idiv, 1) := by decide +kernel
theorem dL_act_349 : decode cL_act 349 = .ok (.bipush 9, 2) := by decide +kernel
theorem dL_act_351 : decode cL_act 351 = .ok (.irem, 1) := by decide +kernel
theorem dL_act_352 : decode cL_act 352 = .ok (.iadd, 1) := by decide +kernel
theorem dL_act_353 : decode cL_act 353 = .ok (.invokestatic 176, 3) := by decide +kernel
theorem dL_act_356 : decode cL_act 356 = .ok (.ireturn, 1) := by decide +kernel
theorem dL_act_357 : decode cL_act 357 = .ok (.aload_n 0, 1) := by decide +kernel
theorem dL_act_358 : decode cL_act 358 = .ok (.iload_n 3, 1) := by decide +kernel
theorem dL_act_359 : decode cL_act 359 = .ok (.bipush 8, 2) := by decide +kernel
theorem dL_act_361 : decode cL_act 361 = .ok (.idiv, 1) := by decide +kernel
theorem dL_act_362 : decode cL_act 362 = .ok (.iconst 2, 1) := by decide +kernel
theorem dL_act_363 : decode cL_act 363 = .ok (.irem, 1) := by decide +kernel
theorem dL_act_364 : decode cL_act 364 = .ok (.iload_n 3, 1) := by decide +kernel
theorem dL_act_365 : decode cL_act 365 = .ok (.bipush 16, 2) := by decide +kernel
theorem dL_act_367 : decode cL_act 367 = .ok (.idiv, 1) := by decide +kernel
theorem dL_act_368 : decode cL_act 368 = .ok (.iconst 2, 1) := by decide +kernel
theorem dL_act_369 : decode cL_act 369 = .ok (.irem, 1) := by decide +kernel
theorem dL_act_370 : decode cL_act 370 = .ok (.iconst 1, 1) := by decide +kernel
theorem dL_act_371 : decode cL_act 371 = .ok (.iload_n 3, 1) := by decide +kernel
theorem dL_act_372 : decode cL_act 372 = .ok (.bipush 32, 2) := by decide +kernel
theorem dL_act_374 : decode cL_act 374 = .ok (.idiv, 1) := by decide +kernel
theorem dL_act_375 : decode cL_act 375 = .ok (.iconst 4, 1) := by decide +kernel
theorem dL_act_376 : decode cL_act 376 = .ok (.irem, 1) := by decide +kernel
theorem dL_act_377 : decode cL_act 377 = .ok (.iadd, 1) := by decide +kernel
theorem dL_act_378 : decode cL_act 378 = .ok (.invokestatic 182, 3) := by decide +kernel
theorem dL_act_381 : decode cL_act 381 = .ok (.ireturn, 1) := by decide +kernel
theorem dL_act_382 : decode cL_act 382 = .ok (.aload_n 0, 1) := by decide +kernel
theorem dL_act_383 : decode cL_act 383 = .ok (.iload_n 3, 1) := by decide +kernel
theorem dL_act_384 : decode cL_act 384 = .ok (.bipush 8, 2) := by decide +kernel
theorem dL_act_386 : decode cL_act 386 = .ok (.idiv, 1) := by decide +kernel
theorem dL_act_387 : decode cL_act 387 = .ok (.iconst 2, 1) := by decide +kernel
theorem dL_act_388 : decode cL_act 388 = .ok (.irem, 1) := by decide +kernel
theorem dL_act_389 : decode cL_act 389 = .ok (.invokestatic 192, 3) := by decide +kernel
theorem dL_act_392 : decode cL_act 392 = .ok (.ireturn, 1) := by decide +kernel
theorem dL_act_393 : decode cL_act 393 = .ok (.aload_n 0, 1) := by decide +kernel
theorem dL_act_394 : decode cL_act 394 = .ok (.iload 4, 2) := by decide +kernel
theorem dL_act_396 : decode cL_act 396 = .ok (.iload_n 3, 1) := by decide +kernel
theorem dL_act_397 : decode cL_act 397 = .ok (.bipush 8, 2) := by decide +kernel
theorem dL_act_399 : decode cL_act 399 = .ok (.idiv, 1) := by decide +kernel
theorem dL_act_400 : decode cL_act 400 = .ok (.sipush 160, 3) := by decide +kernel
theorem dL_act_403 : decode cL_act 403 = .ok (.irem, 1) := by decide +kernel
theorem dL_act_404 : decode cL_act 404 = .ok (.iload_n 3, 1) := by decide +kernel
theorem dL_act_405 : decode cL_act 405 = .ok (.sipush 1280, 3) := by decide +kernel
theorem dL_act_408 : decode cL_act 408 = .ok (.idiv, 1) := by decide +kernel
theorem dL_act_409 : decode cL_act 409 = .ok (.bipush 61, 2) := by decide +kernel
theorem dL_act_411 : decode cL_act 411 = .ok (.irem, 1) := by decide +kernel
theorem dL_act_412 : decode cL_act 412 = .ok (.bipush 30, 2) := by decide +kernel
theorem dL_act_414 : decode cL_act 414 = .ok (.isub, 1) := by decide +kernel
theorem dL_act_415 : decode cL_act 415 = .ok (.iload_n 3, 1) := by decide +kernel
theorem dL_act_416 : decode cL_act 416 = .ok (.bipush 9, 2) := by decide +kernel
theorem dL_act_418 : decode cL_act 418 = .ok (.idiv, 1) := by decide +kernel
theorem dL_act_419 : decode cL_act 419 = .ok (.bipush 61, 2) := by decide +kernel
theorem dL_act_421 : decode cL_act 421 = .ok (.irem, 1) := by decide +kernel
theorem dL_act_422 : decode cL_act 422 = .ok (.bipush 30, 2) := by decide +kernel
theorem dL_act_424 : decode cL_act 424 = .ok (.isub, 1) := by decide +kernel
theorem dL_act_425 : decode cL_act 425 = .ok (.invokestatic 149, 3) := by decide +kernel
theorem dL_act_428 : decode cL_act 428 = .ok (.ireturn, 1) := by decide +kernel
set_option maxRecDepth 20000 in
theorem ggL_alike_X9_tables : GoodIn wsL_alike wsX9_tables := goodIn_r _ [5, 6, 7, 8, 9, 10, 11, 12, 365, 366, 367, 368, 369, 370, 371, 372, 373, 374, 375, 376] (by decide +kernel) (by decide +kernel)
set_option maxRecDepth 20000 in
theorem gL_alike_X9_tables : GoodIn wsL_alike (wsV RL 117 RX9 yX9_tables wsX9_tables) := goodIn_app (goodIn_of _ (by decide +kernel)) ggL_alike_X9_tables
set_option maxRecDepth 20000 in
theorem ggL_alike_X9_games : GoodIn wsL_alike wsX9_games := goodIn_r _ [16, 17, 7, 8, 9, 10, 11, 12, 365, 366, 367, 368, 369, 370, 371, 372, 373, 374, 375, 376] (by decide +kernel) (by decide +kernel)
set_option maxRecDepth 20000 in
theorem gL_alike_X9_games : GoodIn wsL_alike (wsV RL 121 RX9 yX9_games wsX9_games) := goodIn_app (goodIn_of _ (by decide +kernel)) ggL_alike_X9_games
set_option maxRecDepth 20000 in
theorem ggL_alike_L_wanted : GoodIn wsL_alike wsL_wanted := goodIn_ca (goodIn_r _ [21, 22, 23, 24, 25, 26, 4, 27, 6, 28, 29, 30, 31, 32, 33, 34, 35, 36, 37, 38, 39, 7, 8, 9, 10, 11, 12, 40, 41, 42, 43, 44, 45, 46, 47, 48, 49, 50, 51, 52, 53, 54, 55, 56, 57, 58, 59, 60, 61, 62, 63, 64, 65, 66, 67, 68, 69, 70, 71, 72, 73, 74, 75, 76, 77, 78, 365, 366, 367, 368, 369, 370, 371, 372, 373, 374, 375, 376, 377, 378, 379, 380, 381, 382, 383, 384, 385, 386, 387, 388, 389, 390, 391, 392, 393] (by decide +kernel) (by decide +kernel)) (goodIn_sub (fun _ h => List.mem_cons_of_mem _ (List.mem_append_left _ (List.mem_append_right _ h))) (by decide +kernel))
set_option maxRecDepth 20000 in
theorem gL_alike_L_wanted : GoodIn wsL_alike (va_wsS RL 186 yL_wanted wsL_wanted) := goodIn_app (goodIn_of _ (by decide +kernel)) ggL_alike_L_wanted
set_option maxRecDepth 20000 in
theorem ggL_alike_L_gameAt : GoodIn wsL_alike wsL_gameAt := goodIn_ca (goodIn_r _ [81, 82, 83, 84, 85, 86, 4, 87, 88, 89, 90, 91, 92, 93, 94, 6, 28, 7, 8, 9, 10, 11, 12, 40, 41, 42, 43, 44, 45, 46, 47, 48, 49, 50, 51, 52, 53, 54, 55, 56, 377, 378, 379, 380, 381, 382, 383, 384, 365, 366, 367, 368, 369, 370, 371, 372, 373, 374, 375, 376] (by decide +kernel) (by decide +kernel)) (goodIn_sub (fun _ h => List.mem_cons_of_mem _ (List.mem_append_right _ h)) (by decide +kernel))
set_option maxRecDepth 20000 in
theorem gL_alike_L_gameAt : GoodIn wsL_alike (va_wsS RL 152 yL_gameAt wsL_gameAt) := goodIn_app (goodIn_of _ (by decide +kernel)) ggL_alike_L_gameAt
set_option maxRecDepth 20000 in
theorem ggL_alike_L_box : GoodIn wsL_alike wsL_box := goodIn_ca (goodIn_r _ [97, 82, 83, 98, 99, 100, 4, 101, 102, 89, 90, 91, 92, 93, 94, 6, 28, 7, 8, 9, 10, 11, 12, 40, 41, 42, 43, 44, 45, 46, 47, 48, 49, 50, 51, 52, 53, 54, 55, 56, 377, 378, 379, 380, 381, 382, 383, 384, 365, 366, 367, 368, 369, 370, 371, 372, 373, 374, 375, 376] (by decide +kernel) (by decide +kernel)) (goodIn_sub (fun _ h => List.mem_cons_of_mem _ (List.mem_append_right _ h)) (by decide +kernel))
set_option maxRecDepth 20000 in
theorem gL_alike_L_box : GoodIn wsL_alike (va_wsS RL 178 yL_box wsL_box) := goodIn_app (goodIn_of _ (by decide +kernel)) ggL_alike_L_box
set_option maxRecDepth 20000 in
theorem ggL_alike_L_missing : GoodIn wsL_alike wsL_missing := goodIn_ca (goodIn_r _ [105, 82, 83, 106, 107, 108, 4, 109, 110, 89, 90, 91, 92, 93, 94, 6, 28, 7, 8, 9, 10, 11, 12, 40, 41, 42, 43, 44, 45, 46, 47, 48, 49, 50, 51, 52, 53, 54, 55, 56, 377, 378, 379, 380, 381, 382, 383, 384, 365, 366, 367, 368, 369, 370, 371, 372, 373, 374, 375, 376] (by decide +kernel) (by decide +kernel)) (goodIn_sub (fun _ h => List.mem_cons_of_mem _ (List.mem_append_right _ h)) (by decide +kernel))
set_option maxRecDepth 20000 in
theorem gL_alike_L_missing : GoodIn wsL_alike (va_wsS RL 180 yL_missing wsL_missing) := goodIn_app (goodIn_of _ (by decide +kernel)) ggL_alike_L_missing
set_option maxRecDepth 20000 in
theorem ggL_alike_L_high : GoodIn wsL_alike wsL_high := goodIn_ca (goodIn_ca (goodIn_r _ [113, 82, 22, 83, 23, 114, 115, 116, 4, 117, 17, 118, 119, 89, 90, 91, 92, 93, 94, 6, 28, 7, 8, 9, 10, 11, 12, 40, 41, 42, 43, 44, 45, 46, 47, 48, 49, 50, 51, 52, 53, 54, 55, 56, 120, 121, 122, 38, 39, 123, 124, 125, 126, 127, 128, 129, 130, 131, 132, 133, 134, 135, 136, 137, 138, 139, 140, 141, 142, 143, 144, 145, 146, 147, 148, 149, 150, 151, 152, 153, 154, 155, 156, 157, 158, 159, 160, 161, 162, 163, 164, 165, 166, 167, 168, 169, 170, 171, 172, 173, 174, 175, 176, 177, 178, 179, 180, 181, 182, 183, 184, 185, 186, 187, 188, 189, 190, 191, 192, 193, 194, 195, 196, 197, 198, 199, 200, 365, 366, 367, 368, 369, 370, 371, 372, 373, 374, 375, 376, 394, 395, 396, 397, 398, 399, 400, 401, 402, 403, 404, 405, 406, 407, 408, 409, 410] (by decide +kernel) (by decide +kernel)) (goodIn_sub (fun _ h => List.mem_cons_of_mem _ (List.mem_append_right _ h)) (by decide +kernel))) (goodIn_sub (fun _ h => List.mem_cons_of_mem _ (List.mem_append_left _ (List.mem_append_right _ h))) (by decide +kernel))
set_option maxRecDepth 20000 in
theorem gL_alike_L_high : GoodIn wsL_alike (va_wsS RL 174 yL_high wsL_high) := goodIn_app (goodIn_of _ (by decide +kernel)) ggL_alike_L_high
set_option maxRecDepth 20000 in
theorem ggL_alike_L_wear : GoodIn wsL_alike wsL_wear := goodIn_ca (goodIn_r _ [203, 82, 83, 204, 205, 206, 4, 207, 208, 89, 90, 91, 92, 93, 94, 6, 28, 7, 8, 9, 10, 11, 12, 40, 41, 42, 43, 44, 45, 46, 47, 48, 49, 50, 51, 52, 53, 54, 55, 56, 209, 210, 211, 212, 213, 385, 386, 387, 388, 389, 390, 391, 365, 366, 367, 368, 369, 370, 371, 372, 373, 374, 375, 376, 377, 378, 379, 380, 381, 382, 383, 384] (by decide +kernel) (by decide +kernel)) (goodIn_sub (fun _ h => List.mem_cons_of_mem _ (List.mem_append_right _ h)) (by decide +kernel))
set_option maxRecDepth 20000 in
theorem gL_alike_L_wear : GoodIn wsL_alike (va_wsS RL 144 yL_wear wsL_wear) := goodIn_app (goodIn_of _ (by decide +kernel)) ggL_alike_L_wear
set_option maxRecDepth 20000 in
theorem ggL_alike_L_sticks : GoodIn wsL_alike wsL_sticks := goodIn_ca (goodIn_r _ [216, 82, 83, 217, 218, 219, 4, 220, 221, 89, 90, 91, 92, 93, 94, 6, 28, 7, 8, 9, 10, 11, 12, 40, 41, 42, 43, 44, 45, 46, 47, 48, 49, 50, 51, 52, 53, 54, 55, 56, 209, 210, 211, 212, 213, 385, 386, 387, 388, 389, 390, 391, 365, 366, 367, 368, 369, 370, 371, 372, 373, 374, 375, 376, 377, 378, 379, 380, 381, 382, 383, 384] (by decide +kernel) (by decide +kernel)) (goodIn_sub (fun _ h => List.mem_cons_of_mem _ (List.mem_append_right _ h)) (by decide +kernel))
set_option maxRecDepth 20000 in
theorem gL_alike_L_sticks : GoodIn wsL_alike (va_wsS RL 142 yL_sticks wsL_sticks) := goodIn_app (goodIn_of _ (by decide +kernel)) ggL_alike_L_sticks
set_option maxRecDepth 20000 in
theorem ggL_alike_L_score : GoodIn wsL_alike wsL_score := goodIn_ca (goodIn_r _ [224, 82, 83, 225, 226, 227, 4, 228, 229, 141, 230, 231, 232, 233, 93, 94, 17, 119, 7, 8, 9, 10, 11, 12, 40, 41, 42, 43, 44, 45, 46, 47, 48, 49, 50, 51, 52, 53, 54, 55, 56, 394, 395, 396, 397, 398, 399, 400, 401, 402, 403, 365, 366, 367, 368, 369, 370, 371, 372, 373, 374, 375, 376] (by decide +kernel) (by decide +kernel)) (goodIn_sub (fun _ h => List.mem_cons_of_mem _ (List.mem_append_right _ h)) (by decide +kernel))
set_option maxRecDepth 20000 in
theorem gL_alike_L_score : GoodIn wsL_alike (va_wsS RL 159 yL_score wsL_score) := goodIn_app (goodIn_of _ (by decide +kernel)) ggL_alike_L_score
set_option maxRecDepth 20000 in
theorem ggL_alike_L_balls : GoodIn wsL_alike wsL_balls := goodIn_ca (goodIn_r _ [236, 82, 83, 237, 238, 239, 4, 240, 241, 230, 231, 232, 233, 93, 94, 17, 119, 7, 8, 9, 10, 11, 12, 40, 41, 42, 43, 44, 45, 46, 47, 48, 49, 50, 51, 52, 53, 54, 55, 56, 394, 395, 396, 397, 398, 399, 365, 366, 367, 368, 369, 370, 371, 372, 373, 374, 375, 376] (by decide +kernel) (by decide +kernel)) (goodIn_sub (fun _ h => List.mem_cons_of_mem _ (List.mem_append_right _ h)) (by decide +kernel))
set_option maxRecDepth 20000 in
theorem gL_alike_L_balls : GoodIn wsL_alike (va_wsS RL 154 yL_balls wsL_balls) := goodIn_app (goodIn_of _ (by decide +kernel)) ggL_alike_L_balls
set_option maxRecDepth 20000 in
theorem ggL_alike_L_stack : GoodIn wsL_alike wsL_stack := goodIn_ca (goodIn_r _ [244, 82, 83, 245, 246, 247, 4, 248, 229, 230, 231, 232, 233, 93, 94, 17, 119, 7, 8, 9, 10, 11, 12, 40, 41, 42, 43, 44, 45, 46, 47, 48, 49, 50, 51, 52, 53, 54, 55, 56, 249, 250, 251, 145, 252, 147, 171, 394, 395, 396, 397, 398, 399, 365, 366, 367, 368, 369, 370, 371, 372, 373, 374, 375, 376, 400, 401, 402, 403] (by decide +kernel) (by decide +kernel)) (goodIn_sub (fun _ h => List.mem_cons_of_mem _ (List.mem_append_right _ h)) (by decide +kernel))
set_option maxRecDepth 20000 in
theorem gL_alike_L_stack : GoodIn wsL_alike (va_wsS RL 157 yL_stack wsL_stack) := goodIn_app (goodIn_of _ (by decide +kernel)) ggL_alike_L_stack
set_option maxRecDepth 20000 in
theorem ggL_alike_L_logged : GoodIn wsL_alike wsL_logged := goodIn_ca (goodIn_r _ [255, 82, 83, 256, 257, 258, 4, 259, 139, 230, 231, 232, 233, 93, 94, 17, 119, 7, 8, 9, 10, 11, 12, 40, 41, 42, 43, 44, 45, 46, 47, 48, 49, 50, 51, 52, 53, 54, 55, 56, 394, 395, 396, 397, 398, 399, 365, 366, 367, 368, 369, 370, 371, 372, 373, 374, 375, 376] (by decide +kernel) (by decide +kernel)) (goodIn_sub (fun _ h => List.mem_cons_of_mem _ (List.mem_append_right _ h)) (by decide +kernel))
set_option maxRecDepth 20000 in
theorem gL_alike_L_logged : GoodIn wsL_alike (va_wsS RL 166 yL_logged wsL_logged) := goodIn_app (goodIn_of _ (by decide +kernel)) ggL_alike_L_logged
set_option maxRecDepth 20000 in
theorem ggL_alike_L_entry : GoodIn wsL_alike wsL_entry := goodIn_ca (goodIn_r _ [262, 82, 263, 264, 265, 266, 4, 267, 139, 230, 231, 232, 233, 93, 94, 17, 119, 7, 8, 9, 10, 11, 12, 40, 41, 42, 43, 44, 45, 46, 47, 48, 49, 50, 51, 52, 53, 54, 55, 56, 268, 269, 270, 149, 150, 151, 131, 152, 153, 394, 395, 396, 397, 398, 399, 365, 366, 367, 368, 369, 370, 371, 372, 373, 374, 375, 376] (by decide +kernel) (by decide +kernel)) (goodIn_sub (fun _ h => List.mem_cons_of_mem _ (List.mem_append_right _ h)) (by decide +kernel))
set_option maxRecDepth 20000 in
theorem gL_alike_L_entry : GoodIn wsL_alike (va_wsS RL 168 yL_entry wsL_entry) := goodIn_app (goodIn_of _ (by decide +kernel)) ggL_alike_L_entry
set_option maxRecDepth 20000 in
theorem ggL_alike_L_valid : GoodIn wsL_alike wsL_valid := goodIn_ca (goodIn_r _ [273, 82, 83, 274, 275, 276, 4, 277, 230, 231, 232, 233, 93, 94, 17, 119, 7, 8, 9, 10, 11, 12, 40, 41, 42, 43, 44, 45, 46, 47, 48, 49, 50, 51, 52, 53, 54, 55, 56, 134, 135, 136, 137, 138, 139, 140, 141, 142, 143, 144, 145, 146, 147, 148, 149, 150, 151, 131, 152, 153, 154, 155, 156, 157, 158, 159, 160, 161, 162, 163, 164, 165, 166, 167, 168, 169, 170, 171, 172, 173, 174, 175, 176, 177, 178, 179, 180, 181, 182, 183, 184, 185, 186, 187, 188, 189, 190, 191, 192, 193, 194, 195, 196, 365, 366, 367, 368, 369, 370, 371, 372, 373, 374, 375, 376, 394, 395, 396, 397, 398, 399, 400, 401, 402, 403, 404, 405, 406, 407, 408, 409, 410] (by decide +kernel) (by decide +kernel)) (goodIn_sub (fun _ h => List.mem_cons_of_mem _ (List.mem_append_right _ h)) (by decide +kernel))
set_option maxRecDepth 20000 in
theorem gL_alike_L_valid : GoodIn wsL_alike (va_wsS RL 164 yL_valid wsL_valid) := goodIn_app (goodIn_of _ (by decide +kernel)) ggL_alike_L_valid
set_option maxRecDepth 20000 in
theorem ggL_alike_L_vanAt : GoodIn wsL_alike wsL_vanAt := goodIn_ca (goodIn_r _ [280, 82, 83, 281, 282, 283, 4, 284, 285, 286, 287, 288, 289, 93, 94, 29, 30, 392, 393, 365, 366, 367, 368, 369, 370, 371, 372, 373] (by decide +kernel) (by decide +kernel)) (goodIn_sub (fun _ h => List.mem_cons_of_mem _ (List.mem_append_right _ h)) (by decide +kernel))
set_option maxRecDepth 20000 in
theorem gL_alike_L_vanAt : GoodIn wsL_alike (va_wsS RL 194 yL_vanAt wsL_vanAt) := goodIn_app (goodIn_of _ (by decide +kernel)) ggL_alike_L_vanAt
set_option maxRecDepth 20000 in
theorem ggL_alike_L_parts : GoodIn wsL_alike wsL_parts := goodIn_ca (goodIn_ca (goodIn_r _ [292, 82, 22, 83, 23, 293, 294, 295, 4, 296, 286, 287, 288, 289, 93, 94, 29, 30, 35, 36, 37, 38, 39, 73, 74, 75, 76, 77, 78, 365, 366, 367, 368, 369, 370, 371, 372, 373, 392, 393] (by decide +kernel) (by decide +kernel)) (goodIn_sub (fun _ h => List.mem_cons_of_mem _ (List.mem_append_right _ h)) (by decide +kernel))) (goodIn_sub (fun _ h => List.mem_cons_of_mem _ (List.mem_append_left _ (List.mem_append_right _ h))) (by decide +kernel))
set_option maxRecDepth 20000 in
theorem gL_alike_L_parts : GoodIn wsL_alike (va_wsS RL 184 yL_parts wsL_parts) := goodIn_app (goodIn_of _ (by decide +kernel)) ggL_alike_L_parts
set_option maxRecDepth 20000 in
theorem ggL_alike_L_way : GoodIn wsL_alike wsL_way := goodIn_ca (goodIn_r _ [299, 82, 83, 300, 301, 302, 4, 303, 304, 6, 285, 305, 286, 287, 288, 289, 93, 94, 29, 30, 306, 307, 308, 309, 310, 311, 312, 313, 314, 315, 316, 317, 318, 319, 320, 321, 8, 9, 10, 11, 12, 322, 41, 42, 43, 44, 45, 46, 47, 48, 49, 50, 51, 52, 53, 54, 55, 56, 323, 324, 325, 60, 326, 327, 328, 329, 58, 59, 61, 62, 63, 64, 65, 66, 67, 68, 69, 70, 71, 72, 330, 331, 332, 333, 334, 335, 33, 336, 337, 338, 339, 340, 341, 342, 343, 344, 345, 346, 347, 348, 349, 350, 351, 352, 365, 366, 367, 368, 369, 370, 371, 372, 373, 392, 393, 411, 412, 413, 414, 415, 377, 378, 379, 380, 381, 382, 383, 384, 374, 375, 376, 385, 386, 387, 388, 389, 390, 391] (by decide +kernel) (by decide +kernel)) (goodIn_sub (fun _ h => List.mem_cons_of_mem _ (List.mem_append_right _ h)) (by decide +kernel))
set_option maxRecDepth 20000 in
theorem gL_alike_L_way : GoodIn wsL_alike (va_wsS RL 188 yL_way wsL_way) := goodIn_app (goodIn_of _ (by decide +kernel)) ggL_alike_L_way
set_option maxRecDepth 20000 in
theorem ggL_alike_L_planned : GoodIn wsL_alike wsL_planned := goodIn_ca (goodIn_r _ [355, 82, 83, 356, 357, 358, 4, 359, 304, 6, 285, 360, 286, 287, 288, 289, 93, 94, 29, 30, 306, 307, 308, 309, 310, 311, 312, 313, 314, 315, 316, 317, 318, 319, 320, 321, 8, 9, 10, 11, 12, 322, 41, 42, 43, 44, 45, 46, 47, 48, 49, 50, 51, 52, 53, 54, 55, 56, 323, 324, 325, 60, 326, 327, 328, 329, 58, 59, 61, 62, 63, 64, 65, 66, 67, 68, 69, 70, 71, 72, 330, 331, 332, 333, 334, 335, 33, 336, 337, 338, 339, 340, 341, 342, 343, 344, 345, 346, 347, 348, 349, 350, 351, 352, 268, 269, 270, 361, 362, 363, 364, 365, 366, 367, 368, 369, 370, 371, 372, 373, 392, 393, 411, 412, 413, 414, 415, 377, 378, 379, 380, 381, 382, 383, 384, 374, 375, 376, 385, 386, 387, 388, 389, 390, 391] (by decide +kernel) (by decide +kernel)) (goodIn_sub (fun _ h => List.mem_cons_of_mem _ (List.mem_append_right _ h)) (by decide +kernel))
set_option maxRecDepth 20000 in
theorem gL_alike_L_planned : GoodIn wsL_alike (va_wsS RL 190 yL_planned wsL_planned) := goodIn_app (goodIn_of _ (by decide +kernel)) ggL_alike_L_planned
theorem dL_alike_0 : decode cL_alike 0 = .ok (.aload_n 0, 1) := by decide +kernel
theorem dL_alike_1 : decode cL_alike 1 = .ok (.invokevirtual 117, 3) := by decide +kernel
theorem dL_alike_4 : decode cL_alike 4 = .ok (.aload_n 1, 1) := by decide +kernel
theorem dL_alike_5 : decode cL_alike 5 = .ok (.invokevirtual 117, 3) := by decide +kernel
theorem dL_alike_8 : decode cL_alike 8 = .ok (.if_icmp .ne 44, 3) := by decide +kernel
theorem dL_alike_11 : decode cL_alike 11 = .ok (.aload_n 0, 1) := by decide +kernel
theorem dL_alike_12 : decode cL_alike 12 = .ok (.invokevirtual 121, 3) := by decide +kernel
theorem dL_alike_15 : decode cL_alike 15 = .ok (.aload_n 1, 1) := by decide +kernel
theorem dL_alike_16 : decode cL_alike 16 = .ok (.invokevirtual 121, 3) := by decide +kernel
theorem dL_alike_19 : decode cL_alike 19 = .ok (.if_icmp .ne 33, 3) := by decide +kernel
theorem dL_alike_22 : decode cL_alike 22 = .ok (.aload_n 0, 1) := by decide +kernel
theorem dL_alike_23 : decode cL_alike 23 = .ok (.iconst 0, 1) := by decide +kernel
theorem dL_alike_24 : decode cL_alike 24 = .ok (.invokestatic 186, 3) := by decide +kernel
theorem dL_alike_27 : decode cL_alike 27 = .ok (.aload_n 1, 1) := by decide +kernel
theorem dL_alike_28 : decode cL_alike 28 = .ok (.iconst 0, 1) := by decide +kernel
theorem dL_alike_29 : decode cL_alike 29 = .ok (.invokestatic 186, 3) := by decide +kernel
theorem dL_alike_32 : decode cL_alike 32 = .ok (.if_icmp .ne 20, 3) := by decide +kernel
theorem dL_alike_35 : decode cL_alike 35 = .ok (.aload_n 0, 1) := by decide +kernel
theorem dL_alike_36 : decode cL_alike 36 = .ok (.iconst 1, 1) := by decide +kernel
theorem dL_alike_37 : decode cL_alike 37 = .ok (.invokestatic 186, 3) := by decide +kernel
theorem dL_alike_40 : decode cL_alike 40 = .ok (.aload_n 1, 1) := by decide +kernel
theorem dL_alike_41 : decode cL_alike 41 = .ok (.iconst 1, 1) := by decide +kernel
theorem dL_alike_42 : decode cL_alike 42 = .ok (.invokestatic 186, 3) := by decide +kernel
theorem dL_alike_45 : decode cL_alike 45 = .ok (.if_icmp .ne 7, 3) := by decide +kernel
theorem dL_alike_48 : decode cL_alike 48 = .ok (.iconst 1, 1) := by decide +kernel
theorem dL_alike_49 : decode cL_alike 49 = .ok (.goto 4, 3) := by decide +kernel
theorem dL_alike_52 : decode cL_alike 52 = .ok (.iconst 0, 1) := by decide +kernel
theorem dL_alike_53 : decode cL_alike 53 = .ok (.istore 4, 2) := by decide +kernel
theorem dL_alike_55 : decode cL_alike 55 = .ok (.iconst 0, 1) := by decide +kernel
theorem dL_alike_56 : decode cL_alike 56 = .ok (.istore 5, 2) := by decide +kernel
theorem dL_alike_58 : decode cL_alike 58 = .ok (.iload 5, 2) := by decide +kernel
theorem dL_alike_60 : decode cL_alike 60 = .ok (.aload_n 0, 1) := by decide +kernel
theorem dL_alike_61 : decode cL_alike 61 = .ok (.invokevirtual 117, 3) := by decide +kernel
theorem dL_alike_64 : decode cL_alike 64 = .ok (.if_icmp .ge 155, 3) := by decide +kernel
theorem dL_alike_67 : decode cL_alike 67 = .ok (.iload 4, 2) := by decide +kernel
theorem dL_alike_69 : decode cL_alike 69 = .ok (.ifCond .eq 150, 3) := by decide +kernel
theorem dL_alike_72 : decode cL_alike 72 = .ok (.aload_n 0, 1) := by decide +kernel
theorem dL_alike_73 : decode cL_alike 73 = .ok (.iload 5, 2) := by decide +kernel
theorem dL_alike_75 : decode cL_alike 75 = .ok (.invokestatic 152, 3) := by decide +kernel
theorem dL_alike_78 : decode cL_alike 78 = .ok (.aload_n 1, 1) := by decide +kernel
theorem dL_alike_79 : decode cL_alike 79 = .ok (.iload 5, 2) := by decide +kernel
theorem dL_alike_81 : decode cL_alike 81 = .ok (.invokestatic 152, 3) := by decide +kernel
theorem dL_alike_84 : decode cL_alike 84 = .ok (.if_icmp .ne 58, 3) := by decide +kernel
theorem dL_alike_87 : decode cL_alike 87 = .ok (.aload_n 0, 1) := by decide +kernel
theorem dL_alike_88 : decode cL_alike 88 = .ok (.iload 5, 2) := by decide +kernel
theorem dL_alike_90 : decode cL_alike 90 = .ok (.invokestatic 178, 3) := by decide +kernel
theorem dL_alike_93 : decode cL_alike 93 = .ok (.aload_n 1, 1) := by decide +kernel
theorem dL_alike_94 : decode cL_alike 94 = .ok (.iload 5, 2) := by decide +kernel
theorem dL_alike_96 : decode cL_alike 96 = .ok (.invokestatic 178, 3) := by decide +kernel
theorem dL_alike_99 : decode cL_alike 99 = .ok (.if_icmp .ne 43, 3) := by decide +kernel
theorem dL_alike_102 : decode cL_alike 102 = .ok (.aload_n 0, 1) := by decide +kernel
theorem dL_alike_103 : decode cL_alike 103 = .ok (.iload 5, 2) := by decide +kernel
theorem dL_alike_105 : decode cL_alike 105 = .ok (.invokestatic 180, 3) := by decide +kernel
theorem dL_alike_108 : decode cL_alike 108 = .ok (.aload_n 1, 1) := by decide +kernel
theorem dL_alike_109 : decode cL_alike 109 = .ok (.iload 5, 2) := by decide +kernel
theorem dL_alike_111 : decode cL_alike 111 = .ok (.invokestatic 180, 3) := by decide +kernel
theorem dL_alike_114 : decode cL_alike 114 = .ok (.if_icmp .ne 28, 3) := by decide +kernel
theorem dL_alike_117 : decode cL_alike 117 = .ok (.aload_n 0, 1) := by decide +kernel
theorem dL_alike_118 : decode cL_alike 118 = .ok (.iload 5, 2) := by decide +kernel
theorem dL_alike_120 : decode cL_alike 120 = .ok (.iload_n 3, 1) := by decide +kernel
theorem dL_alike_121 : decode cL_alike 121 = .ok (.iconst 3, 1) := by decide +kernel
theorem dL_alike_122 : decode cL_alike 122 = .ok (.irem, 1) := by decide +kernel
theorem dL_alike_123 : decode cL_alike 123 = .ok (.invokestatic 174, 3) := by decide +kernel
theorem dL_alike_126 : decode cL_alike 126 = .ok (.aload_n 1, 1) := by decide +kernel
theorem dL_alike_127 : decode cL_alike 127 = .ok (.iload 5, 2) := by decide +kernel
theorem dL_alike_129 : decode cL_alike 129 = .ok (.iload_n 3, 1) := by decide +kernel
theorem dL_alike_130 : decode cL_alike 130 = .ok (.iconst 3, 1) := by decide +kernel
theorem dL_alike_131 : decode cL_alike 131 = .ok (.irem, 1) := by decide +kernel
theorem dL_alike_132 : decode cL_alike 132 = .ok (.invokestatic 174, 3) := by decide +kernel
theorem dL_alike_135 : decode cL_alike 135 = .ok (.if_icmp .ne 7, 3) := by decide +kernel
theorem dL_alike_138 : decode cL_alike 138 = .ok (.iconst 1, 1) := by decide +kernel
theorem dL_alike_139 : decode cL_alike 139 = .ok (.goto 4, 3) := by decide +kernel
theorem dL_alike_142 : decode cL_alike 142 = .ok (.iconst 0, 1) := by decide +kernel
theorem dL_alike_143 : decode cL_alike 143 = .ok (.istore 4, 2) := by decide +kernel
theorem dL_alike_145 : decode cL_alike 145 = .ok (.iconst 0, 1) := by decide +kernel
theorem dL_alike_146 : decode cL_alike 146 = .ok (.istore 6, 2) := by decide +kernel
theorem dL_alike_148 : decode cL_alike 148 = .ok (.iload 6, 2) := by decide +kernel
theorem dL_alike_150 : decode cL_alike 150 = .ok (.aload_n 2, 1) := by decide +kernel
theorem dL_alike_151 : decode cL_alike 151 = .ok (.iload 5, 2) := by decide +kernel
theorem dL_alike_153 : decode cL_alike 153 = .ok (.iaload, 1) := by decide +kernel
theorem dL_alike_154 : decode cL_alike 154 = .ok (.if_icmp .ge 59, 3) := by decide +kernel
theorem dL_alike_157 : decode cL_alike 157 = .ok (.iload 4, 2) := by decide +kernel
theorem dL_alike_159 : decode cL_alike 159 = .ok (.ifCond .eq 54, 3) := by decide +kernel
theorem dL_alike_162 : decode cL_alike 162 = .ok (.aload_n 0, 1) := by decide +kernel
theorem dL_alike_163 : decode cL_alike 163 = .ok (.iload 5, 2) := by decide +kernel
theorem dL_alike_165 : decode cL_alike 165 = .ok (.iload 6, 2) := by decide +kernel
theorem dL_alike_167 : decode cL_alike 167 = .ok (.invokestatic 144, 3) := by decide +kernel
theorem dL_alike_170 : decode cL_alike 170 = .ok (.aload_n 1, 1) := by decide +kernel
theorem dL_alike_171 : decode cL_alike 171 = .ok (.iload 5, 2) := by decide +kernel
theorem dL_alike_173 : decode cL_alike 173 = .ok (.iload 6, 2) := by decide +kernel
theorem dL_alike_175 : decode cL_alike 175 = .ok (.invokestatic 144, 3) := by decide +kernel
theorem dL_alike_178 : decode cL_alike 178 = .ok (.if_icmp .ne 26, 3) := by decide +kernel
theorem dL_alike_181 : decode cL_alike 181 = .ok (.aload_n 0, 1) := by decide +kernel
theorem dL_alike_182 : decode cL_alike 182 = .ok (.iload 5, 2) := by decide +kernel
theorem dL_alike_184 : decode cL_alike 184 = .ok (.iload 6, 2) := by decide +kernel
theorem dL_alike_186 : decode cL_alike 186 = .ok (.invokestatic 142, 3) := by decide +kernel
theorem dL_alike_189 : decode cL_alike 189 = .ok (.aload_n 1, 1) := by decide +kernel
theorem dL_alike_190 : decode cL_alike 190 = .ok (.iload 5, 2) := by decide +kernel
theorem dL_alike_192 : decode cL_alike 192 = .ok (.iload 6, 2) := by decide +kernel
theorem dL_alike_194 : decode cL_alike 194 = .ok (.invokestatic 142, 3) := by decide +kernel
theorem dL_alike_197 : decode cL_alike 197 = .ok (.if_icmp .ne 7, 3) := by decide +kernel
theorem dL_alike_200 : decode cL_alike 200 = .ok (.iconst 1, 1) := by decide +kernel
theorem dL_alike_201 : decode cL_alike 201 = .ok (.goto 4, 3) := by decide +kernel
theorem dL_alike_204 : decode cL_alike 204 = .ok (.iconst 0, 1) := by decide +kernel
theorem dL_alike_205 : decode cL_alike 205 = .ok (.istore 4, 2) := by decide +kernel
theorem dL_alike_207 : decode cL_alike 207 = .ok (.iinc 6 1, 3) := by decide +kernel
theorem dL_alike_210 : decode cL_alike 210 = .ok (.goto (-62), 3) := by decide +kernel
theorem dL_alike_213 : decode cL_alike 213 = .ok (.iinc 5 1, 3) := by decide +kernel
theorem dL_alike_216 : decode cL_alike 216 = .ok (.goto (-158), 3) := by decide +kernel
theorem dL_alike_219 : decode cL_alike 219 = .ok (.iconst 0, 1) := by decide +kernel
theorem dL_alike_220 : decode cL_alike 220 = .ok (.istore 5, 2) := by decide +kernel
theorem dL_alike_222 : decode cL_alike 222 = .ok (.iload 5, 2) := by decide +kernel
theorem dL_alike_224 : decode cL_alike 224 = .ok (.aload_n 0, 1) := by decide +kernel
theorem dL_alike_225 : decode cL_alike 225 = .ok (.invokevirtual 121, 3) := by decide +kernel
theorem dL_alike_228 : decode cL_alike 228 = .ok (.if_icmp .ge 130, 3) := by decide +kernel
theorem dL_alike_231 : decode cL_alike 231 = .ok (.iload 4, 2) := by decide +kernel
theorem dL_alike_233 : decode cL_alike 233 = .ok (.ifCond .eq 125, 3) := by decide +kernel
theorem dL_alike_236 : decode cL_alike 236 = .ok (.aload_n 0, 1) := by decide +kernel
theorem dL_alike_237 : decode cL_alike 237 = .ok (.iload 5, 2) := by decide +kernel
theorem dL_alike_239 : decode cL_alike 239 = .ok (.invokestatic 159, 3) := by decide +kernel
theorem dL_alike_242 : decode cL_alike 242 = .ok (.aload_n 1, 1) := by decide +kernel
theorem dL_alike_243 : decode cL_alike 243 = .ok (.iload 5, 2) := by decide +kernel
theorem dL_alike_245 : decode cL_alike 245 = .ok (.invokestatic 159, 3) := by decide +kernel
theorem dL_alike_248 : decode cL_alike 248 = .ok (.if_icmp .ne 101, 3) := by decide +kernel
theorem dL_alike_251 : decode cL_alike 251 = .ok (.aload_n 0, 1) := by decide +kernel
theorem dL_alike_252 : decode cL_alike 252 = .ok (.iload 5, 2) := by decide +kernel
theorem dL_alike_254 : decode cL_alike 254 = .ok (.invokestatic 154, 3) := by decide +kernel
theorem dL_alike_257 : decode cL_alike 257 = .ok (.aload_n 1, 1) := by decide +kernel
theorem dL_alike_258 : decode cL_alike 258 = .ok (.iload 5, 2) := by decide +kernel
theorem dL_alike_260 : decode cL_alike 260 = .ok (.invokestatic 154, 3) := by decide +kernel
theorem dL_alike_263 : decode cL_alike 263 = .ok (.if_icmp .ne 86, 3) := by decide +kernel
theorem dL_alike_266 : decode cL_alike 266 = .ok (.aload_n 0, 1) := by decide +kernel
theorem dL_alike_267 : decode cL_alike 267 = .ok (.iload 5, 2) := by decide +kernel
theorem dL_alike_269 : decode cL_alike 269 = .ok (.invokestatic 157, 3) := by decide +kernel
theorem dL_alike_272 : decode cL_alike 272 = .ok (.aload_n 1, 1) := by decide +kernel
theorem dL_alike_273 : decode cL_alike 273 = .ok (.iload 5, 2) := by decide +kernel
theorem dL_alike_275 : decode cL_alike 275 = .ok (.invokestatic 157, 3) := by decide +kernel
theorem dL_alike_278 : decode cL_alike 278 = .ok (.if_icmp .ne 71, 3) := by decide +kernel
theorem dL_alike_281 : decode cL_alike 281 = .ok (.iload 5, 2) := by decide +kernel
theorem dL_alike_283 : decode cL_alike 283 = .ok (.iconst 4, 1) := by decide +kernel
theorem dL_alike_284 : decode cL_alike 284 = .ok (.irem, 1) := by decide +kernel
theorem dL_alike_285 : decode cL_alike 285 = .ok (.iload_n 3, 1) := by decide +kernel
theorem dL_alike_286 : decode cL_alike 286 = .ok (.iconst 4, 1) := by decide +kernel
theorem dL_alike_287 : decode cL_alike 287 = .ok (.irem, 1) := by decide +kernel
theorem dL_alike_288 : decode cL_alike 288 = .ok (.if_icmp .ne 57, 3) := by decide +kernel
theorem dL_alike_291 : decode cL_alike 291 = .ok (.aload_n 0, 1) := by decide +kernel
theorem dL_alike_292 : decode cL_alike 292 = .ok (.iload 5, 2) := by decide +kernel
theorem dL_alike_294 : decode cL_alike 294 = .ok (.invokestatic 166, 3) := by decide +kernel
theorem dL_alike_297 : decode cL_alike 297 = .ok (.aload_n 1, 1) := by decide +kernel
theorem dL_alike_298 : decode cL_alike 298 = .ok (.iload 5, 2) := by decide +kernel
theorem dL_alike_300 : decode cL_alike 300 = .ok (.invokestatic 166, 3) := by decide +kernel
theorem dL_alike_303 : decode cL_alike 303 = .ok (.if_icmp .ne 46, 3) := by decide +kernel
theorem dL_alike_306 : decode cL_alike 306 = .ok (.aload_n 0, 1) := by decide +kernel
theorem dL_alike_307 : decode cL_alike 307 = .ok (.iload 5, 2) := by decide +kernel
theorem dL_alike_309 : decode cL_alike 309 = .ok (.iload_n 3, 1) := by decide +kernel
theorem dL_alike_310 : decode cL_alike 310 = .ok (.bipush 50, 2) := by decide +kernel
theorem dL_alike_312 : decode cL_alike 312 = .ok (.irem, 1) := by decide +kernel
theorem dL_alike_313 : decode cL_alike 313 = .ok (.invokestatic 168, 3) := by decide +kernel
theorem dL_alike_316 : decode cL_alike 316 = .ok (.aload_n 1, 1) := by decide +kernel
theorem dL_alike_317 : decode cL_alike 317 = .ok (.iload 5, 2) := by decide +kernel
theorem dL_alike_319 : decode cL_alike 319 = .ok (.iload_n 3, 1) := by decide +kernel
theorem dL_alike_320 : decode cL_alike 320 = .ok (.bipush 50, 2) := by decide +kernel
theorem dL_alike_322 : decode cL_alike 322 = .ok (.irem, 1) := by decide +kernel
theorem dL_alike_323 : decode cL_alike 323 = .ok (.invokestatic 168, 3) := by decide +kernel
theorem dL_alike_326 : decode cL_alike 326 = .ok (.lcmp, 1) := by decide +kernel
theorem dL_alike_327 : decode cL_alike 327 = .ok (.ifCond .ne 22, 3) := by decide +kernel
theorem dL_alike_330 : decode cL_alike 330 = .ok (.aload_n 0, 1) := by decide +kernel
theorem dL_alike_331 : decode cL_alike 331 = .ok (.iload 5, 2) := by decide +kernel
theorem dL_alike_333 : decode cL_alike 333 = .ok (.invokestatic 164, 3) := by decide +kernel
theorem dL_alike_336 : decode cL_alike 336 = .ok (.aload_n 1, 1) := by decide +kernel
theorem dL_alike_337 : decode cL_alike 337 = .ok (.iload 5, 2) := by decide +kernel
theorem dL_alike_339 : decode cL_alike 339 = .ok (.invokestatic 164, 3) := by decide +kernel
theorem dL_alike_342 : decode cL_alike 342 = .ok (.if_icmp .ne 7, 3) := by decide +kernel
theorem dL_alike_345 : decode cL_alike 345 = .ok (.iconst 1, 1) := by decide +kernel
theorem dL_alike_346 : decode cL_alike 346 = .ok (.goto 4, 3) := by decide +kernel
theorem dL_alike_349 : decode cL_alike 349 = .ok (.iconst 0, 1) := by decide +kernel
theorem dL_alike_350 : decode cL_alike 350 = .ok (.istore 4, 2) := by decide +kernel
theorem dL_alike_352 : decode cL_alike 352 = .ok (.iinc 5 1, 3) := by decide +kernel
theorem dL_alike_355 : decode cL_alike 355 = .ok (.goto (-133), 3) := by decide +kernel
theorem dL_alike_358 : decode cL_alike 358 = .ok (.iconst 0, 1) := by decide +kernel
theorem dL_alike_359 : decode cL_alike 359 = .ok (.istore 5, 2) := by decide +kernel
theorem dL_alike_361 : decode cL_alike 361 = .ok (.iload 5, 2) := by decide +kernel
theorem dL_alike_363 : decode cL_alike 363 = .ok (.iconst 2, 1) := by decide +kernel
theorem dL_alike_364 : decode cL_alike 364 = .ok (.if_icmp .ge 106, 3) := by decide +kernel
theorem dL_alike_367 : decode cL_alike 367 = .ok (.iload 4, 2) := by decide +kernel
theorem dL_alike_369 : decode cL_alike 369 = .ok (.ifCond .eq 101, 3) := by decide +kernel
theorem dL_alike_372 : decode cL_alike 372 = .ok (.aload_n 0, 1) := by decide +kernel
theorem dL_alike_373 : decode cL_alike 373 = .ok (.iload 5, 2) := by decide +kernel
theorem dL_alike_375 : decode cL_alike 375 = .ok (.invokestatic 194, 3) := by decide +kernel
theorem dL_alike_378 : decode cL_alike 378 = .ok (.aload_n 1, 1) := by decide +kernel
theorem dL_alike_379 : decode cL_alike 379 = .ok (.iload 5, 2) := by decide +kernel
theorem dL_alike_381 : decode cL_alike 381 = .ok (.invokestatic 194, 3) := by decide +kernel
theorem dL_alike_384 : decode cL_alike 384 = .ok (.if_icmp .ne 77, 3) := by decide +kernel
theorem dL_alike_387 : decode cL_alike 387 = .ok (.aload_n 0, 1) := by decide +kernel
theorem dL_alike_388 : decode cL_alike 388 = .ok (.iload 5, 2) := by decide +kernel
theorem dL_alike_390 : decode cL_alike 390 = .ok (.iconst 0, 1) := by decide +kernel
theorem dL_alike_391 : decode cL_alike 391 = .ok (.invokestatic 184, 3) := by decide +kernel
theorem dL_alike_394 : decode cL_alike 394 = .ok (.aload_n 1, 1) := by decide +kernel
theorem dL_alike_395 : decode cL_alike 395 = .ok (.iload 5, 2) := by decide +kernel
theorem dL_alike_397 : decode cL_alike 397 = .ok (.iconst 0, 1) := by decide +kernel
theorem dL_alike_398 : decode cL_alike 398 = .ok (.invokestatic 184, 3) := by decide +kernel
theorem dL_alike_401 : decode cL_alike 401 = .ok (.if_icmp .ne 60, 3) := by decide +kernel
theorem dL_alike_404 : decode cL_alike 404 = .ok (.aload_n 0, 1) := by decide +kernel
theorem dL_alike_405 : decode cL_alike 405 = .ok (.iload 5, 2) := by decide +kernel
theorem dL_alike_407 : decode cL_alike 407 = .ok (.iconst 1, 1) := by decide +kernel
theorem dL_alike_408 : decode cL_alike 408 = .ok (.invokestatic 184, 3) := by decide +kernel
theorem dL_alike_411 : decode cL_alike 411 = .ok (.aload_n 1, 1) := by decide +kernel
theorem dL_alike_412 : decode cL_alike 412 = .ok (.iload 5, 2) := by decide +kernel
theorem dL_alike_414 : decode cL_alike 414 = .ok (.iconst 1, 1) := by decide +kernel
theorem dL_alike_415 : decode cL_alike 415 = .ok (.invokestatic 184, 3) := by decide +kernel
theorem dL_alike_418 : decode cL_alike 418 = .ok (.if_icmp .ne 43, 3) := by decide +kernel
theorem dL_alike_421 : decode cL_alike 421 = .ok (.aload_n 0, 1) := by decide +kernel
theorem dL_alike_422 : decode cL_alike 422 = .ok (.iload 5, 2) := by decide +kernel
theorem dL_alike_424 : decode cL_alike 424 = .ok (.invokestatic 188, 3) := by decide +kernel
theorem dL_alike_427 : decode cL_alike 427 = .ok (.aload_n 1, 1) := by decide +kernel
theorem dL_alike_428 : decode cL_alike 428 = .ok (.iload 5, 2) := by decide +kernel
theorem dL_alike_430 : decode cL_alike 430 = .ok (.invokestatic 188, 3) := by decide +kernel
theorem dL_alike_433 : decode cL_alike 433 = .ok (.if_icmp .ne 28, 3) := by decide +kernel
theorem dL_alike_436 : decode cL_alike 436 = .ok (.aload_n 0, 1) := by decide +kernel
theorem dL_alike_437 : decode cL_alike 437 = .ok (.iload 5, 2) := by decide +kernel
theorem dL_alike_439 : decode cL_alike 439 = .ok (.iload_n 3, 1) := by decide +kernel
theorem dL_alike_440 : decode cL_alike 440 = .ok (.iconst 3, 1) := by decide +kernel
theorem dL_alike_441 : decode cL_alike 441 = .ok (.irem, 1) := by decide +kernel
theorem dL_alike_442 : decode cL_alike 442 = .ok (.invokestatic 190, 3) := by decide +kernel
theorem dL_alike_445 : decode cL_alike 445 = .ok (.aload_n 1, 1) := by decide +kernel
theorem dL_alike_446 : decode cL_alike 446 = .ok (.iload 5, 2) := by decide +kernel
theorem dL_alike_448 : decode cL_alike 448 = .ok (.iload_n 3, 1) := by decide +kernel
theorem dL_alike_449 : decode cL_alike 449 = .ok (.iconst 3, 1) := by decide +kernel
theorem dL_alike_450 : decode cL_alike 450 = .ok (.irem, 1) := by decide +kernel
theorem dL_alike_451 : decode cL_alike 451 = .ok (.invokestatic 190, 3) := by decide +kernel
theorem dL_alike_454 : decode cL_alike 454 = .ok (.if_icmp .ne 7, 3) := by decide +kernel
theorem dL_alike_457 : decode cL_alike 457 = .ok (.iconst 1, 1) := by decide +kernel
theorem dL_alike_458 : decode cL_alike 458 = .ok (.goto 4, 3) := by decide +kernel
theorem dL_alike_461 : decode cL_alike 461 = .ok (.iconst 0, 1) := by decide +kernel
theorem dL_alike_462 : decode cL_alike 462 = .ok (.istore 4, 2) := by decide +kernel
theorem dL_alike_464 : decode cL_alike 464 = .ok (.iinc 5 1, 3) := by decide +kernel
theorem dL_alike_467 : decode cL_alike 467 = .ok (.goto (-106), 3) := by decide +kernel
theorem dL_alike_470 : decode cL_alike 470 = .ok (.iload 4, 2) := by decide +kernel
theorem dL_alike_472 : decode cL_alike 472 = .ok (.ireturn, 1) := by decide +kernel
theorem dL_far_0 : decode cL_far 0 = .ok (.iload_n 0, 1) := by decide +kernel
theorem dL_far_1 : decode cL_far 1 = .ok (.iload_n 1, 1) := by decide +kernel
theorem dL_far_2 : decode cL_far 2 = .ok (.if_icmp .ge 9, 3) := by decide +kernel
theorem dL_far_5 : decode cL_far 5 = .ok (.iload_n 1, 1) := by decide +kernel
theorem dL_far_6 : decode cL_far 6 = .ok (.iload_n 0, 1) := by decide +kernel
theorem dL_far_7 : decode cL_far 7 = .ok (.isub, 1) := by decide +kernel
theorem dL_far_8 : decode cL_far 8 = .ok (.goto 6, 3) := by decide +kernel
theorem dL_far_11 : decode cL_far 11 = .ok (.iload_n 0, 1) := by decide +kernel
theorem dL_far_12 : decode cL_far 12 = .ok (.iload_n 1, 1) := by decide +kernel
theorem dL_far_13 : decode cL_far 13 = .ok (.isub, 1) := by decide +kernel
theorem dL_far_14 : decode cL_far 14 = .ok (.ireturn, 1) := by decide +kernel
set_option maxRecDepth 20000 in
theorem ggL_plans_L_vanAt : GoodIn wsL_plans wsL_vanAt := goodIn_ca (goodIn_r _ [4, 5, 6, 7, 8, 9, 10, 11, 12, 13, 14, 15, 16, 17, 18, 19, 20, 181, 182, 183, 184, 185, 186, 187, 188, 189, 190, 191] (by decide +kernel) (by decide +kernel)) (goodIn_sub (fun _ h => List.mem_cons_of_mem _ (List.mem_append_right _ h)) (by decide +kernel))
set_option maxRecDepth 20000 in
theorem gL_plans_L_vanAt : GoodIn wsL_plans (va_wsS RL 194 yL_vanAt wsL_vanAt) := goodIn_app (goodIn_of _ (by decide +kernel)) ggL_plans_L_vanAt
set_option maxRecDepth 20000 in
theorem ggL_plans_L_planned : GoodIn wsL_plans wsL_planned := goodIn_ca (goodIn_r _ [23, 5, 6, 24, 25, 26, 10, 27, 28, 29, 12, 30, 13, 14, 15, 16, 17, 18, 19, 20, 31, 32, 33, 34, 35, 36, 37, 38, 39, 40, 41, 42, 43, 44, 45, 46, 47, 48, 49, 50, 51, 52, 53, 54, 55, 56, 57, 58, 59, 60, 61, 62, 63, 64, 65, 66, 67, 68, 69, 70, 71, 72, 73, 74, 75, 76, 77, 78, 79, 80, 81, 82, 83, 84, 85, 86, 87, 88, 89, 90, 91, 92, 93, 94, 95, 96, 97, 98, 99, 100, 101, 102, 103, 104, 105, 106, 107, 108, 109, 110, 111, 112, 113, 114, 115, 116, 117, 118, 119, 120, 121, 183, 184, 185, 186, 187, 188, 189, 190, 191, 181, 182, 192, 193, 194, 195, 196, 197, 198, 199, 200, 201, 202, 203, 204, 205, 206, 207, 208, 209, 210, 211, 212, 213, 214] (by decide +kernel) (by decide +kernel)) (goodIn_sub (fun _ h => List.mem_cons_of_mem _ (List.mem_append_right _ h)) (by decide +kernel))
set_option maxRecDepth 20000 in
theorem gL_plans_L_planned : GoodIn wsL_plans (va_wsS RL 190 yL_planned wsL_planned) := goodIn_app (goodIn_of _ (by decide +kernel)) ggL_plans_L_planned
set_option maxRecDepth 20000 in
theorem ggL_plans_L_gameAt : GoodIn wsL_plans wsL_gameAt := goodIn_ca (goodIn_r _ [124, 5, 6, 125, 126, 127, 10, 128, 129, 130, 131, 132, 133, 17, 18, 29, 134, 135, 47, 48, 49, 50, 51, 136, 53, 54, 55, 56, 57, 58, 59, 60, 61, 62, 63, 64, 65, 66, 67, 68, 197, 198, 199, 200, 201, 202, 203, 204, 183, 184, 185, 186, 187, 188, 189, 190, 191, 205, 206, 207] (by decide +kernel) (by decide +kernel)) (goodIn_sub (fun _ h => List.mem_cons_of_mem _ (List.mem_append_right _ h)) (by decide +kernel))
set_option maxRecDepth 20000 in
theorem gL_plans_L_gameAt : GoodIn wsL_plans (va_wsS RL 152 yL_gameAt wsL_gameAt) := goodIn_app (goodIn_of _ (by decide +kernel)) ggL_plans_L_gameAt
set_option maxRecDepth 20000 in
theorem ggL_plans_L_far : GoodIn wsL_plans wsL_far := goodIn_r _ [139] (by decide +kernel) (by decide +kernel)
set_option maxRecDepth 20000 in
theorem gL_plans_L_far : GoodIn wsL_plans (va_wsS RL 196 yL_far wsL_far) := goodIn_app (goodIn_of _ (by decide +kernel)) ggL_plans_L_far
set_option maxRecDepth 20000 in
theorem ggL_plans_X9_tables : GoodIn wsL_plans wsX9_tables := goodIn_r _ [143, 29, 135, 47, 48, 49, 50, 51, 183, 184, 185, 186, 187, 188, 189, 190, 191, 205, 206, 207] (by decide +kernel) (by decide +kernel)
set_option maxRecDepth 20000 in
theorem gL_plans_X9_tables : GoodIn wsL_plans (wsV RL 117 RX9 yX9_tables wsX9_tables) := goodIn_app (goodIn_of _ (by decide +kernel)) ggL_plans_X9_tables
set_option maxRecDepth 20000 in
theorem ggL_plans_L_box : GoodIn wsL_plans wsL_box := goodIn_ca (goodIn_r _ [146, 5, 6, 147, 148, 149, 10, 150, 151, 130, 131, 132, 133, 17, 18, 29, 134, 135, 47, 48, 49, 50, 51, 136, 53, 54, 55, 56, 57, 58, 59, 60, 61, 62, 63, 64, 65, 66, 67, 68, 197, 198, 199, 200, 201, 202, 203, 204, 183, 184, 185, 186, 187, 188, 189, 190, 191, 205, 206, 207] (by decide +kernel) (by decide +kernel)) (goodIn_sub (fun _ h => List.mem_cons_of_mem _ (List.mem_append_right _ h)) (by decide +kernel))
set_option maxRecDepth 20000 in
theorem gL_plans_L_box : GoodIn wsL_plans (va_wsS RL 178 yL_box wsL_box) := goodIn_app (goodIn_of _ (by decide +kernel)) ggL_plans_L_box
set_option maxRecDepth 20000 in
theorem ggL_plans_L_sticks : GoodIn wsL_plans wsL_sticks := goodIn_ca (goodIn_r _ [154, 5, 6, 155, 156, 157, 10, 158, 159, 130, 131, 132, 133, 17, 18, 29, 134, 135, 47, 48, 49, 50, 51, 136, 53, 54, 55, 56, 57, 58, 59, 60, 61, 62, 63, 64, 65, 66, 67, 68, 160, 161, 162, 163, 164, 208, 209, 210, 211, 212, 213, 214, 183, 184, 185, 186, 187, 188, 189, 190, 191, 205, 206, 207, 197, 198, 199, 200, 201, 202, 203, 204] (by decide +kernel) (by decide +kernel)) (goodIn_sub (fun _ h => List.mem_cons_of_mem _ (List.mem_append_right _ h)) (by decide +kernel))
set_option maxRecDepth 20000 in
theorem gL_plans_L_sticks : GoodIn wsL_plans (va_wsS RL 142 yL_sticks wsL_sticks) := goodIn_app (goodIn_of _ (by decide +kernel)) ggL_plans_L_sticks
set_option maxRecDepth 20000 in
theorem ggL_plans_L_wear : GoodIn wsL_plans wsL_wear := goodIn_ca (goodIn_r _ [167, 5, 6, 168, 169, 170, 10, 171, 172, 130, 131, 132, 133, 17, 18, 29, 134, 135, 47, 48, 49, 50, 51, 136, 53, 54, 55, 56, 57, 58, 59, 60, 61, 62, 63, 64, 65, 66, 67, 68, 160, 161, 162, 163, 164, 208, 209, 210, 211, 212, 213, 214, 183, 184, 185, 186, 187, 188, 189, 190, 191, 205, 206, 207, 197, 198, 199, 200, 201, 202, 203, 204] (by decide +kernel) (by decide +kernel)) (goodIn_sub (fun _ h => List.mem_cons_of_mem _ (List.mem_append_right _ h)) (by decide +kernel))
set_option maxRecDepth 20000 in
theorem gL_plans_L_wear : GoodIn wsL_plans (va_wsS RL 144 yL_wear wsL_wear) := goodIn_app (goodIn_of _ (by decide +kernel)) ggL_plans_L_wear
set_option maxRecDepth 20000 in
theorem ggL_plans_L_way : GoodIn wsL_plans wsL_way := goodIn_ca (goodIn_r _ [175, 5, 6, 176, 177, 178, 10, 179, 28, 29, 12, 180, 13, 14, 15, 16, 17, 18, 19, 20, 31, 32, 33, 34, 35, 36, 37, 38, 39, 40, 41, 42, 43, 44, 45, 46, 47, 48, 49, 50, 51, 52, 53, 54, 55, 56, 57, 58, 59, 60, 61, 62, 63, 64, 65, 66, 67, 68, 69, 70, 71, 72, 73, 74, 75, 76, 77, 78, 79, 80, 81, 82, 83, 84, 85, 86, 87, 88, 89, 90, 91, 92, 93, 94, 95, 96, 97, 98, 99, 100, 101, 102, 103, 104, 105, 106, 107, 108, 109, 110, 111, 112, 113, 114, 183, 184, 185, 186, 187, 188, 189, 190, 191, 181, 182, 192, 193, 194, 195, 196, 197, 198, 199, 200, 201, 202, 203, 204, 205, 206, 207, 208, 209, 210, 211, 212, 213, 214] (by decide +kernel) (by decide +kernel)) (goodIn_sub (fun _ h => List.mem_cons_of_mem _ (List.mem_append_right _ h)) (by decide +kernel))
set_option maxRecDepth 20000 in
theorem gL_plans_L_way : GoodIn wsL_plans (va_wsS RL 188 yL_way wsL_way) := goodIn_app (goodIn_of _ (by decide +kernel)) ggL_plans_L_way
theorem dL_plans_0 : decode cL_plans 0 = .ok (.iconst 0, 1) := by decide +kernel
theorem dL_plans_1 : decode cL_plans 1 = .ok (.istore_n 3, 1) := by decide +kernel
theorem dL_plans_2 : decode cL_plans 2 = .ok (.iconst 0, 1) := by decide +kernel
theorem dL_plans_3 : decode cL_plans 3 = .ok (.istore 4, 2) := by decide +kernel
theorem dL_plans_5 : decode cL_plans 5 = .ok (.aload_n 0, 1) := by decide +kernel
theorem dL_plans_6 : decode cL_plans 6 = .ok (.iload_n 2, 1) := by decide +kernel
theorem dL_plans_7 : decode cL_plans 7 = .ok (.invokestatic 194, 3) := by decide +kernel
theorem dL_plans_10 : decode cL_plans 10 = .ok (.istore 5, 2) := by decide +kernel
theorem dL_plans_12 : decode cL_plans 12 = .ok (.iconst 0, 1) := by decide +kernel
theorem dL_plans_13 : decode cL_plans 13 = .ok (.istore 6, 2) := by decide +kernel
theorem dL_plans_15 : decode cL_plans 15 = .ok (.iconst 1, 1) := by decide +kernel
theorem dL_plans_16 : decode cL_plans 16 = .ok (.istore 7, 2) := by decide +kernel
theorem dL_plans_18 : decode cL_plans 18 = .ok (.iload 7, 2) := by decide +kernel
theorem dL_plans_20 : decode cL_plans 20 = .ok (.ifCond .eq 87, 3) := by decide +kernel
theorem dL_plans_23 : decode cL_plans 23 = .ok (.aload_n 0, 1) := by decide +kernel
theorem dL_plans_24 : decode cL_plans 24 = .ok (.iload_n 2, 1) := by decide +kernel
theorem dL_plans_25 : decode cL_plans 25 = .ok (.iload 6, 2) := by decide +kernel
theorem dL_plans_27 : decode cL_plans 27 = .ok (.invokestatic 190, 3) := by decide +kernel
theorem dL_plans_30 : decode cL_plans 30 = .ok (.ifCond .lt 77, 3) := by decide +kernel
theorem dL_plans_33 : decode cL_plans 33 = .ok (.aload_n 0, 1) := by decide +kernel
theorem dL_plans_34 : decode cL_plans 34 = .ok (.iload_n 2, 1) := by decide +kernel
theorem dL_plans_35 : decode cL_plans 35 = .ok (.iload 6, 2) := by decide +kernel
theorem dL_plans_37 : decode cL_plans 37 = .ok (.invokestatic 190, 3) := by decide +kernel
theorem dL_plans_40 : decode cL_plans 40 = .ok (.istore 8, 2) := by decide +kernel
theorem dL_plans_42 : decode cL_plans 42 = .ok (.iload_n 3, 1) := by decide +kernel
theorem dL_plans_43 : decode cL_plans 43 = .ok (.iload 8, 2) := by decide +kernel
theorem dL_plans_45 : decode cL_plans 45 = .ok (.ishr, 1) := by decide +kernel
theorem dL_plans_46 : decode cL_plans 46 = .ok (.iconst 1, 1) := by decide +kernel
theorem dL_plans_47 : decode cL_plans 47 = .ok (.iand, 1) := by decide +kernel
theorem dL_plans_48 : decode cL_plans 48 = .ok (.ifCond .ne 17, 3) := by decide +kernel
theorem dL_plans_51 : decode cL_plans 51 = .ok (.aload_n 0, 1) := by decide +kernel
theorem dL_plans_52 : decode cL_plans 52 = .ok (.iload 8, 2) := by decide +kernel
theorem dL_plans_54 : decode cL_plans 54 = .ok (.invokestatic 152, 3) := by decide +kernel
theorem dL_plans_57 : decode cL_plans 57 = .ok (.iconst (-1), 1) := by decide +kernel
theorem dL_plans_58 : decode cL_plans 58 = .ok (.if_icmp .ne 7, 3) := by decide +kernel
theorem dL_plans_61 : decode cL_plans 61 = .ok (.iconst 1, 1) := by decide +kernel
theorem dL_plans_62 : decode cL_plans 62 = .ok (.goto 4, 3) := by decide +kernel
theorem dL_plans_65 : decode cL_plans 65 = .ok (.iconst 0, 1) := by decide +kernel
theorem dL_plans_66 : decode cL_plans 66 = .ok (.istore 7, 2) := by decide +kernel
theorem dL_plans_68 : decode cL_plans 68 = .ok (.iload_n 3, 1) := by decide +kernel
theorem dL_plans_69 : decode cL_plans 69 = .ok (.iconst 1, 1) := by decide +kernel
theorem dL_plans_70 : decode cL_plans 70 = .ok (.iload 8, 2) := by decide +kernel
theorem dL_plans_72 : decode cL_plans 72 = .ok (.ishl, 1) := by decide +kernel
theorem dL_plans_73 : decode cL_plans 73 = .ok (.ior, 1) := by decide +kernel
theorem dL_plans_74 : decode cL_plans 74 = .ok (.istore_n 3, 1) := by decide +kernel
theorem dL_plans_75 : decode cL_plans 75 = .ok (.iload 4, 2) := by decide +kernel
theorem dL_plans_77 : decode cL_plans 77 = .ok (.iload 5, 2) := by decide +kernel
theorem dL_plans_79 : decode cL_plans 79 = .ok (.aload_n 1, 1) := by decide +kernel
theorem dL_plans_80 : decode cL_plans 80 = .ok (.bipush 8, 2) := by decide +kernel
theorem dL_plans_82 : decode cL_plans 82 = .ok (.iload 8, 2) := by decide +kernel
theorem dL_plans_84 : decode cL_plans 84 = .ok (.iadd, 1) := by decide +kernel
theorem dL_plans_85 : decode cL_plans 85 = .ok (.iaload, 1) := by decide +kernel
theorem dL_plans_86 : decode cL_plans 86 = .ok (.invokestatic 196, 3) := by decide +kernel
theorem dL_plans_89 : decode cL_plans 89 = .ok (.iadd, 1) := by decide +kernel
theorem dL_plans_90 : decode cL_plans 90 = .ok (.istore 4, 2) := by decide +kernel
theorem dL_plans_92 : decode cL_plans 92 = .ok (.aload_n 1, 1) := by decide +kernel
theorem dL_plans_93 : decode cL_plans 93 = .ok (.bipush 8, 2) := by decide +kernel
theorem dL_plans_95 : decode cL_plans 95 = .ok (.iload 8, 2) := by decide +kernel
theorem dL_plans_97 : decode cL_plans 97 = .ok (.iadd, 1) := by decide +kernel
theorem dL_plans_98 : decode cL_plans 98 = .ok (.iaload, 1) := by decide +kernel
theorem dL_plans_99 : decode cL_plans 99 = .ok (.istore 5, 2) := by decide +kernel
theorem dL_plans_101 : decode cL_plans 101 = .ok (.iinc 6 1, 3) := by decide +kernel
theorem dL_plans_104 : decode cL_plans 104 = .ok (.goto (-86), 3) := by decide +kernel
theorem dL_plans_107 : decode cL_plans 107 = .ok (.iconst 0, 1) := by decide +kernel
theorem dL_plans_108 : decode cL_plans 108 = .ok (.istore 8, 2) := by decide +kernel
theorem dL_plans_110 : decode cL_plans 110 = .ok (.iload 8, 2) := by decide +kernel
theorem dL_plans_112 : decode cL_plans 112 = .ok (.aload_n 0, 1) := by decide +kernel
theorem dL_plans_113 : decode cL_plans 113 = .ok (.invokevirtual 117, 3) := by decide +kernel
theorem dL_plans_116 : decode cL_plans 116 = .ok (.if_icmp .ge 132, 3) := by decide +kernel
theorem dL_plans_119 : decode cL_plans 119 = .ok (.iload 7, 2) := by decide +kernel
theorem dL_plans_121 : decode cL_plans 121 = .ok (.ifCond .eq 127, 3) := by decide +kernel
theorem dL_plans_124 : decode cL_plans 124 = .ok (.aload_n 0, 1) := by decide +kernel
theorem dL_plans_125 : decode cL_plans 125 = .ok (.iload 8, 2) := by decide +kernel
theorem dL_plans_127 : decode cL_plans 127 = .ok (.invokestatic 178, 3) := by decide +kernel
theorem dL_plans_130 : decode cL_plans 130 = .ok (.bipush 19, 2) := by decide +kernel
theorem dL_plans_132 : decode cL_plans 132 = .ok (.if_icmp .le 7, 3) := by decide +kernel
theorem dL_plans_135 : decode cL_plans 135 = .ok (.iconst 1, 1) := by decide +kernel
theorem dL_plans_136 : decode cL_plans 136 = .ok (.goto 4, 3) := by decide +kernel
theorem dL_plans_139 : decode cL_plans 139 = .ok (.iconst 0, 1) := by decide +kernel
theorem dL_plans_140 : decode cL_plans 140 = .ok (.istore 9, 2) := by decide +kernel
theorem dL_plans_142 : decode cL_plans 142 = .ok (.iconst 0, 1) := by decide +kernel
theorem dL_plans_143 : decode cL_plans 143 = .ok (.istore 10, 2) := by decide +kernel
theorem dL_plans_145 : decode cL_plans 145 = .ok (.iload 10, 2) := by decide +kernel
theorem dL_plans_147 : decode cL_plans 147 = .ok (.aload_n 1, 1) := by decide +kernel
theorem dL_plans_148 : decode cL_plans 148 = .ok (.iload 8, 2) := by decide +kernel
theorem dL_plans_150 : decode cL_plans 150 = .ok (.iaload, 1) := by decide +kernel
theorem dL_plans_151 : decode cL_plans 151 = .ok (.if_icmp .ge 46, 3) := by decide +kernel
theorem dL_plans_154 : decode cL_plans 154 = .ok (.iload 9, 2) := by decide +kernel
theorem dL_plans_156 : decode cL_plans 156 = .ok (.ifCond .ne 28, 3) := by decide +kernel
theorem dL_plans_159 : decode cL_plans 159 = .ok (.aload_n 0, 1) := by decide +kernel
theorem dL_plans_160 : decode cL_plans 160 = .ok (.iload 8, 2) := by decide +kernel
theorem dL_plans_162 : decode cL_plans 162 = .ok (.iload 10, 2) := by decide +kernel
theorem dL_plans_164 : decode cL_plans 164 = .ok (.invokestatic 142, 3) := by decide +kernel
theorem dL_plans_167 : decode cL_plans 167 = .ok (.iconst 1, 1) := by decide +kernel
theorem dL_plans_168 : decode cL_plans 168 = .ok (.if_icmp .eq 16, 3) := by decide +kernel
theorem dL_plans_171 : decode cL_plans 171 = .ok (.aload_n 0, 1) := by decide +kernel
theorem dL_plans_172 : decode cL_plans 172 = .ok (.iload 8, 2) := by decide +kernel
theorem dL_plans_174 : decode cL_plans 174 = .ok (.iload 10, 2) := by decide +kernel
theorem dL_plans_176 : decode cL_plans 176 = .ok (.invokestatic 144, 3) := by decide +kernel
theorem dL_plans_179 : decode cL_plans 179 = .ok (.bipush 39, 2) := by decide +kernel
theorem dL_plans_181 : decode cL_plans 181 = .ok (.if_icmp .le 7, 3) := by decide +kernel
theorem dL_plans_184 : decode cL_plans 184 = .ok (.iconst 1, 1) := by decide +kernel
theorem dL_plans_185 : decode cL_plans 185 = .ok (.goto 4, 3) := by decide +kernel
theorem dL_plans_188 : decode cL_plans 188 = .ok (.iconst 0, 1) := by decide +kernel
theorem dL_plans_189 : decode cL_plans 189 = .ok (.istore 9, 2) := by decide +kernel
theorem dL_plans_191 : decode cL_plans 191 = .ok (.iinc 10 1, 3) := by decide +kernel
theorem dL_plans_194 : decode cL_plans 194 = .ok (.goto (-49), 3) := by decide +kernel
theorem dL_plans_197 : decode cL_plans 197 = .ok (.iload 9, 2) := by decide +kernel
theorem dL_plans_199 : decode cL_plans 199 = .ok (.ifCond .eq 17, 3) := by decide +kernel
theorem dL_plans_202 : decode cL_plans 202 = .ok (.aload_n 0, 1) := by decide +kernel
theorem dL_plans_203 : decode cL_plans 203 = .ok (.iload 8, 2) := by decide +kernel
theorem dL_plans_205 : decode cL_plans 205 = .ok (.invokestatic 152, 3) := by decide +kernel
theorem dL_plans_208 : decode cL_plans 208 = .ok (.iconst (-1), 1) := by decide +kernel
theorem dL_plans_209 : decode cL_plans 209 = .ok (.if_icmp .ne 7, 3) := by decide +kernel
theorem dL_plans_212 : decode cL_plans 212 = .ok (.iconst 1, 1) := by decide +kernel
theorem dL_plans_213 : decode cL_plans 213 = .ok (.goto 4, 3) := by decide +kernel
theorem dL_plans_216 : decode cL_plans 216 = .ok (.iconst 0, 1) := by decide +kernel
theorem dL_plans_217 : decode cL_plans 217 = .ok (.iload_n 3, 1) := by decide +kernel
theorem dL_plans_218 : decode cL_plans 218 = .ok (.iload 8, 2) := by decide +kernel
theorem dL_plans_220 : decode cL_plans 220 = .ok (.ishr, 1) := by decide +kernel
theorem dL_plans_221 : decode cL_plans 221 = .ok (.iconst 1, 1) := by decide +kernel
theorem dL_plans_222 : decode cL_plans 222 = .ok (.iand, 1) := by decide +kernel
theorem dL_plans_223 : decode cL_plans 223 = .ok (.iconst 1, 1) := by decide +kernel
theorem dL_plans_224 : decode cL_plans 224 = .ok (.if_icmp .ne 7, 3) := by decide +kernel
theorem dL_plans_227 : decode cL_plans 227 = .ok (.iconst 1, 1) := by decide +kernel
theorem dL_plans_228 : decode cL_plans 228 = .ok (.goto 4, 3) := by decide +kernel
theorem dL_plans_231 : decode cL_plans 231 = .ok (.iconst 0, 1) := by decide +kernel
theorem dL_plans_232 : decode cL_plans 232 = .ok (.if_icmp .ne 7, 3) := by decide +kernel
theorem dL_plans_235 : decode cL_plans 235 = .ok (.iconst 1, 1) := by decide +kernel
theorem dL_plans_236 : decode cL_plans 236 = .ok (.goto 4, 3) := by decide +kernel
theorem dL_plans_239 : decode cL_plans 239 = .ok (.iconst 0, 1) := by decide +kernel
theorem dL_plans_240 : decode cL_plans 240 = .ok (.istore 7, 2) := by decide +kernel
theorem dL_plans_242 : decode cL_plans 242 = .ok (.iinc 8 1, 3) := by decide +kernel
theorem dL_plans_245 : decode cL_plans 245 = .ok (.goto (-135), 3) := by decide +kernel
theorem dL_plans_248 : decode cL_plans 248 = .ok (.iload 7, 2) := by decide +kernel
theorem dL_plans_250 : decode cL_plans 250 = .ok (.ifCond .eq 17, 3) := by decide +kernel
theorem dL_plans_253 : decode cL_plans 253 = .ok (.aload_n 0, 1) := by decide +kernel
theorem dL_plans_254 : decode cL_plans 254 = .ok (.iload_n 2, 1) := by decide +kernel
theorem dL_plans_255 : decode cL_plans 255 = .ok (.invokestatic 188, 3) := by decide +kernel
theorem dL_plans_258 : decode cL_plans 258 = .ok (.iload 4, 2) := by decide +kernel
theorem dL_plans_260 : decode cL_plans 260 = .ok (.if_icmp .ne 7, 3) := by decide +kernel
theorem dL_plans_263 : decode cL_plans 263 = .ok (.iconst 1, 1) := by decide +kernel
theorem dL_plans_264 : decode cL_plans 264 = .ok (.goto 4, 3) := by decide +kernel
theorem dL_plans_267 : decode cL_plans 267 = .ok (.iconst 0, 1) := by decide +kernel
theorem dL_plans_268 : decode cL_plans 268 = .ok (.ireturn, 1) := by decide +kernel
set_option maxRecDepth 20000 in
theorem ggL_holds_L_plans : GoodIn wsL_holds wsL_plans := goodIn_ca (goodIn_r _ [14, 15, 16, 13, 17, 18, 19, 20, 21, 22, 23, 24, 25, 26, 27, 28, 29, 30, 31, 32, 33, 34, 35, 36, 37, 38, 39, 40, 41, 42, 43, 44, 45, 46, 47, 48, 49, 50, 51, 52, 53, 54, 55, 56, 57, 58, 59, 60, 61, 62, 63, 64, 65, 66, 67, 68, 69, 70, 71, 72, 73, 74, 75, 76, 77, 78, 79, 80, 81, 82, 83, 84, 85, 86, 87, 88, 89, 90, 91, 92, 93, 94, 95, 96, 97, 98, 99, 100, 101, 102, 103, 104, 105, 106, 107, 108, 109, 110, 111, 112, 113, 114, 115, 116, 117, 118, 119, 120, 121, 122, 123, 124, 125, 126, 127, 128, 129, 130, 131, 132, 133, 134, 135, 136, 137, 138, 139, 140, 141, 142, 143, 144, 145, 146, 147, 148, 149, 150, 151, 152, 153, 154, 155, 156, 157, 158, 159, 160, 161, 162, 163, 164, 165, 166, 167, 168, 169, 170, 171, 172, 173, 174, 175, 176, 177, 178, 179, 180, 181, 182, 183, 184, 185, 186, 187, 188, 189, 190, 191, 192, 193, 365, 366, 367, 368, 369, 370, 371, 372, 373, 374, 375, 376, 377, 378, 379, 380, 381, 382, 383, 384, 385, 386, 387, 388, 389, 390, 391, 392, 393, 394, 395, 396, 397, 398] (by decide +kernel) (by decide +kernel)) (goodIn_sub (fun _ h => List.mem_cons_of_mem _ (List.mem_append_left _ (List.mem_append_right _ h))) (by decide +kernel))
set_option maxRecDepth 20000 in
theorem gL_holds_L_plans : GoodIn wsL_holds (va_wsS RL 199 yL_plans wsL_plans) := goodIn_app (goodIn_of _ (by decide +kernel)) ggL_holds_L_plans
set_option maxRecDepth 20000 in
theorem ggL_holds_X9_games : GoodIn wsL_holds wsX9_games := goodIn_r _ [197, 198, 148, 60, 61, 62, 63, 64, 367, 368, 369, 370, 371, 372, 373, 374, 375, 389, 390, 391] (by decide +kernel) (by decide +kernel)
set_option maxRecDepth 20000 in
theorem gL_holds_X9_games : GoodIn wsL_holds (wsV RL 121 RX9 yX9_games wsX9_games) := goodIn_app (goodIn_of _ (by decide +kernel)) ggL_holds_X9_games
set_option maxRecDepth 20000 in
theorem ggL_holds_L_logged : GoodIn wsL_holds wsL_logged := goodIn_ca (goodIn_r _ [201, 18, 19, 202, 203, 204, 23, 205, 206, 207, 208, 209, 210, 30, 31, 198, 211, 148, 60, 61, 62, 63, 64, 149, 66, 67, 68, 69, 70, 71, 72, 73, 74, 75, 76, 77, 78, 79, 80, 81, 399, 400, 401, 402, 403, 404, 367, 368, 369, 370, 371, 372, 373, 374, 375, 389, 390, 391] (by decide +kernel) (by decide +kernel)) (goodIn_sub (fun _ h => List.mem_cons_of_mem _ (List.mem_append_left _ (List.mem_append_right _ h))) (by decide +kernel))
set_option maxRecDepth 20000 in
theorem gL_holds_L_logged : GoodIn wsL_holds (va_wsS RL 166 yL_logged wsL_logged) := goodIn_app (goodIn_of _ (by decide +kernel)) ggL_holds_L_logged
set_option maxRecDepth 20000 in
theorem ggL_holds_L_balls : GoodIn wsL_holds wsL_balls := goodIn_ca (goodIn_r _ [214, 18, 19, 215, 216, 217, 23, 218, 219, 207, 208, 209, 210, 30, 31, 198, 211, 148, 60, 61, 62, 63, 64, 149, 66, 67, 68, 69, 70, 71, 72, 73, 74, 75, 76, 77, 78, 79, 80, 81, 399, 400, 401, 402, 403, 404, 367, 368, 369, 370, 371, 372, 373, 374, 375, 389, 390, 391] (by decide +kernel) (by decide +kernel)) (goodIn_sub (fun _ h => List.mem_cons_of_mem _ (List.mem_append_left _ (List.mem_append_right _ h))) (by decide +kernel))
set_option maxRecDepth 20000 in
theorem gL_holds_L_balls : GoodIn wsL_holds (va_wsS RL 154 yL_balls wsL_balls) := goodIn_app (goodIn_of _ (by decide +kernel)) ggL_holds_L_balls
set_option maxRecDepth 20000 in
theorem ggL_holds_L_twin : GoodIn wsL_holds wsL_twin := goodIn_ca (goodIn_r _ [222, 18, 19, 223, 224, 225, 23, 226, 206, 198, 211, 207, 208, 209, 210, 30, 31, 148, 60, 61, 62, 63, 64, 149, 66, 67, 68, 69, 70, 71, 72, 73, 74, 75, 76, 77, 78, 79, 80, 81, 227, 228, 229, 230, 231, 232, 233, 234, 235, 236, 237, 238, 239, 240, 241, 242, 399, 400, 401, 402, 403, 404, 367, 368, 369, 370, 371, 372, 373, 374, 375, 389, 390, 391] (by decide +kernel) (by decide +kernel)) (goodIn_sub (fun _ h => List.mem_cons_of_mem _ (List.mem_append_left _ (List.mem_append_right _ h))) (by decide +kernel))
set_option maxRecDepth 20000 in
theorem gL_holds_L_twin : GoodIn wsL_holds (va_wsS RL 172 yL_twin wsL_twin) := goodIn_app (goodIn_of _ (by decide +kernel)) ggL_holds_L_twin
set_option maxRecDepth 20000 in
theorem ggL_holds_L_byLog : GoodIn wsL_holds wsL_byLog := goodIn_ca (goodIn_r _ [245, 18, 19, 246, 247, 248, 23, 249, 207, 208, 209, 210, 30, 31, 198, 211, 148, 60, 61, 62, 63, 64, 149, 66, 67, 68, 69, 70, 71, 72, 73, 74, 75, 76, 77, 78, 79, 80, 81, 250, 251, 252, 253, 254, 206, 255, 256, 257, 258, 259, 260, 261, 262, 263, 264, 239, 240, 230, 241, 242, 265, 266, 267, 268, 269, 270, 271, 272, 273, 274, 275, 276, 277, 278, 279, 280, 281, 282, 283, 284, 285, 286, 287, 288, 289, 290, 291, 292, 293, 294, 295, 296, 297, 298, 299, 300, 301, 302, 303, 304, 305, 306, 307, 367, 368, 369, 370, 371, 372, 373, 374, 375, 389, 390, 391, 399, 400, 401, 402, 403, 404, 405, 406, 407, 408, 409, 410, 411, 412, 413, 414, 415] (by decide +kernel) (by decide +kernel)) (goodIn_sub (fun _ h => List.mem_cons_of_mem _ (List.mem_append_left _ (List.mem_append_right _ h))) (by decide +kernel))
set_option maxRecDepth 20000 in
theorem gL_holds_L_byLog : GoodIn wsL_holds (va_wsS RL 161 yL_byLog wsL_byLog) := goodIn_app (goodIn_of _ (by decide +kernel)) ggL_holds_L_byLog
set_option maxRecDepth 20000 in
theorem ggL_holds_L_score : GoodIn wsL_holds wsL_score := goodIn_ca (goodIn_r _ [310, 18, 19, 311, 312, 313, 23, 314, 315, 256, 207, 208, 209, 210, 30, 31, 198, 211, 148, 60, 61, 62, 63, 64, 149, 66, 67, 68, 69, 70, 71, 72, 73, 74, 75, 76, 77, 78, 79, 80, 81, 399, 400, 401, 402, 403, 404, 405, 406, 407, 408, 367, 368, 369, 370, 371, 372, 373, 374, 375, 389, 390, 391] (by decide +kernel) (by decide +kernel)) (goodIn_sub (fun _ h => List.mem_cons_of_mem _ (List.mem_append_left _ (List.mem_append_right _ h))) (by decide +kernel))
set_option maxRecDepth 20000 in
theorem gL_holds_L_score : GoodIn wsL_holds (va_wsS RL 159 yL_score wsL_score) := goodIn_app (goodIn_of _ (by decide +kernel)) ggL_holds_L_score
set_option maxRecDepth 20000 in
theorem ggL_holds_L_stack : GoodIn wsL_holds wsL_stack := goodIn_ca (goodIn_r _ [318, 18, 19, 319, 320, 321, 23, 322, 315, 207, 208, 209, 210, 30, 31, 198, 211, 148, 60, 61, 62, 63, 64, 149, 66, 67, 68, 69, 70, 71, 72, 73, 74, 75, 76, 77, 78, 79, 80, 81, 323, 324, 325, 260, 326, 262, 282, 399, 400, 401, 402, 403, 404, 367, 368, 369, 370, 371, 372, 373, 374, 375, 389, 390, 391, 405, 406, 407, 408] (by decide +kernel) (by decide +kernel)) (goodIn_sub (fun _ h => List.mem_cons_of_mem _ (List.mem_append_left _ (List.mem_append_right _ h))) (by decide +kernel))
set_option maxRecDepth 20000 in
theorem gL_holds_L_stack : GoodIn wsL_holds (va_wsS RL 157 yL_stack wsL_stack) := goodIn_app (goodIn_of _ (by decide +kernel)) ggL_holds_L_stack
set_option maxRecDepth 20000 in
theorem ggL_holds_L_entry : GoodIn wsL_holds wsL_entry := goodIn_ca (goodIn_r _ [329, 18, 1, 330, 331, 332, 23, 333, 206, 207, 208, 209, 210, 30, 31, 198, 211, 148, 60, 61, 62, 63, 64, 149, 66, 67, 68, 69, 70, 71, 72, 73, 74, 75, 76, 77, 78, 79, 80, 81, 128, 129, 130, 264, 239, 240, 230, 241, 242, 399, 400, 401, 402, 403, 404, 367, 368, 369, 370, 371, 372, 373, 374, 375, 389, 390, 391] (by decide +kernel) (by decide +kernel)) (goodIn_sub (fun _ h => List.mem_cons_of_mem _ (List.mem_append_left _ (List.mem_append_right _ h))) (by decide +kernel))
set_option maxRecDepth 20000 in
theorem gL_holds_L_entry : GoodIn wsL_holds (va_wsS RL 168 yL_entry wsL_entry) := goodIn_app (goodIn_of _ (by decide +kernel)) ggL_holds_L_entry
set_option maxRecDepth 20000 in
theorem ggL_holds_X9_tables : GoodIn wsL_holds wsX9_tables := goodIn_r _ [156, 42, 148, 60, 61, 62, 63, 64, 367, 368, 369, 370, 371, 372, 373, 374, 375, 389, 390, 391] (by decide +kernel) (by decide +kernel)
set_option maxRecDepth 20000 in
theorem gL_holds_X9_tables : GoodIn wsL_holds (wsV RL 117 RX9 yX9_tables wsX9_tables) := goodIn_app (goodIn_of _ (by decide +kernel)) ggL_holds_X9_tables
set_option maxRecDepth 20000 in
theorem ggL_holds_L_high : GoodIn wsL_holds wsL_high := goodIn_ca (goodIn_ca (goodIn_r _ [336, 18, 337, 19, 338, 339, 340, 341, 23, 342, 198, 343, 211, 143, 144, 145, 146, 30, 31, 42, 147, 148, 60, 61, 62, 63, 64, 149, 66, 67, 68, 69, 70, 71, 72, 73, 74, 75, 76, 77, 78, 79, 80, 81, 344, 345, 346, 347, 348, 349, 350, 351, 352, 353, 227, 228, 229, 230, 231, 232, 250, 251, 252, 253, 254, 206, 255, 256, 257, 258, 259, 260, 261, 262, 263, 264, 239, 240, 241, 242, 265, 266, 267, 268, 269, 270, 271, 272, 273, 274, 275, 276, 277, 278, 279, 280, 281, 282, 283, 284, 285, 286, 287, 288, 289, 290, 291, 292, 293, 294, 295, 296, 297, 298, 299, 300, 301, 302, 303, 304, 305, 306, 307, 354, 355, 356, 357, 367, 368, 369, 370, 371, 372, 373, 374, 375, 389, 390, 391, 399, 400, 401, 402, 403, 404, 405, 406, 407, 408, 409, 410, 411, 412, 413, 414, 415] (by decide +kernel) (by decide +kernel)) (goodIn_sub (fun _ h => List.mem_cons_of_mem _ (List.mem_append_left _ (List.mem_append_right _ h))) (by decide +kernel))) (goodIn_sub (fun _ h => List.mem_cons_of_mem _ (List.mem_append_right _ h)) (by decide +kernel))
set_option maxRecDepth 20000 in
theorem gL_holds_L_high : GoodIn wsL_holds (va_wsS RL 174 yL_high wsL_high) := goodIn_app (goodIn_of _ (by decide +kernel)) ggL_holds_L_high
set_option maxRecDepth 20000 in
theorem ggL_holds_L_valid : GoodIn wsL_holds wsL_valid := goodIn_ca (goodIn_r _ [360, 18, 19, 361, 362, 363, 23, 364, 207, 208, 209, 210, 30, 31, 198, 211, 148, 60, 61, 62, 63, 64, 149, 66, 67, 68, 69, 70, 71, 72, 73, 74, 75, 76, 77, 78, 79, 80, 81, 250, 251, 252, 253, 254, 206, 255, 256, 257, 258, 259, 260, 261, 262, 263, 264, 239, 240, 230, 241, 242, 265, 266, 267, 268, 269, 270, 271, 272, 273, 274, 275, 276, 277, 278, 279, 280, 281, 282, 283, 284, 285, 286, 287, 288, 289, 290, 291, 292, 293, 294, 295, 296, 297, 298, 299, 300, 301, 302, 303, 304, 305, 306, 307, 367, 368, 369, 370, 371, 372, 373, 374, 375, 389, 390, 391, 399, 400, 401, 402, 403, 404, 405, 406, 407, 408, 409, 410, 411, 412, 413, 414, 415] (by decide +kernel) (by decide +kernel)) (goodIn_sub (fun _ h => List.mem_cons_of_mem _ (List.mem_append_left _ (List.mem_append_right _ h))) (by decide +kernel))
set_option maxRecDepth 20000 in
theorem gL_holds_L_valid : GoodIn wsL_holds (va_wsS RL 164 yL_valid wsL_valid) := goodIn_app (goodIn_of _ (by decide +kernel)) ggL_holds_L_valid
theorem dL_holds_0 : decode cL_holds 0 = .ok (.aload_n 0, 1) := by decide +kernel
theorem dL_holds_1 : decode cL_holds 1 = .ok (.aload_n 1, 1) := by decide +kernel
theorem dL_holds_2 : decode cL_holds 2 = .ok (.iload_n 2, 1) := by decide +kernel
theorem dL_holds_3 : decode cL_holds 3 = .ok (.iconst 2, 1) := by decide +kernel
theorem dL_holds_4 : decode cL_holds 4 = .ok (.irem, 1) := by decide +kernel
theorem dL_holds_5 : decode cL_holds 5 = .ok (.invokestatic 199, 3) := by decide +kernel
theorem dL_holds_8 : decode cL_holds 8 = .ok (.istore_n 3, 1) := by decide +kernel
theorem dL_holds_9 : decode cL_holds 9 = .ok (.iconst 0, 1) := by decide +kernel
theorem dL_holds_10 : decode cL_holds 10 = .ok (.istore 4, 2) := by decide +kernel
theorem dL_holds_12 : decode cL_holds 12 = .ok (.iload 4, 2) := by decide +kernel
theorem dL_holds_14 : decode cL_holds 14 = .ok (.aload_n 0, 1) := by decide +kernel
theorem dL_holds_15 : decode cL_holds 15 = .ok (.invokevirtual 121, 3) := by decide +kernel
theorem dL_holds_18 : decode cL_holds 18 = .ok (.if_icmp .ge 369, 3) := by decide +kernel
theorem dL_holds_21 : decode cL_holds 21 = .ok (.iload_n 3, 1) := by decide +kernel
theorem dL_holds_22 : decode cL_holds 22 = .ok (.ifCond .eq 365, 3) := by decide +kernel
theorem dL_holds_25 : decode cL_holds 25 = .ok (.aload_n 0, 1) := by decide +kernel
theorem dL_holds_26 : decode cL_holds 26 = .ok (.iload 4, 2) := by decide +kernel
theorem dL_holds_28 : decode cL_holds 28 = .ok (.invokestatic 166, 3) := by decide +kernel
theorem dL_holds_31 : decode cL_holds 31 = .ok (.istore 5, 2) := by decide +kernel
theorem dL_holds_33 : decode cL_holds 33 = .ok (.aload_n 0, 1) := by decide +kernel
theorem dL_holds_34 : decode cL_holds 34 = .ok (.iload 4, 2) := by decide +kernel
theorem dL_holds_36 : decode cL_holds 36 = .ok (.invokestatic 154, 3) := by decide +kernel
theorem dL_holds_39 : decode cL_holds 39 = .ok (.istore 6, 2) := by decide +kernel
theorem dL_holds_41 : decode cL_holds 41 = .ok (.aload_n 0, 1) := by decide +kernel
theorem dL_holds_42 : decode cL_holds 42 = .ok (.iload 4, 2) := by decide +kernel
theorem dL_holds_44 : decode cL_holds 44 = .ok (.invokestatic 172, 3) := by decide +kernel
theorem dL_holds_47 : decode cL_holds 47 = .ok (.istore 7, 2) := by decide +kernel
theorem dL_holds_49 : decode cL_holds 49 = .ok (.aload_n 0, 1) := by decide +kernel
theorem dL_holds_50 : decode cL_holds 50 = .ok (.iload 4, 2) := by decide +kernel
theorem dL_holds_52 : decode cL_holds 52 = .ok (.invokestatic 161, 3) := by decide +kernel
theorem dL_holds_55 : decode cL_holds 55 = .ok (.aload_n 0, 1) := by decide +kernel
theorem dL_holds_56 : decode cL_holds 56 = .ok (.iload 4, 2) := by decide +kernel
theorem dL_holds_58 : decode cL_holds 58 = .ok (.invokestatic 159, 3) := by decide +kernel
theorem dL_holds_61 : decode cL_holds 61 = .ok (.if_icmp .ne 154, 3) := by decide +kernel
theorem dL_holds_64 : decode cL_holds 64 = .ok (.iload 6, 2) := by decide +kernel
theorem dL_holds_66 : decode cL_holds 66 = .ok (.ifCond .lt 149, 3) := by decide +kernel
theorem dL_holds_69 : decode cL_holds 69 = .ok (.iload 6, 2) := by decide +kernel
theorem dL_holds_71 : decode cL_holds 71 = .ok (.iconst 3, 1) := by decide +kernel
theorem dL_holds_72 : decode cL_holds 72 = .ok (.if_icmp .gt 143, 3) := by decide +kernel
theorem dL_holds_75 : decode cL_holds 75 = .ok (.iload 5, 2) := by decide +kernel
theorem dL_holds_77 : decode cL_holds 77 = .ok (.ifCond .lt 138, 3) := by decide +kernel
theorem dL_holds_80 : decode cL_holds 80 = .ok (.iload 5, 2) := by decide +kernel
theorem dL_holds_82 : decode cL_holds 82 = .ok (.sipush 2520, 3) := by decide +kernel
theorem dL_holds_85 : decode cL_holds 85 = .ok (.if_icmp .gt 130, 3) := by decide +kernel
theorem dL_holds_88 : decode cL_holds 88 = .ok (.aload_n 0, 1) := by decide +kernel
theorem dL_holds_89 : decode cL_holds 89 = .ok (.iload 4, 2) := by decide +kernel
theorem dL_holds_91 : decode cL_holds 91 = .ok (.invokestatic 159, 3) := by decide +kernel
theorem dL_holds_94 : decode cL_holds 94 = .ok (.ifCond .lt 121, 3) := by decide +kernel
theorem dL_holds_97 : decode cL_holds 97 = .ok (.iload 6, 2) := by decide +kernel
theorem dL_holds_99 : decode cL_holds 99 = .ok (.iconst 3, 1) := by decide +kernel
theorem dL_holds_100 : decode cL_holds 100 = .ok (.if_icmp .lt 17, 3) := by decide +kernel
theorem dL_holds_103 : decode cL_holds 103 = .ok (.iload 5, 2) := by decide +kernel
theorem dL_holds_105 : decode cL_holds 105 = .ok (.ifCond .ne 110, 3) := by decide +kernel
theorem dL_holds_108 : decode cL_holds 108 = .ok (.aload_n 0, 1) := by decide +kernel
theorem dL_holds_109 : decode cL_holds 109 = .ok (.iload 4, 2) := by decide +kernel
theorem dL_holds_111 : decode cL_holds 111 = .ok (.invokestatic 159, 3) := by decide +kernel
theorem dL_holds_114 : decode cL_holds 114 = .ok (.ifCond .ne 101, 3) := by decide +kernel
theorem dL_holds_117 : decode cL_holds 117 = .ok (.aload_n 0, 1) := by decide +kernel
theorem dL_holds_118 : decode cL_holds 118 = .ok (.iload 4, 2) := by decide +kernel
theorem dL_holds_120 : decode cL_holds 120 = .ok (.invokestatic 157, 3) := by decide +kernel
theorem dL_holds_123 : decode cL_holds 123 = .ok (.sipush 500, 3) := by decide +kernel
theorem dL_holds_126 : decode cL_holds 126 = .ok (.if_icmp .ge 89, 3) := by decide +kernel
theorem dL_holds_129 : decode cL_holds 129 = .ok (.iload 7, 2) := by decide +kernel
theorem dL_holds_131 : decode cL_holds 131 = .ok (.iconst (-1), 1) := by decide +kernel
theorem dL_holds_132 : decode cL_holds 132 = .ok (.if_icmp .eq 64, 3) := by decide +kernel
theorem dL_holds_135 : decode cL_holds 135 = .ok (.iload 6, 2) := by decide +kernel
theorem dL_holds_137 : decode cL_holds 137 = .ok (.ifCond .ne 78, 3) := by decide +kernel
theorem dL_holds_140 : decode cL_holds 140 = .ok (.iload 7, 2) := by decide +kernel
theorem dL_holds_142 : decode cL_holds 142 = .ok (.iload 4, 2) := by decide +kernel
theorem dL_holds_144 : decode cL_holds 144 = .ok (.if_icmp .eq 71, 3) := by decide +kernel
theorem dL_holds_147 : decode cL_holds 147 = .ok (.iload 5, 2) := by decide +kernel
theorem dL_holds_149 : decode cL_holds 149 = .ok (.ifCond .le 66, 3) := by decide +kernel
theorem dL_holds_152 : decode cL_holds 152 = .ok (.aload_n 0, 1) := by decide +kernel
theorem dL_holds_153 : decode cL_holds 153 = .ok (.iload 7, 2) := by decide +kernel
theorem dL_holds_155 : decode cL_holds 155 = .ok (.invokestatic 166, 3) := by decide +kernel
theorem dL_holds_158 : decode cL_holds 158 = .ok (.iload 5, 2) := by decide +kernel
theorem dL_holds_160 : decode cL_holds 160 = .ok (.if_icmp .ne 55, 3) := by decide +kernel
theorem dL_holds_163 : decode cL_holds 163 = .ok (.aload_n 0, 1) := by decide +kernel
theorem dL_holds_164 : decode cL_holds 164 = .ok (.iload 7, 2) := by decide +kernel
theorem dL_holds_166 : decode cL_holds 166 = .ok (.iload 5, 2) := by decide +kernel
theorem dL_holds_168 : decode cL_holds 168 = .ok (.iconst 1, 1) := by decide +kernel
theorem dL_holds_169 : decode cL_holds 169 = .ok (.isub, 1) := by decide +kernel
theorem dL_holds_170 : decode cL_holds 170 = .ok (.invokestatic 168, 3) := by decide +kernel
theorem dL_holds_173 : decode cL_holds 173 = .ok (.aload_n 0, 1) := by decide +kernel
theorem dL_holds_174 : decode cL_holds 174 = .ok (.iload 4, 2) := by decide +kernel
theorem dL_holds_176 : decode cL_holds 176 = .ok (.iload 5, 2) := by decide +kernel
theorem dL_holds_178 : decode cL_holds 178 = .ok (.iconst 1, 1) := by decide +kernel
theorem dL_holds_179 : decode cL_holds 179 = .ok (.isub, 1) := by decide +kernel
theorem dL_holds_180 : decode cL_holds 180 = .ok (.invokestatic 168, 3) := by decide +kernel
theorem dL_holds_183 : decode cL_holds 183 = .ok (.lcmp, 1) := by decide +kernel
theorem dL_holds_184 : decode cL_holds 184 = .ok (.ifCond .ne 31, 3) := by decide +kernel
theorem dL_holds_187 : decode cL_holds 187 = .ok (.aload_n 0, 1) := by decide +kernel
theorem dL_holds_188 : decode cL_holds 188 = .ok (.iload 7, 2) := by decide +kernel
theorem dL_holds_190 : decode cL_holds 190 = .ok (.invokestatic 154, 3) := by decide +kernel
theorem dL_holds_193 : decode cL_holds 193 = .ok (.ifCond .ne 22, 3) := by decide +kernel
theorem dL_holds_196 : decode cL_holds 196 = .ok (.aload_n 0, 1) := by decide +kernel
theorem dL_holds_197 : decode cL_holds 197 = .ok (.iload 4, 2) := by decide +kernel
theorem dL_holds_199 : decode cL_holds 199 = .ok (.iload 5, 2) := by decide +kernel
theorem dL_holds_201 : decode cL_holds 201 = .ok (.invokestatic 168, 3) := by decide +kernel
theorem dL_holds_204 : decode cL_holds 204 = .ok (.ldc2_w 77, 3) := by decide +kernel
theorem dL_holds_207 : decode cL_holds 207 = .ok (.lcmp, 1) := by decide +kernel
theorem dL_holds_208 : decode cL_holds 208 = .ok (.ifCond .ne 7, 3) := by decide +kernel
theorem dL_holds_211 : decode cL_holds 211 = .ok (.iconst 1, 1) := by decide +kernel
theorem dL_holds_212 : decode cL_holds 212 = .ok (.goto 4, 3) := by decide +kernel
theorem dL_holds_215 : decode cL_holds 215 = .ok (.iconst 0, 1) := by decide +kernel
theorem dL_holds_216 : decode cL_holds 216 = .ok (.istore_n 3, 1) := by decide +kernel
theorem dL_holds_217 : decode cL_holds 217 = .ok (.ldc2_w 203, 3) := by decide +kernel
theorem dL_holds_220 : decode cL_holds 220 = .ok (.lstore 8, 2) := by decide +kernel
theorem dL_holds_222 : decode cL_holds 222 = .ok (.iload_n 2, 1) := by decide +kernel
theorem dL_holds_223 : decode cL_holds 223 = .ok (.bipush 7, 2) := by decide +kernel
theorem dL_holds_225 : decode cL_holds 225 = .ok (.irem, 1) := by decide +kernel
theorem dL_holds_226 : decode cL_holds 226 = .ok (.istore 10, 2) := by decide +kernel
theorem dL_holds_228 : decode cL_holds 228 = .ok (.iload 10, 2) := by decide +kernel
theorem dL_holds_230 : decode cL_holds 230 = .ok (.iload 5, 2) := by decide +kernel
theorem dL_holds_232 : decode cL_holds 232 = .ok (.if_icmp .ge 149, 3) := by decide +kernel
theorem dL_holds_235 : decode cL_holds 235 = .ok (.iload_n 3, 1) := by decide +kernel
theorem dL_holds_236 : decode cL_holds 236 = .ok (.ifCond .eq 145, 3) := by decide +kernel
theorem dL_holds_239 : decode cL_holds 239 = .ok (.aload_n 0, 1) := by decide +kernel
theorem dL_holds_240 : decode cL_holds 240 = .ok (.iload 4, 2) := by decide +kernel
theorem dL_holds_242 : decode cL_holds 242 = .ok (.iload 10, 2) := by decide +kernel
theorem dL_holds_244 : decode cL_holds 244 = .ok (.invokestatic 168, 3) := by decide +kernel
theorem dL_holds_247 : decode cL_holds 247 = .ok (.lstore 11, 2) := by decide +kernel
theorem dL_holds_249 : decode cL_holds 249 = .ok (.lload 11, 2) := by decide +kernel
theorem dL_holds_251 : decode cL_holds 251 = .ok (.ldc2_w 205, 3) := by decide +kernel
theorem dL_holds_254 : decode cL_holds 254 = .ok (.ldiv, 1) := by decide +kernel
theorem dL_holds_255 : decode cL_holds 255 = .ok (.ldc2_w 205, 3) := by decide +kernel
theorem dL_holds_258 : decode cL_holds 258 = .ok (.lrem, 1) := by decide +kernel
theorem dL_holds_259 : decode cL_holds 259 = .ok (.ldc2_w 207, 3) := by decide +kernel
theorem dL_holds_262 : decode cL_holds 262 = .ok (.lmul, 1) := by decide +kernel
theorem dL_holds_263 : decode cL_holds 263 = .ok (.lload 11, 2) := by decide +kernel
theorem dL_holds_265 : decode cL_holds 265 = .ok (.ldc2_w 209, 3) := by decide +kernel
theorem dL_holds_268 : decode cL_holds 268 = .ok (.ldiv, 1) := by decide +kernel
theorem dL_holds_269 : decode cL_holds 269 = .ok (.ldc2_w 207, 3) := by decide +kernel
theorem dL_holds_272 : decode cL_holds 272 = .ok (.lrem, 1) := by decide +kernel
theorem dL_holds_273 : decode cL_holds 273 = .ok (.ladd, 1) := by decide +kernel
theorem dL_holds_274 : decode cL_holds 274 = .ok (.lstore 13, 2) := by decide +kernel
theorem dL_holds_276 : decode cL_holds 276 = .ok (.lload 13, 2) := by decide +kernel
theorem dL_holds_278 : decode cL_holds 278 = .ok (.lload 8, 2) := by decide +kernel
theorem dL_holds_280 : decode cL_holds 280 = .ok (.lcmp, 1) := by decide +kernel
theorem dL_holds_281 : decode cL_holds 281 = .ok (.ifCond .lt 88, 3) := by decide +kernel
theorem dL_holds_284 : decode cL_holds 284 = .ok (.lload 11, 2) := by decide +kernel
theorem dL_holds_286 : decode cL_holds 286 = .ok (.ldc2_w 205, 3) := by decide +kernel
theorem dL_holds_289 : decode cL_holds 289 = .ok (.lrem, 1) := by decide +kernel
theorem dL_holds_290 : decode cL_holds 290 = .ok (.ldc2_w 211, 3) := by decide +kernel
theorem dL_holds_293 : decode cL_holds 293 = .ok (.lcmp, 1) := by decide +kernel
theorem dL_holds_294 : decode cL_holds 294 = .ok (.ifCond .ge 75, 3) := by decide +kernel
theorem dL_holds_297 : decode cL_holds 297 = .ok (.lload 11, 2) := by decide +kernel
theorem dL_holds_299 : decode cL_holds 299 = .ok (.ldc2_w 205, 3) := by decide +kernel
theorem dL_holds_302 : decode cL_holds 302 = .ok (.ldiv, 1) := by decide +kernel
theorem dL_holds_303 : decode cL_holds 303 = .ok (.ldc2_w 205, 3) := by decide +kernel
theorem dL_holds_306 : decode cL_holds 306 = .ok (.lrem, 1) := by decide +kernel
theorem dL_holds_307 : decode cL_holds 307 = .ok (.ldc2_w 213, 3) := by decide +kernel
theorem dL_holds_310 : decode cL_holds 310 = .ok (.iload 6, 2) := by decide +kernel
theorem dL_holds_312 : decode cL_holds 312 = .ok (.i2l, 1) := by decide +kernel
theorem dL_holds_313 : decode cL_holds 313 = .ok (.lsub, 1) := by decide +kernel
theorem dL_holds_314 : decode cL_holds 314 = .ok (.lcmp, 1) := by decide +kernel
theorem dL_holds_315 : decode cL_holds 315 = .ok (.ifCond .ge 54, 3) := by decide +kernel
theorem dL_holds_318 : decode cL_holds 318 = .ok (.lload 11, 2) := by decide +kernel
theorem dL_holds_320 : decode cL_holds 320 = .ok (.ldc2_w 209, 3) := by decide +kernel
theorem dL_holds_323 : decode cL_holds 323 = .ok (.ldiv, 1) := by decide +kernel
theorem dL_holds_324 : decode cL_holds 324 = .ok (.ldc2_w 207, 3) := by decide +kernel
theorem dL_holds_327 : decode cL_holds 327 = .ok (.lrem, 1) := by decide +kernel
theorem dL_holds_328 : decode cL_holds 328 = .ok (.lconst 0, 1) := by decide +kernel
theorem dL_holds_329 : decode cL_holds 329 = .ok (.lcmp, 1) := by decide +kernel
theorem dL_holds_330 : decode cL_holds 330 = .ok (.ifCond .le 39, 3) := by decide +kernel
theorem dL_holds_333 : decode cL_holds 333 = .ok (.lload 11, 2) := by decide +kernel
theorem dL_holds_335 : decode cL_holds 335 = .ok (.ldc2_w 209, 3) := by decide +kernel
theorem dL_holds_338 : decode cL_holds 338 = .ok (.ldiv, 1) := by decide +kernel
theorem dL_holds_339 : decode cL_holds 339 = .ok (.ldc2_w 207, 3) := by decide +kernel
theorem dL_holds_342 : decode cL_holds 342 = .ok (.lrem, 1) := by decide +kernel
theorem dL_holds_343 : decode cL_holds 343 = .ok (.ldc2_w 215, 3) := by decide +kernel
theorem dL_holds_346 : decode cL_holds 346 = .ok (.lcmp, 1) := by decide +kernel
theorem dL_holds_347 : decode cL_holds 347 = .ok (.ifCond .gt 22, 3) := by decide +kernel
theorem dL_holds_350 : decode cL_holds 350 = .ok (.lload 11, 2) := by decide +kernel
theorem dL_holds_352 : decode cL_holds 352 = .ok (.ldc2_w 217, 3) := by decide +kernel
theorem dL_holds_355 : decode cL_holds 355 = .ok (.ldiv, 1) := by decide +kernel
theorem dL_holds_356 : decode cL_holds 356 = .ok (.aload_n 1, 1) := by decide +kernel
theorem dL_holds_357 : decode cL_holds 357 = .ok (.bipush 6, 2) := by decide +kernel
theorem dL_holds_359 : decode cL_holds 359 = .ok (.iaload, 1) := by decide +kernel
theorem dL_holds_360 : decode cL_holds 360 = .ok (.i2l, 1) := by decide +kernel
theorem dL_holds_361 : decode cL_holds 361 = .ok (.lcmp, 1) := by decide +kernel
theorem dL_holds_362 : decode cL_holds 362 = .ok (.ifCond .gt 7, 3) := by decide +kernel
theorem dL_holds_365 : decode cL_holds 365 = .ok (.iconst 1, 1) := by decide +kernel
theorem dL_holds_366 : decode cL_holds 366 = .ok (.goto 4, 3) := by decide +kernel
theorem dL_holds_369 : decode cL_holds 369 = .ok (.iconst 0, 1) := by decide +kernel
theorem dL_holds_370 : decode cL_holds 370 = .ok (.istore_n 3, 1) := by decide +kernel
theorem dL_holds_371 : decode cL_holds 371 = .ok (.lload 13, 2) := by decide +kernel
theorem dL_holds_373 : decode cL_holds 373 = .ok (.lstore 8, 2) := by decide +kernel
theorem dL_holds_375 : decode cL_holds 375 = .ok (.iinc 10 7, 3) := by decide +kernel
theorem dL_holds_378 : decode cL_holds 378 = .ok (.goto (-150), 3) := by decide +kernel
theorem dL_holds_381 : decode cL_holds 381 = .ok (.iinc 4 1, 3) := by decide +kernel
theorem dL_holds_384 : decode cL_holds 384 = .ok (.goto (-372), 3) := by decide +kernel
theorem dL_holds_387 : decode cL_holds 387 = .ok (.iconst 0, 1) := by decide +kernel
theorem dL_holds_388 : decode cL_holds 388 = .ok (.istore 4, 2) := by decide +kernel
theorem dL_holds_390 : decode cL_holds 390 = .ok (.iload 4, 2) := by decide +kernel
theorem dL_holds_392 : decode cL_holds 392 = .ok (.aload_n 0, 1) := by decide +kernel
theorem dL_holds_393 : decode cL_holds 393 = .ok (.invokevirtual 117, 3) := by decide +kernel
theorem dL_holds_396 : decode cL_holds 396 = .ok (.if_icmp .ge 85, 3) := by decide +kernel
theorem dL_holds_399 : decode cL_holds 399 = .ok (.iload_n 3, 1) := by decide +kernel
theorem dL_holds_400 : decode cL_holds 400 = .ok (.ifCond .eq 81, 3) := by decide +kernel
theorem dL_holds_403 : decode cL_holds 403 = .ok (.ldc 116, 2) := by decide +kernel
theorem dL_holds_405 : decode cL_holds 405 = .ok (.istore 5, 2) := by decide +kernel
theorem dL_holds_407 : decode cL_holds 407 = .ok (.iconst 0, 1) := by decide +kernel
theorem dL_holds_408 : decode cL_holds 408 = .ok (.istore 6, 2) := by decide +kernel
theorem dL_holds_410 : decode cL_holds 410 = .ok (.iload_n 3, 1) := by decide +kernel
theorem dL_holds_411 : decode cL_holds 411 = .ok (.ifCond .eq 64, 3) := by decide +kernel
theorem dL_holds_414 : decode cL_holds 414 = .ok (.aload_n 0, 1) := by decide +kernel
theorem dL_holds_415 : decode cL_holds 415 = .ok (.iload 4, 2) := by decide +kernel
theorem dL_holds_417 : decode cL_holds 417 = .ok (.iload 6, 2) := by decide +kernel
theorem dL_holds_419 : decode cL_holds 419 = .ok (.invokestatic 174, 3) := by decide +kernel
theorem dL_holds_422 : decode cL_holds 422 = .ok (.ifCond .lt 53, 3) := by decide +kernel
theorem dL_holds_425 : decode cL_holds 425 = .ok (.aload_n 0, 1) := by decide +kernel
theorem dL_holds_426 : decode cL_holds 426 = .ok (.iload 4, 2) := by decide +kernel
theorem dL_holds_428 : decode cL_holds 428 = .ok (.iload 6, 2) := by decide +kernel
theorem dL_holds_430 : decode cL_holds 430 = .ok (.invokestatic 174, 3) := by decide +kernel
theorem dL_holds_433 : decode cL_holds 433 = .ok (.istore 7, 2) := by decide +kernel
theorem dL_holds_435 : decode cL_holds 435 = .ok (.aload_n 0, 1) := by decide +kernel
theorem dL_holds_436 : decode cL_holds 436 = .ok (.iload 7, 2) := by decide +kernel
theorem dL_holds_438 : decode cL_holds 438 = .ok (.invokestatic 154, 3) := by decide +kernel
theorem dL_holds_441 : decode cL_holds 441 = .ok (.ifCond .ne 18, 3) := by decide +kernel
theorem dL_holds_444 : decode cL_holds 444 = .ok (.aload_n 0, 1) := by decide +kernel
theorem dL_holds_445 : decode cL_holds 445 = .ok (.iload 7, 2) := by decide +kernel
theorem dL_holds_447 : decode cL_holds 447 = .ok (.invokestatic 164, 3) := by decide +kernel
theorem dL_holds_450 : decode cL_holds 450 = .ok (.iload 5, 2) := by decide +kernel
theorem dL_holds_452 : decode cL_holds 452 = .ok (.if_icmp .gt 7, 3) := by decide +kernel
theorem dL_holds_455 : decode cL_holds 455 = .ok (.iconst 1, 1) := by decide +kernel
theorem dL_holds_456 : decode cL_holds 456 = .ok (.goto 4, 3) := by decide +kernel
theorem dL_holds_459 : decode cL_holds 459 = .ok (.iconst 0, 1) := by decide +kernel
theorem dL_holds_460 : decode cL_holds 460 = .ok (.istore_n 3, 1) := by decide +kernel
theorem dL_holds_461 : decode cL_holds 461 = .ok (.aload_n 0, 1) := by decide +kernel
theorem dL_holds_462 : decode cL_holds 462 = .ok (.iload 7, 2) := by decide +kernel
theorem dL_holds_464 : decode cL_holds 464 = .ok (.invokestatic 164, 3) := by decide +kernel
theorem dL_holds_467 : decode cL_holds 467 = .ok (.istore 5, 2) := by decide +kernel
theorem dL_holds_469 : decode cL_holds 469 = .ok (.iinc 6 1, 3) := by decide +kernel
theorem dL_holds_472 : decode cL_holds 472 = .ok (.goto (-62), 3) := by decide +kernel
theorem dL_holds_475 : decode cL_holds 475 = .ok (.iinc 4 1, 3) := by decide +kernel
theorem dL_holds_478 : decode cL_holds 478 = .ok (.goto (-88), 3) := by decide +kernel
theorem dL_holds_481 : decode cL_holds 481 = .ok (.iload_n 3, 1) := by decide +kernel
theorem dL_holds_482 : decode cL_holds 482 = .ok (.ireturn, 1) := by decide +kernel
set_option maxRecDepth 20000 in
theorem ggL_ends_X9_tables : GoodIn wsL_ends wsX9_tables := goodIn_r _ [7, 8, 9, 10, 11, 12, 13, 14, 449, 450, 451, 452, 453, 454, 455, 456, 457, 458, 459, 460] (by decide +kernel) (by decide +kernel)
set_option maxRecDepth 20000 in
theorem gL_ends_X9_tables : GoodIn wsL_ends (wsV RL 117 RX9 yX9_tables wsX9_tables) := goodIn_app (goodIn_of _ (by decide +kernel)) ggL_ends_X9_tables
set_option maxRecDepth 20000 in
theorem ggL_ends_L_gameAt : GoodIn wsL_ends wsL_gameAt := goodIn_ca (goodIn_r _ [18, 19, 20, 21, 22, 23, 6, 24, 25, 26, 27, 28, 29, 30, 31, 8, 32, 9, 10, 11, 12, 13, 14, 33, 34, 35, 36, 37, 38, 39, 40, 41, 42, 43, 44, 45, 46, 47, 48, 49, 461, 462, 463, 464, 465, 466, 467, 468, 449, 450, 451, 452, 453, 454, 455, 456, 457, 458, 459, 460] (by decide +kernel) (by decide +kernel)) (goodIn_sub (fun _ h => List.mem_cons_of_mem _ (List.mem_append_left _ (List.mem_append_left _ (List.mem_append_right _ h)))) (by decide +kernel))
set_option maxRecDepth 20000 in
theorem gL_ends_L_gameAt : GoodIn wsL_ends (va_wsS RL 152 yL_gameAt wsL_gameAt) := goodIn_app (goodIn_of _ (by decide +kernel)) ggL_ends_L_gameAt
set_option maxRecDepth 20000 in
theorem ggL_ends_L_balls : GoodIn wsL_ends wsL_balls := goodIn_ca (goodIn_r _ [52, 19, 20, 53, 54, 55, 6, 56, 57, 58, 59, 60, 61, 30, 31, 62, 63, 9, 10, 11, 12, 13, 14, 33, 34, 35, 36, 37, 38, 39, 40, 41, 42, 43, 44, 45, 46, 47, 48, 49, 469, 470, 471, 472, 473, 474, 449, 450, 451, 452, 453, 454, 455, 456, 457, 458, 459, 460] (by decide +kernel) (by decide +kernel)) (goodIn_sub (fun _ h => List.mem_cons_of_mem _ (List.mem_append_left _ (List.mem_append_left _ (List.mem_append_right _ h)))) (by decide +kernel))
set_option maxRecDepth 20000 in
theorem gL_ends_L_balls : GoodIn wsL_ends (va_wsS RL 154 yL_balls wsL_balls) := goodIn_app (goodIn_of _ (by decide +kernel)) ggL_ends_L_balls
set_option maxRecDepth 20000 in
theorem ggL_ends_L_score : GoodIn wsL_ends wsL_score := goodIn_ca (goodIn_r _ [66, 19, 20, 67, 68, 69, 6, 70, 71, 72, 58, 59, 60, 61, 30, 31, 62, 63, 9, 10, 11, 12, 13, 14, 33, 34, 35, 36, 37, 38, 39, 40, 41, 42, 43, 44, 45, 46, 47, 48, 49, 469, 470, 471, 472, 473, 474, 475, 476, 477, 478, 449, 450, 451, 452, 453, 454, 455, 456, 457, 458, 459, 460] (by decide +kernel) (by decide +kernel)) (goodIn_sub (fun _ h => List.mem_cons_of_mem _ (List.mem_append_left _ (List.mem_append_left _ (List.mem_append_right _ h)))) (by decide +kernel))
set_option maxRecDepth 20000 in
theorem gL_ends_L_score : GoodIn wsL_ends (va_wsS RL 159 yL_score wsL_score) := goodIn_app (goodIn_of _ (by decide +kernel)) ggL_ends_L_score
set_option maxRecDepth 20000 in
theorem ggL_ends_L_shoot : GoodIn wsL_ends wsL_shoot := goodIn_ca (goodIn_ca (goodIn_ca (goodIn_r _ [75, 19, 76, 77, 20, 78, 2, 79, 80, 81, 6, 82, 83, 84, 25, 62, 63, 71, 72, 85, 86, 87, 57, 26, 27, 28, 29, 30, 31, 8, 32, 9, 10, 11, 12, 13, 14, 33, 34, 35, 36, 37, 38, 39, 40, 41, 42, 43, 44, 45, 46, 47, 48, 49, 88, 89, 90, 91, 92, 93, 94, 95, 96, 97, 98, 99, 100, 101, 102, 103, 104, 105, 106, 107, 108, 109, 110, 111, 112, 113, 114, 115, 116, 117, 118, 119, 120, 121, 122, 123, 124, 125, 126, 127, 128, 129, 130, 131, 132, 133, 134, 135, 136, 137, 138, 139, 140, 141, 142, 143, 144, 145, 146, 147, 148, 149, 150, 151, 152, 153, 154, 155, 156, 157, 158, 159, 160, 161, 162, 163, 164, 165, 166, 167, 168, 169, 170, 171, 172, 173, 174, 175, 176, 177, 178, 179, 180, 181, 182, 183, 184, 185, 186, 187, 188, 189, 190, 191, 192, 193, 194, 195, 196, 197, 198, 199, 200, 201, 202, 203, 204, 205, 206, 207, 208, 209, 210, 211, 212, 213, 214, 215, 216, 217, 218, 219, 461, 462, 463, 464, 465, 466, 467, 468, 449, 450, 451, 452, 453, 454, 455, 456, 457, 469, 470, 471, 472, 473, 474, 475, 476, 477, 478, 479, 480, 481, 482, 458, 459, 460, 483, 484, 485, 486, 487, 488, 489, 490, 491, 492, 493, 494, 495, 496] (by decide +kernel) (by decide +kernel)) (goodIn_sub (fun _ h => List.mem_cons_of_mem _ (List.mem_append_left _ (List.mem_append_right _ h))) (by decide +kernel))) (goodIn_sub (fun _ h => List.mem_cons_of_mem _ (List.mem_append_left _ (List.mem_append_left _ (List.mem_append_right _ h)))) (by decide +kernel))) (goodIn_sub (fun _ h => List.mem_cons_of_mem _ (List.mem_append_right _ h)) (by decide +kernel))
set_option maxRecDepth 20000 in
theorem gL_ends_L_shoot : GoodIn wsL_ends (va_wsS RL 149 yL_shoot wsL_shoot) := goodIn_app (goodIn_of _ (by decide +kernel)) ggL_ends_L_shoot
set_option maxRecDepth 20000 in
theorem ggL_ends_L_byLog : GoodIn wsL_ends wsL_byLog := goodIn_ca (goodIn_r _ [222, 19, 20, 223, 224, 225, 6, 226, 58, 59, 60, 61, 30, 31, 62, 63, 9, 10, 11, 12, 13, 14, 33, 34, 35, 36, 37, 38, 39, 40, 41, 42, 43, 44, 45, 46, 47, 48, 49, 227, 228, 229, 230, 231, 232, 233, 72, 234, 235, 236, 183, 237, 185, 187, 238, 239, 240, 173, 241, 176, 242, 243, 244, 245, 246, 247, 248, 249, 250, 251, 252, 253, 254, 255, 181, 182, 184, 186, 188, 189, 190, 191, 192, 193, 194, 195, 196, 197, 198, 199, 200, 201, 202, 203, 204, 205, 206, 207, 208, 209, 210, 211, 212, 449, 450, 451, 452, 453, 454, 455, 456, 457, 458, 459, 460, 469, 470, 471, 472, 473, 474, 475, 476, 477, 478, 490, 491, 492, 493, 494, 495, 496] (by decide +kernel) (by decide +kernel)) (goodIn_sub (fun _ h => List.mem_cons_of_mem _ (List.mem_append_left _ (List.mem_append_left _ (List.mem_append_right _ h)))) (by decide +kernel))
set_option maxRecDepth 20000 in
theorem gL_ends_L_byLog : GoodIn wsL_ends (va_wsS RL 161 yL_byLog wsL_byLog) := goodIn_app (goodIn_of _ (by decide +kernel)) ggL_ends_L_byLog
set_option maxRecDepth 20000 in
theorem ggL_ends_L_way : GoodIn wsL_ends wsL_way := goodIn_ca (goodIn_r _ [258, 19, 20, 259, 260, 261, 6, 262, 263, 8, 264, 265, 266, 267, 268, 269, 30, 31, 270, 271, 272, 273, 274, 275, 276, 277, 278, 279, 280, 281, 282, 283, 284, 285, 286, 287, 10, 11, 12, 13, 14, 288, 34, 35, 36, 37, 38, 39, 40, 41, 42, 43, 44, 45, 46, 47, 48, 49, 289, 290, 291, 127, 292, 293, 294, 295, 296, 297, 298, 129, 130, 299, 131, 132, 300, 154, 155, 136, 156, 157, 301, 302, 303, 304, 305, 149, 116, 150, 306, 307, 308, 309, 310, 311, 312, 313, 314, 315, 115, 117, 316, 317, 318, 319, 449, 450, 451, 452, 453, 454, 455, 456, 457, 497, 498, 499, 500, 501, 502, 503, 461, 462, 463, 464, 465, 466, 467, 468, 458, 459, 460, 483, 484, 485, 486, 487, 488, 489] (by decide +kernel) (by decide +kernel)) (goodIn_sub (fun _ h => List.mem_cons_of_mem _ (List.mem_append_left _ (List.mem_append_left _ (List.mem_append_right _ h)))) (by decide +kernel))
set_option maxRecDepth 20000 in
theorem gL_ends_L_way : GoodIn wsL_ends (va_wsS RL 188 yL_way wsL_way) := goodIn_app (goodIn_of _ (by decide +kernel)) ggL_ends_L_way
set_option maxRecDepth 20000 in
theorem ggL_ends_L_planned : GoodIn wsL_ends wsL_planned := goodIn_ca (goodIn_r _ [322, 19, 20, 323, 324, 325, 6, 326, 263, 8, 264, 327, 266, 267, 268, 269, 30, 31, 270, 271, 272, 273, 274, 275, 276, 277, 278, 279, 280, 281, 282, 283, 284, 285, 286, 287, 10, 11, 12, 13, 14, 288, 34, 35, 36, 37, 38, 39, 40, 41, 42, 43, 44, 45, 46, 47, 48, 49, 289, 290, 291, 127, 292, 293, 294, 295, 296, 297, 298, 129, 130, 299, 131, 132, 300, 154, 155, 136, 156, 157, 301, 302, 303, 304, 305, 149, 116, 150, 306, 307, 308, 309, 310, 311, 312, 313, 314, 315, 115, 117, 316, 317, 318, 319, 328, 329, 330, 331, 332, 333, 334, 449, 450, 451, 452, 453, 454, 455, 456, 457, 497, 498, 499, 500, 501, 502, 503, 461, 462, 463, 464, 465, 466, 467, 468, 458, 459, 460, 483, 484, 485, 486, 487, 488, 489] (by decide +kernel) (by decide +kernel)) (goodIn_sub (fun _ h => List.mem_cons_of_mem _ (List.mem_append_left _ (List.mem_append_left _ (List.mem_append_right _ h)))) (by decide +kernel))
set_option maxRecDepth 20000 in
theorem gL_ends_L_planned : GoodIn wsL_ends (va_wsS RL 190 yL_planned wsL_planned) := goodIn_app (goodIn_of _ (by decide +kernel)) ggL_ends_L_planned
set_option maxRecDepth 20000 in
theorem ggL_ends_L_box : GoodIn wsL_ends wsL_box := goodIn_ca (goodIn_r _ [337, 19, 20, 338, 339, 340, 6, 341, 342, 26, 27, 28, 29, 30, 31, 8, 32, 9, 10, 11, 12, 13, 14, 33, 34, 35, 36, 37, 38, 39, 40, 41, 42, 43, 44, 45, 46, 47, 48, 49, 461, 462, 463, 464, 465, 466, 467, 468, 449, 450, 451, 452, 453, 454, 455, 456, 457, 458, 459, 460] (by decide +kernel) (by decide +kernel)) (goodIn_sub (fun _ h => List.mem_cons_of_mem _ (List.mem_append_left _ (List.mem_append_left _ (List.mem_append_right _ h)))) (by decide +kernel))
set_option maxRecDepth 20000 in
theorem gL_ends_L_box : GoodIn wsL_ends (va_wsS RL 178 yL_box wsL_box) := goodIn_app (goodIn_of _ (by decide +kernel)) ggL_ends_L_box
set_option maxRecDepth 20000 in
theorem ggL_ends_L_parts : GoodIn wsL_ends wsL_parts := goodIn_ca (goodIn_ca (goodIn_r _ [345, 19, 76, 20, 78, 346, 347, 348, 6, 349, 266, 267, 268, 269, 30, 31, 270, 271, 88, 89, 90, 91, 92, 350, 351, 352, 353, 354, 355, 449, 450, 451, 452, 453, 454, 455, 456, 457, 497, 498] (by decide +kernel) (by decide +kernel)) (goodIn_sub (fun _ h => List.mem_cons_of_mem _ (List.mem_append_left _ (List.mem_append_left _ (List.mem_append_right _ h)))) (by decide +kernel))) (goodIn_sub (fun _ h => List.mem_cons_of_mem _ (List.mem_append_right _ h)) (by decide +kernel))
set_option maxRecDepth 20000 in
theorem gL_ends_L_parts : GoodIn wsL_ends (va_wsS RL 184 yL_parts wsL_parts) := goodIn_app (goodIn_of _ (by decide +kernel)) ggL_ends_L_parts
set_option maxRecDepth 20000 in
theorem ggL_ends_L_load : GoodIn wsL_ends wsL_load := goodIn_ca (goodIn_ca (goodIn_ca (goodIn_r _ [358, 19, 76, 77, 20, 78, 2, 359, 360, 361, 6, 362, 83, 84, 266, 267, 268, 269, 30, 31, 270, 271, 88, 89, 90, 91, 92, 350, 351, 352, 353, 354, 355, 363, 364, 365, 366, 449, 450, 451, 452, 453, 454, 455, 456, 457, 497, 498] (by decide +kernel) (by decide +kernel)) (goodIn_sub (fun _ h => List.mem_cons_of_mem _ (List.mem_append_left _ (List.mem_append_right _ h))) (by decide +kernel))) (goodIn_sub (fun _ h => List.mem_cons_of_mem _ (List.mem_append_left _ (List.mem_append_left _ (List.mem_append_right _ h)))) (by decide +kernel))) (goodIn_sub (fun _ h => List.mem_cons_of_mem _ (List.mem_append_right _ h)) (by decide +kernel))
set_option maxRecDepth 20000 in
theorem gL_ends_L_load : GoodIn wsL_ends (va_wsS RL 182 yL_load wsL_load) := goodIn_app (goodIn_of _ (by decide +kernel)) ggL_ends_L_load
set_option maxRecDepth 20000 in
theorem ggL_ends_L_go : GoodIn wsL_ends wsL_go := goodIn_ca (goodIn_ca (goodIn_r _ [369, 19, 77, 20, 2, 370, 371, 372, 6, 373, 83, 84, 263, 8, 264, 327, 374, 266, 267, 268, 269, 30, 31, 270, 271, 272, 273, 274, 275, 276, 277, 278, 279, 280, 281, 282, 283, 284, 285, 286, 287, 10, 11, 12, 13, 14, 288, 34, 35, 36, 37, 38, 39, 40, 41, 42, 43, 44, 45, 46, 47, 48, 49, 289, 290, 291, 127, 292, 293, 294, 295, 296, 297, 298, 129, 130, 299, 131, 132, 300, 154, 155, 136, 156, 157, 301, 302, 303, 304, 305, 149, 116, 150, 306, 307, 308, 309, 310, 311, 312, 313, 314, 315, 115, 117, 316, 317, 318, 319, 331, 332, 333, 334, 26, 27, 28, 29, 32, 9, 33, 375, 376, 377, 378, 379, 380, 381, 382, 383, 384, 166, 167, 169, 250, 385, 386, 387, 353, 388, 389, 351, 352, 354, 355, 390, 364, 365, 366, 391, 392, 393, 168, 394, 449, 450, 451, 452, 453, 454, 455, 456, 457, 497, 498, 499, 500, 501, 502, 503, 461, 462, 463, 464, 465, 466, 467, 468, 458, 459, 460, 483, 484, 485, 486, 487, 488, 489] (by decide +kernel) (by decide +kernel)) (goodIn_sub (fun _ h => List.mem_cons_of_mem _ (List.mem_append_left _ (List.mem_append_right _ h))) (by decide +kernel))) (goodIn_sub (fun _ h => List.mem_cons_of_mem _ (List.mem_append_left _ (List.mem_append_left _ (List.mem_append_right _ h)))) (by decide +kernel))
set_option maxRecDepth 20000 in
theorem gL_ends_L_go : GoodIn wsL_ends (va_wsS RL 192 yL_go wsL_go) := goodIn_app (goodIn_of _ (by decide +kernel)) ggL_ends_L_go
set_option maxRecDepth 20000 in
theorem ggL_ends_L_sticks : GoodIn wsL_ends wsL_sticks := goodIn_ca (goodIn_r _ [397, 19, 20, 398, 399, 400, 6, 401, 169, 26, 27, 28, 29, 30, 31, 8, 32, 9, 10, 11, 12, 13, 14, 33, 34, 35, 36, 37, 38, 39, 40, 41, 42, 43, 44, 45, 46, 47, 48, 49, 402, 403, 404, 166, 167, 483, 484, 485, 486, 487, 488, 489, 449, 450, 451, 452, 453, 454, 455, 456, 457, 458, 459, 460, 461, 462, 463, 464, 465, 466, 467, 468] (by decide +kernel) (by decide +kernel)) (goodIn_sub (fun _ h => List.mem_cons_of_mem _ (List.mem_append_left _ (List.mem_append_left _ (List.mem_append_right _ h)))) (by decide +kernel))
set_option maxRecDepth 20000 in
theorem gL_ends_L_sticks : GoodIn wsL_ends (va_wsS RL 142 yL_sticks wsL_sticks) := goodIn_app (goodIn_of _ (by decide +kernel)) ggL_ends_L_sticks
set_option maxRecDepth 20000 in
theorem ggL_ends_L_wear : GoodIn wsL_ends wsL_wear := goodIn_ca (goodIn_r _ [407, 19, 20, 408, 409, 410, 6, 411, 168, 26, 27, 28, 29, 30, 31, 8, 32, 9, 10, 11, 12, 13, 14, 33, 34, 35, 36, 37, 38, 39, 40, 41, 42, 43, 44, 45, 46, 47, 48, 49, 402, 403, 404, 166, 167, 483, 484, 485, 486, 487, 488, 489, 449, 450, 451, 452, 453, 454, 455, 456, 457, 458, 459, 460, 461, 462, 463, 464, 465, 466, 467, 468] (by decide +kernel) (by decide +kernel)) (goodIn_sub (fun _ h => List.mem_cons_of_mem _ (List.mem_append_left _ (List.mem_append_left _ (List.mem_append_right _ h)))) (by decide +kernel))
set_option maxRecDepth 20000 in
theorem gL_ends_L_wear : GoodIn wsL_ends (va_wsS RL 144 yL_wear wsL_wear) := goodIn_app (goodIn_of _ (by decide +kernel)) ggL_ends_L_wear
set_option maxRecDepth 20000 in
theorem ggL_ends_X9_games : GoodIn wsL_ends wsX9_games := goodIn_r _ [415, 62, 9, 10, 11, 12, 13, 14, 449, 450, 451, 452, 453, 454, 455, 456, 457, 458, 459, 460] (by decide +kernel) (by decide +kernel)
set_option maxRecDepth 20000 in
theorem gL_ends_X9_games : GoodIn wsL_ends (wsV RL 121 RX9 yX9_games wsX9_games) := goodIn_app (goodIn_of _ (by decide +kernel)) ggL_ends_X9_games
set_option maxRecDepth 20000 in
theorem ggL_ends_L_logged : GoodIn wsL_ends wsL_logged := goodIn_ca (goodIn_r _ [418, 19, 20, 419, 420, 421, 6, 422, 232, 58, 59, 60, 61, 30, 31, 62, 63, 9, 10, 11, 12, 13, 14, 33, 34, 35, 36, 37, 38, 39, 40, 41, 42, 43, 44, 45, 46, 47, 48, 49, 469, 470, 471, 472, 473, 474, 449, 450, 451, 452, 453, 454, 455, 456, 457, 458, 459, 460] (by decide +kernel) (by decide +kernel)) (goodIn_sub (fun _ h => List.mem_cons_of_mem _ (List.mem_append_left _ (List.mem_append_left _ (List.mem_append_right _ h)))) (by decide +kernel))
set_option maxRecDepth 20000 in
theorem gL_ends_L_logged : GoodIn wsL_ends (va_wsS RL 166 yL_logged wsL_logged) := goodIn_app (goodIn_of _ (by decide +kernel)) ggL_ends_L_logged
set_option maxRecDepth 20000 in
theorem ggL_ends_L_entry : GoodIn wsL_ends wsL_entry := goodIn_ca (goodIn_r _ [425, 19, 426, 427, 428, 429, 6, 430, 232, 58, 59, 60, 61, 30, 31, 62, 63, 9, 10, 11, 12, 13, 14, 33, 34, 35, 36, 37, 38, 39, 40, 41, 42, 43, 44, 45, 46, 47, 48, 49, 328, 329, 330, 238, 239, 240, 173, 241, 176, 469, 470, 471, 472, 473, 474, 449, 450, 451, 452, 453, 454, 455, 456, 457, 458, 459, 460] (by decide +kernel) (by decide +kernel)) (goodIn_sub (fun _ h => List.mem_cons_of_mem _ (List.mem_append_left _ (List.mem_append_left _ (List.mem_append_right _ h)))) (by decide +kernel))
set_option maxRecDepth 20000 in
theorem gL_ends_L_entry : GoodIn wsL_ends (va_wsS RL 168 yL_entry wsL_entry) := goodIn_app (goodIn_of _ (by decide +kernel)) ggL_ends_L_entry
set_option maxRecDepth 20000 in
theorem ggL_ends_L_valid : GoodIn wsL_ends wsL_valid := goodIn_ca (goodIn_r _ [433, 19, 20, 434, 435, 436, 6, 437, 58, 59, 60, 61, 30, 31, 62, 63, 9, 10, 11, 12, 13, 14, 33, 34, 35, 36, 37, 38, 39, 40, 41, 42, 43, 44, 45, 46, 47, 48, 49, 227, 228, 229, 230, 231, 232, 233, 72, 234, 235, 236, 183, 237, 185, 187, 238, 239, 240, 173, 241, 176, 242, 243, 244, 245, 246, 247, 248, 249, 250, 251, 252, 253, 254, 255, 181, 182, 184, 186, 188, 189, 190, 191, 192, 193, 194, 195, 196, 197, 198, 199, 200, 201, 202, 203, 204, 205, 206, 207, 208, 209, 210, 211, 212, 449, 450, 451, 452, 453, 454, 455, 456, 457, 458, 459, 460, 469, 470, 471, 472, 473, 474, 475, 476, 477, 478, 490, 491, 492, 493, 494, 495, 496] (by decide +kernel) (by decide +kernel)) (goodIn_sub (fun _ h => List.mem_cons_of_mem _ (List.mem_append_left _ (List.mem_append_left _ (List.mem_append_right _ h)))) (by decide +kernel))
set_option maxRecDepth 20000 in
theorem gL_ends_L_valid : GoodIn wsL_ends (va_wsS RL 164 yL_valid wsL_valid) := goodIn_app (goodIn_of _ (by decide +kernel)) ggL_ends_L_valid
set_option maxRecDepth 20000 in
theorem ggL_ends_L_wanted : GoodIn wsL_ends wsL_wanted := goodIn_ca (goodIn_r _ [440, 76, 78, 441, 442, 443, 6, 444, 8, 32, 270, 271, 445, 446, 116, 447, 88, 89, 90, 91, 92, 9, 10, 11, 12, 13, 14, 33, 34, 35, 36, 37, 38, 39, 40, 41, 42, 43, 44, 45, 46, 47, 48, 49, 448, 296, 297, 127, 298, 129, 130, 299, 131, 132, 300, 154, 155, 136, 156, 157, 350, 351, 352, 353, 354, 355, 449, 450, 451, 452, 453, 454, 455, 456, 457, 458, 459, 460, 461, 462, 463, 464, 465, 466, 467, 468, 483, 484, 485, 486, 487, 488, 489, 497, 498] (by decide +kernel) (by decide +kernel)) (goodIn_sub (fun _ h => List.mem_cons_of_mem _ (List.mem_append_right _ h)) (by decide +kernel))
set_option maxRecDepth 20000 in
theorem gL_ends_L_wanted : GoodIn wsL_ends (va_wsS RL 186 yL_wanted wsL_wanted) := goodIn_app (goodIn_of _ (by decide +kernel)) ggL_ends_L_wanted
theorem dL_ends_0 : decode cL_ends 0 = .ok (.iconst 1, 1) := by decide +kernel
theorem dL_ends_1 : decode cL_ends 1 = .ok (.istore_n 3, 1) := by decide +kernel
theorem dL_ends_2 : decode cL_ends 2 = .ok (.iconst 0, 1) := by decide +kernel
theorem dL_ends_3 : decode cL_ends 3 = .ok (.istore 4, 2) := by decide +kernel
theorem dL_ends_5 : decode cL_ends 5 = .ok (.iconst 0, 1) := by decide +kernel
theorem dL_ends_6 : decode cL_ends 6 = .ok (.istore 5, 2) := by decide +kernel
theorem dL_ends_8 : decode cL_ends 8 = .ok (.iload 5, 2) := by decide +kernel
theorem dL_ends_10 : decode cL_ends 10 = .ok (.aload_n 0, 1) := by decide +kernel
theorem dL_ends_11 : decode cL_ends 11 = .ok (.invokevirtual 117, 3) := by decide +kernel
theorem dL_ends_14 : decode cL_ends 14 = .ok (.if_icmp .ge 130, 3) := by decide +kernel
theorem dL_ends_17 : decode cL_ends 17 = .ok (.iload_n 3, 1) := by decide +kernel
theorem dL_ends_18 : decode cL_ends 18 = .ok (.ifCond .eq 126, 3) := by decide +kernel
theorem dL_ends_21 : decode cL_ends 21 = .ok (.aload_n 0, 1) := by decide +kernel
theorem dL_ends_22 : decode cL_ends 22 = .ok (.iload 5, 2) := by decide +kernel
theorem dL_ends_24 : decode cL_ends 24 = .ok (.invokestatic 152, 3) := by decide +kernel
theorem dL_ends_27 : decode cL_ends 27 = .ok (.ifCond .lt 111, 3) := by decide +kernel
theorem dL_ends_30 : decode cL_ends 30 = .ok (.iload_n 3, 1) := by decide +kernel
theorem dL_ends_31 : decode cL_ends 31 = .ok (.ifCond .eq 107, 3) := by decide +kernel
theorem dL_ends_34 : decode cL_ends 34 = .ok (.aload_n 0, 1) := by decide +kernel
theorem dL_ends_35 : decode cL_ends 35 = .ok (.iload 5, 2) := by decide +kernel
theorem dL_ends_37 : decode cL_ends 37 = .ok (.invokestatic 152, 3) := by decide +kernel
theorem dL_ends_40 : decode cL_ends 40 = .ok (.istore 6, 2) := by decide +kernel
theorem dL_ends_42 : decode cL_ends 42 = .ok (.aload_n 0, 1) := by decide +kernel
theorem dL_ends_43 : decode cL_ends 43 = .ok (.iload 6, 2) := by decide +kernel
theorem dL_ends_45 : decode cL_ends 45 = .ok (.invokestatic 154, 3) := by decide +kernel
theorem dL_ends_48 : decode cL_ends 48 = .ok (.istore 7, 2) := by decide +kernel
theorem dL_ends_50 : decode cL_ends 50 = .ok (.aload_n 0, 1) := by decide +kernel
theorem dL_ends_51 : decode cL_ends 51 = .ok (.iload 6, 2) := by decide +kernel
theorem dL_ends_53 : decode cL_ends 53 = .ok (.invokestatic 159, 3) := by decide +kernel
theorem dL_ends_56 : decode cL_ends 56 = .ok (.istore 8, 2) := by decide +kernel
theorem dL_ends_58 : decode cL_ends 58 = .ok (.aload_n 0, 1) := by decide +kernel
theorem dL_ends_59 : decode cL_ends 59 = .ok (.iload 5, 2) := by decide +kernel
theorem dL_ends_61 : decode cL_ends 61 = .ok (.iload_n 2, 1) := by decide +kernel
theorem dL_ends_62 : decode cL_ends 62 = .ok (.sipush 160, 3) := by decide +kernel
theorem dL_ends_65 : decode cL_ends 65 = .ok (.irem, 1) := by decide +kernel
theorem dL_ends_66 : decode cL_ends 66 = .ok (.iload_n 2, 1) := by decide +kernel
theorem dL_ends_67 : decode cL_ends 67 = .ok (.sipush 160, 3) := by decide +kernel
theorem dL_ends_70 : decode cL_ends 70 = .ok (.idiv, 1) := by decide +kernel
theorem dL_ends_71 : decode cL_ends 71 = .ok (.bipush 61, 2) := by decide +kernel
theorem dL_ends_73 : decode cL_ends 73 = .ok (.irem, 1) := by decide +kernel
theorem dL_ends_74 : decode cL_ends 74 = .ok (.bipush 30, 2) := by decide +kernel
theorem dL_ends_76 : decode cL_ends 76 = .ok (.isub, 1) := by decide +kernel
theorem dL_ends_77 : decode cL_ends 77 = .ok (.iconst 0, 1) := by decide +kernel
theorem dL_ends_78 : decode cL_ends 78 = .ok (.invokestatic 149, 3) := by decide +kernel
theorem dL_ends_81 : decode cL_ends 81 = .ok (.istore 9, 2) := by decide +kernel
theorem dL_ends_83 : decode cL_ends 83 = .ok (.iload 9, 2) := by decide +kernel
theorem dL_ends_85 : decode cL_ends 85 = .ok (.ifCond .lt 48, 3) := by decide +kernel
theorem dL_ends_88 : decode cL_ends 88 = .ok (.aload_n 0, 1) := by decide +kernel
theorem dL_ends_89 : decode cL_ends 89 = .ok (.iload 6, 2) := by decide +kernel
theorem dL_ends_91 : decode cL_ends 91 = .ok (.invokestatic 159, 3) := by decide +kernel
theorem dL_ends_94 : decode cL_ends 94 = .ok (.iload 8, 2) := by decide +kernel
theorem dL_ends_96 : decode cL_ends 96 = .ok (.iload 9, 2) := by decide +kernel
theorem dL_ends_98 : decode cL_ends 98 = .ok (.iadd, 1) := by decide +kernel
theorem dL_ends_99 : decode cL_ends 99 = .ok (.if_icmp .ne 34, 3) := by decide +kernel
theorem dL_ends_102 : decode cL_ends 102 = .ok (.aload_n 0, 1) := by decide +kernel
theorem dL_ends_103 : decode cL_ends 103 = .ok (.iload 6, 2) := by decide +kernel
theorem dL_ends_105 : decode cL_ends 105 = .ok (.invokestatic 154, 3) := by decide +kernel
theorem dL_ends_108 : decode cL_ends 108 = .ok (.iload 7, 2) := by decide +kernel
theorem dL_ends_110 : decode cL_ends 110 = .ok (.iconst 1, 1) := by decide +kernel
theorem dL_ends_111 : decode cL_ends 111 = .ok (.isub, 1) := by decide +kernel
theorem dL_ends_112 : decode cL_ends 112 = .ok (.if_icmp .ne 21, 3) := by decide +kernel
theorem dL_ends_115 : decode cL_ends 115 = .ok (.aload_n 0, 1) := by decide +kernel
theorem dL_ends_116 : decode cL_ends 116 = .ok (.iload 6, 2) := by decide +kernel
theorem dL_ends_118 : decode cL_ends 118 = .ok (.invokestatic 161, 3) := by decide +kernel
theorem dL_ends_121 : decode cL_ends 121 = .ok (.iload 8, 2) := by decide +kernel
theorem dL_ends_123 : decode cL_ends 123 = .ok (.iload 9, 2) := by decide +kernel
theorem dL_ends_125 : decode cL_ends 125 = .ok (.iadd, 1) := by decide +kernel
theorem dL_ends_126 : decode cL_ends 126 = .ok (.if_icmp .ne 7, 3) := by decide +kernel
theorem dL_ends_129 : decode cL_ends 129 = .ok (.iconst 1, 1) := by decide +kernel
theorem dL_ends_130 : decode cL_ends 130 = .ok (.goto 4, 3) := by decide +kernel
theorem dL_ends_133 : decode cL_ends 133 = .ok (.iconst 0, 1) := by decide +kernel
theorem dL_ends_134 : decode cL_ends 134 = .ok (.istore_n 3, 1) := by decide +kernel
theorem dL_ends_135 : decode cL_ends 135 = .ok (.goto (-114), 3) := by decide +kernel
theorem dL_ends_138 : decode cL_ends 138 = .ok (.iinc 5 1, 3) := by decide +kernel
theorem dL_ends_141 : decode cL_ends 141 = .ok (.goto (-133), 3) := by decide +kernel
theorem dL_ends_144 : decode cL_ends 144 = .ok (.iconst 0, 1) := by decide +kernel
theorem dL_ends_145 : decode cL_ends 145 = .ok (.istore 5, 2) := by decide +kernel
theorem dL_ends_147 : decode cL_ends 147 = .ok (.iload 5, 2) := by decide +kernel
theorem dL_ends_149 : decode cL_ends 149 = .ok (.bipush 12, 2) := by decide +kernel
theorem dL_ends_151 : decode cL_ends 151 = .ok (.if_icmp .ge 142, 3) := by decide +kernel
theorem dL_ends_154 : decode cL_ends 154 = .ok (.iload_n 3, 1) := by decide +kernel
theorem dL_ends_155 : decode cL_ends 155 = .ok (.ifCond .eq 138, 3) := by decide +kernel
theorem dL_ends_158 : decode cL_ends 158 = .ok (.aload_n 0, 1) := by decide +kernel
theorem dL_ends_159 : decode cL_ends 159 = .ok (.iconst 0, 1) := by decide +kernel
theorem dL_ends_160 : decode cL_ends 160 = .ok (.invokestatic 188, 3) := by decide +kernel
theorem dL_ends_163 : decode cL_ends 163 = .ok (.aload_n 0, 1) := by decide +kernel
theorem dL_ends_164 : decode cL_ends 164 = .ok (.iconst 0, 1) := by decide +kernel
theorem dL_ends_165 : decode cL_ends 165 = .ok (.iconst 0, 1) := by decide +kernel
theorem dL_ends_166 : decode cL_ends 166 = .ok (.invokestatic 190, 3) := by decide +kernel
theorem dL_ends_169 : decode cL_ends 169 = .ok (.iadd, 1) := by decide +kernel
theorem dL_ends_170 : decode cL_ends 170 = .ok (.ifCond .lt 123, 3) := by decide +kernel
theorem dL_ends_173 : decode cL_ends 173 = .ok (.iconst 0, 1) := by decide +kernel
theorem dL_ends_174 : decode cL_ends 174 = .ok (.istore 4, 2) := by decide +kernel
theorem dL_ends_176 : decode cL_ends 176 = .ok (.iconst 0, 1) := by decide +kernel
theorem dL_ends_177 : decode cL_ends 177 = .ok (.istore 6, 2) := by decide +kernel
theorem dL_ends_179 : decode cL_ends 179 = .ok (.aload_n 0, 1) := by decide +kernel
theorem dL_ends_180 : decode cL_ends 180 = .ok (.iconst 0, 1) := by decide +kernel
theorem dL_ends_181 : decode cL_ends 181 = .ok (.iload 6, 2) := by decide +kernel
theorem dL_ends_183 : decode cL_ends 183 = .ok (.invokestatic 190, 3) := by decide +kernel
theorem dL_ends_186 : decode cL_ends 186 = .ok (.ifCond .lt 25, 3) := by decide +kernel
theorem dL_ends_189 : decode cL_ends 189 = .ok (.iload 4, 2) := by decide +kernel
theorem dL_ends_191 : decode cL_ends 191 = .ok (.aload_n 0, 1) := by decide +kernel
theorem dL_ends_192 : decode cL_ends 192 = .ok (.aload_n 0, 1) := by decide +kernel
theorem dL_ends_193 : decode cL_ends 193 = .ok (.iconst 0, 1) := by decide +kernel
theorem dL_ends_194 : decode cL_ends 194 = .ok (.iload 6, 2) := by decide +kernel
theorem dL_ends_196 : decode cL_ends 196 = .ok (.invokestatic 190, 3) := by decide +kernel
theorem dL_ends_199 : decode cL_ends 199 = .ok (.invokestatic 178, 3) := by decide +kernel
theorem dL_ends_202 : decode cL_ends 202 = .ok (.iadd, 1) := by decide +kernel
theorem dL_ends_203 : decode cL_ends 203 = .ok (.istore 4, 2) := by decide +kernel
theorem dL_ends_205 : decode cL_ends 205 = .ok (.iinc 6 1, 3) := by decide +kernel
theorem dL_ends_208 : decode cL_ends 208 = .ok (.goto (-29), 3) := by decide +kernel
theorem dL_ends_211 : decode cL_ends 211 = .ok (.iconst 0, 1) := by decide +kernel
theorem dL_ends_212 : decode cL_ends 212 = .ok (.istore 6, 2) := by decide +kernel
theorem dL_ends_214 : decode cL_ends 214 = .ok (.iload 6, 2) := by decide +kernel
theorem dL_ends_216 : decode cL_ends 216 = .ok (.iconst 2, 1) := by decide +kernel
theorem dL_ends_217 : decode cL_ends 217 = .ok (.if_icmp .ge 50, 3) := by decide +kernel
theorem dL_ends_220 : decode cL_ends 220 = .ok (.iload_n 3, 1) := by decide +kernel
theorem dL_ends_221 : decode cL_ends 221 = .ok (.ifCond .eq 46, 3) := by decide +kernel
theorem dL_ends_224 : decode cL_ends 224 = .ok (.bipush 20, 2) := by decide +kernel
theorem dL_ends_226 : decode cL_ends 226 = .ok (.aload_n 0, 1) := by decide +kernel
theorem dL_ends_227 : decode cL_ends 227 = .ok (.iconst 0, 1) := by decide +kernel
theorem dL_ends_228 : decode cL_ends 228 = .ok (.iload 6, 2) := by decide +kernel
theorem dL_ends_230 : decode cL_ends 230 = .ok (.invokestatic 184, 3) := by decide +kernel
theorem dL_ends_233 : decode cL_ends 233 = .ok (.isub, 1) := by decide +kernel
theorem dL_ends_234 : decode cL_ends 234 = .ok (.istore 7, 2) := by decide +kernel
theorem dL_ends_236 : decode cL_ends 236 = .ok (.iload 7, 2) := by decide +kernel
theorem dL_ends_238 : decode cL_ends 238 = .ok (.ifCond .eq 17, 3) := by decide +kernel
theorem dL_ends_241 : decode cL_ends 241 = .ok (.aload_n 0, 1) := by decide +kernel
theorem dL_ends_242 : decode cL_ends 242 = .ok (.iconst 0, 1) := by decide +kernel
theorem dL_ends_243 : decode cL_ends 243 = .ok (.iload 6, 2) := by decide +kernel
theorem dL_ends_245 : decode cL_ends 245 = .ok (.iload 7, 2) := by decide +kernel
theorem dL_ends_247 : decode cL_ends 247 = .ok (.invokestatic 182, 3) := by decide +kernel
theorem dL_ends_250 : decode cL_ends 250 = .ok (.bipush 20, 2) := by decide +kernel
theorem dL_ends_252 : decode cL_ends 252 = .ok (.if_icmp .ne 7, 3) := by decide +kernel
theorem dL_ends_255 : decode cL_ends 255 = .ok (.iconst 1, 1) := by decide +kernel
theorem dL_ends_256 : decode cL_ends 256 = .ok (.goto 4, 3) := by decide +kernel
theorem dL_ends_259 : decode cL_ends 259 = .ok (.iconst 0, 1) := by decide +kernel
theorem dL_ends_260 : decode cL_ends 260 = .ok (.istore_n 3, 1) := by decide +kernel
theorem dL_ends_261 : decode cL_ends 261 = .ok (.iinc 6 1, 3) := by decide +kernel
theorem dL_ends_264 : decode cL_ends 264 = .ok (.goto (-50), 3) := by decide +kernel
theorem dL_ends_267 : decode cL_ends 267 = .ok (.iload_n 3, 1) := by decide +kernel
theorem dL_ends_268 : decode cL_ends 268 = .ok (.ifCond .eq 17, 3) := by decide +kernel
theorem dL_ends_271 : decode cL_ends 271 = .ok (.aload_n 0, 1) := by decide +kernel
theorem dL_ends_272 : decode cL_ends 272 = .ok (.iconst 0, 1) := by decide +kernel
theorem dL_ends_273 : decode cL_ends 273 = .ok (.invokestatic 192, 3) := by decide +kernel
theorem dL_ends_276 : decode cL_ends 276 = .ok (.iload 4, 2) := by decide +kernel
theorem dL_ends_278 : decode cL_ends 278 = .ok (.if_icmp .ne 7, 3) := by decide +kernel
theorem dL_ends_281 : decode cL_ends 281 = .ok (.iconst 1, 1) := by decide +kernel
theorem dL_ends_282 : decode cL_ends 282 = .ok (.goto 4, 3) := by decide +kernel
theorem dL_ends_285 : decode cL_ends 285 = .ok (.iconst 0, 1) := by decide +kernel
theorem dL_ends_286 : decode cL_ends 286 = .ok (.istore_n 3, 1) := by decide +kernel
theorem dL_ends_287 : decode cL_ends 287 = .ok (.iinc 5 1, 3) := by decide +kernel
theorem dL_ends_290 : decode cL_ends 290 = .ok (.goto (-143), 3) := by decide +kernel
theorem dL_ends_293 : decode cL_ends 293 = .ok (.iconst 0, 1) := by decide +kernel
theorem dL_ends_294 : decode cL_ends 294 = .ok (.istore 5, 2) := by decide +kernel
theorem dL_ends_296 : decode cL_ends 296 = .ok (.iload 5, 2) := by decide +kernel
theorem dL_ends_298 : decode cL_ends 298 = .ok (.aload_n 0, 1) := by decide +kernel
theorem dL_ends_299 : decode cL_ends 299 = .ok (.invokevirtual 117, 3) := by decide +kernel
theorem dL_ends_302 : decode cL_ends 302 = .ok (.if_icmp .ge 82, 3) := by decide +kernel
theorem dL_ends_305 : decode cL_ends 305 = .ok (.iload_n 3, 1) := by decide +kernel
theorem dL_ends_306 : decode cL_ends 306 = .ok (.ifCond .eq 78, 3) := by decide +kernel
theorem dL_ends_309 : decode cL_ends 309 = .ok (.aload_n 0, 1) := by decide +kernel
theorem dL_ends_310 : decode cL_ends 310 = .ok (.iload 5, 2) := by decide +kernel
theorem dL_ends_312 : decode cL_ends 312 = .ok (.invokestatic 178, 3) := by decide +kernel
theorem dL_ends_315 : decode cL_ends 315 = .ok (.bipush 20, 2) := by decide +kernel
theorem dL_ends_317 : decode cL_ends 317 = .ok (.if_icmp .ge 7, 3) := by decide +kernel
theorem dL_ends_320 : decode cL_ends 320 = .ok (.iconst 1, 1) := by decide +kernel
theorem dL_ends_321 : decode cL_ends 321 = .ok (.goto 4, 3) := by decide +kernel
theorem dL_ends_324 : decode cL_ends 324 = .ok (.iconst 0, 1) := by decide +kernel
theorem dL_ends_325 : decode cL_ends 325 = .ok (.istore_n 3, 1) := by decide +kernel
theorem dL_ends_326 : decode cL_ends 326 = .ok (.iconst 0, 1) := by decide +kernel
theorem dL_ends_327 : decode cL_ends 327 = .ok (.istore 6, 2) := by decide +kernel
theorem dL_ends_329 : decode cL_ends 329 = .ok (.iload 6, 2) := by decide +kernel
theorem dL_ends_331 : decode cL_ends 331 = .ok (.aload_n 1, 1) := by decide +kernel
theorem dL_ends_332 : decode cL_ends 332 = .ok (.iload 5, 2) := by decide +kernel
theorem dL_ends_334 : decode cL_ends 334 = .ok (.iaload, 1) := by decide +kernel
theorem dL_ends_335 : decode cL_ends 335 = .ok (.if_icmp .ge 43, 3) := by decide +kernel
theorem dL_ends_338 : decode cL_ends 338 = .ok (.iload_n 3, 1) := by decide +kernel
theorem dL_ends_339 : decode cL_ends 339 = .ok (.ifCond .eq 39, 3) := by decide +kernel
theorem dL_ends_342 : decode cL_ends 342 = .ok (.aload_n 0, 1) := by decide +kernel
theorem dL_ends_343 : decode cL_ends 343 = .ok (.iload 5, 2) := by decide +kernel
theorem dL_ends_345 : decode cL_ends 345 = .ok (.iload 6, 2) := by decide +kernel
theorem dL_ends_347 : decode cL_ends 347 = .ok (.invokestatic 142, 3) := by decide +kernel
theorem dL_ends_350 : decode cL_ends 350 = .ok (.ifCond .ne 20, 3) := by decide +kernel
theorem dL_ends_353 : decode cL_ends 353 = .ok (.aload_n 0, 1) := by decide +kernel
theorem dL_ends_354 : decode cL_ends 354 = .ok (.iload 5, 2) := by decide +kernel
theorem dL_ends_356 : decode cL_ends 356 = .ok (.iload 6, 2) := by decide +kernel
theorem dL_ends_358 : decode cL_ends 358 = .ok (.invokestatic 144, 3) := by decide +kernel
theorem dL_ends_361 : decode cL_ends 361 = .ok (.bipush 40, 2) := by decide +kernel
theorem dL_ends_363 : decode cL_ends 363 = .ok (.if_icmp .ge 7, 3) := by decide +kernel
theorem dL_ends_366 : decode cL_ends 366 = .ok (.iconst 1, 1) := by decide +kernel
theorem dL_ends_367 : decode cL_ends 367 = .ok (.goto 4, 3) := by decide +kernel
theorem dL_ends_370 : decode cL_ends 370 = .ok (.iconst 0, 1) := by decide +kernel
theorem dL_ends_371 : decode cL_ends 371 = .ok (.istore_n 3, 1) := by decide +kernel
theorem dL_ends_372 : decode cL_ends 372 = .ok (.iinc 6 1, 3) := by decide +kernel
theorem dL_ends_375 : decode cL_ends 375 = .ok (.goto (-46), 3) := by decide +kernel
theorem dL_ends_378 : decode cL_ends 378 = .ok (.iinc 5 1, 3) := by decide +kernel
theorem dL_ends_381 : decode cL_ends 381 = .ok (.goto (-85), 3) := by decide +kernel
theorem dL_ends_384 : decode cL_ends 384 = .ok (.iconst 0, 1) := by decide +kernel
theorem dL_ends_385 : decode cL_ends 385 = .ok (.istore 5, 2) := by decide +kernel
theorem dL_ends_387 : decode cL_ends 387 = .ok (.iload 5, 2) := by decide +kernel
theorem dL_ends_389 : decode cL_ends 389 = .ok (.aload_n 0, 1) := by decide +kernel
theorem dL_ends_390 : decode cL_ends 390 = .ok (.invokevirtual 121, 3) := by decide +kernel
theorem dL_ends_393 : decode cL_ends 393 = .ok (.if_icmp .ge 90, 3) := by decide +kernel
theorem dL_ends_396 : decode cL_ends 396 = .ok (.iload_n 3, 1) := by decide +kernel
theorem dL_ends_397 : decode cL_ends 397 = .ok (.ifCond .eq 86, 3) := by decide +kernel
theorem dL_ends_400 : decode cL_ends 400 = .ok (.iconst 1, 1) := by decide +kernel
theorem dL_ends_401 : decode cL_ends 401 = .ok (.istore 6, 2) := by decide +kernel
theorem dL_ends_403 : decode cL_ends 403 = .ok (.aload_n 0, 1) := by decide +kernel
theorem dL_ends_404 : decode cL_ends 404 = .ok (.iload 5, 2) := by decide +kernel
theorem dL_ends_406 : decode cL_ends 406 = .ok (.invokestatic 166, 3) := by decide +kernel
theorem dL_ends_409 : decode cL_ends 409 = .ok (.iconst 1, 1) := by decide +kernel
theorem dL_ends_410 : decode cL_ends 410 = .ok (.isub, 1) := by decide +kernel
theorem dL_ends_411 : decode cL_ends 411 = .ok (.istore 7, 2) := by decide +kernel
theorem dL_ends_413 : decode cL_ends 413 = .ok (.iload 7, 2) := by decide +kernel
theorem dL_ends_415 : decode cL_ends 415 = .ok (.ifCond .lt 36, 3) := by decide +kernel
theorem dL_ends_418 : decode cL_ends 418 = .ok (.iload 6, 2) := by decide +kernel
theorem dL_ends_420 : decode cL_ends 420 = .ok (.ifCond .eq 31, 3) := by decide +kernel
theorem dL_ends_423 : decode cL_ends 423 = .ok (.aload_n 0, 1) := by decide +kernel
theorem dL_ends_424 : decode cL_ends 424 = .ok (.iload 5, 2) := by decide +kernel
theorem dL_ends_426 : decode cL_ends 426 = .ok (.iload 7, 2) := by decide +kernel
theorem dL_ends_428 : decode cL_ends 428 = .ok (.invokestatic 168, 3) := by decide +kernel
theorem dL_ends_431 : decode cL_ends 431 = .ok (.ldc2_w 217, 3) := by decide +kernel
theorem dL_ends_434 : decode cL_ends 434 = .ok (.lcmp, 1) := by decide +kernel
theorem dL_ends_435 : decode cL_ends 435 = .ok (.ifCond .ge 7, 3) := by decide +kernel
theorem dL_ends_438 : decode cL_ends 438 = .ok (.iconst 1, 1) := by decide +kernel
theorem dL_ends_439 : decode cL_ends 439 = .ok (.goto 4, 3) := by decide +kernel
theorem dL_ends_442 : decode cL_ends 442 = .ok (.iconst 0, 1) := by decide +kernel
theorem dL_ends_443 : decode cL_ends 443 = .ok (.istore 6, 2) := by decide +kernel
theorem dL_ends_445 : decode cL_ends 445 = .ok (.iinc 7 (-1), 3) := by decide +kernel
theorem dL_ends_448 : decode cL_ends 448 = .ok (.goto (-35), 3) := by decide +kernel
theorem dL_ends_451 : decode cL_ends 451 = .ok (.iload 6, 2) := by decide +kernel
theorem dL_ends_453 : decode cL_ends 453 = .ok (.ifCond .eq 18, 3) := by decide +kernel
theorem dL_ends_456 : decode cL_ends 456 = .ok (.aload_n 0, 1) := by decide +kernel
theorem dL_ends_457 : decode cL_ends 457 = .ok (.iload 5, 2) := by decide +kernel
theorem dL_ends_459 : decode cL_ends 459 = .ok (.invokestatic 164, 3) := by decide +kernel
theorem dL_ends_462 : decode cL_ends 462 = .ok (.aload_n 0, 1) := by decide +kernel
theorem dL_ends_463 : decode cL_ends 463 = .ok (.iload 5, 2) := by decide +kernel
theorem dL_ends_465 : decode cL_ends 465 = .ok (.invokestatic 159, 3) := by decide +kernel
theorem dL_ends_468 : decode cL_ends 468 = .ok (.if_icmp .ne 7, 3) := by decide +kernel
theorem dL_ends_471 : decode cL_ends 471 = .ok (.iconst 1, 1) := by decide +kernel
theorem dL_ends_472 : decode cL_ends 472 = .ok (.goto 4, 3) := by decide +kernel
theorem dL_ends_475 : decode cL_ends 475 = .ok (.iconst 0, 1) := by decide +kernel
theorem dL_ends_476 : decode cL_ends 476 = .ok (.istore_n 3, 1) := by decide +kernel
theorem dL_ends_477 : decode cL_ends 477 = .ok (.iinc 5 1, 3) := by decide +kernel
theorem dL_ends_480 : decode cL_ends 480 = .ok (.goto (-93), 3) := by decide +kernel
theorem dL_ends_483 : decode cL_ends 483 = .ok (.iload_n 3, 1) := by decide +kernel
theorem dL_ends_484 : decode cL_ends 484 = .ok (.ifCond .eq 43, 3) := by decide +kernel
theorem dL_ends_487 : decode cL_ends 487 = .ok (.aload_n 0, 1) := by decide +kernel
theorem dL_ends_488 : decode cL_ends 488 = .ok (.iconst 0, 1) := by decide +kernel
theorem dL_ends_489 : decode cL_ends 489 = .ok (.invokestatic 186, 3) := by decide +kernel
theorem dL_ends_492 : decode cL_ends 492 = .ok (.ifCond .ne 35, 3) := by decide +kernel
theorem dL_ends_495 : decode cL_ends 495 = .ok (.aload_n 0, 1) := by decide +kernel
theorem dL_ends_496 : decode cL_ends 496 = .ok (.iconst 1, 1) := by decide +kernel
theorem dL_ends_497 : decode cL_ends 497 = .ok (.invokestatic 186, 3) := by decide +kernel
theorem dL_ends_500 : decode cL_ends 500 = .ok (.ifCond .ne 27, 3) := by decide +kernel
theorem dL_ends_503 : decode cL_ends 503 = .ok (.aload_n 0, 1) := by decide +kernel
theorem dL_ends_504 : decode cL_ends 504 = .ok (.iconst 0, 1) := by decide +kernel
theorem dL_ends_505 : decode cL_ends 505 = .ok (.invokestatic 192, 3) := by decide +kernel
theorem dL_ends_508 : decode cL_ends 508 = .ok (.ldc 18, 2) := by decide +kernel
theorem dL_ends_510 : decode cL_ends 510 = .ok (.if_icmp .ne 17, 3) := by decide +kernel
theorem dL_ends_513 : decode cL_ends 513 = .ok (.aload_n 0, 1) := by decide +kernel
theorem dL_ends_514 : decode cL_ends 514 = .ok (.iconst 1, 1) := by decide +kernel
theorem dL_ends_515 : decode cL_ends 515 = .ok (.invokestatic 192, 3) := by decide +kernel
theorem dL_ends_518 : decode cL_ends 518 = .ok (.ldc 18, 2) := by decide +kernel
theorem dL_ends_520 : decode cL_ends 520 = .ok (.if_icmp .ne 7, 3) := by decide +kernel
theorem dL_ends_523 : decode cL_ends 523 = .ok (.iconst 1, 1) := by decide +kernel
theorem dL_ends_524 : decode cL_ends 524 = .ok (.goto 4, 3) := by decide +kernel
theorem dL_ends_527 : decode cL_ends 527 = .ok (.iconst 0, 1) := by decide +kernel
theorem dL_ends_528 : decode cL_ends 528 = .ok (.ireturn, 1) := by decide +kernel
