set_option maxRecDepth 20000 in
theorem ggL_refuses_X9_tables : GoodIn wsL_refuses wsX9_tables := goodIn_r _ [9, 10, 11, 12, 13, 14, 15, 16, 691, 692, 693, 694, 695, 696, 697, 698, 699, 700, 701, 702] (by decide +kernel) (by decide +kernel)
set_option maxRecDepth 20000 in
theorem gL_refuses_X9_tables : GoodIn wsL_refuses (wsV RL 117 RX9 yX9_tables wsX9_tables) := goodIn_app (goodIn_of _ (by decide +kernel)) ggL_refuses_X9_tables
set_option maxRecDepth 20000 in
theorem ggL_refuses_X9_games : GoodIn wsL_refuses wsX9_games := goodIn_r _ [20, 21, 11, 12, 13, 14, 15, 16, 691, 692, 693, 694, 695, 696, 697, 698, 699, 700, 701, 702] (by decide +kernel) (by decide +kernel)
set_option maxRecDepth 20000 in
theorem gL_refuses_X9_games : GoodIn wsL_refuses (wsV RL 121 RX9 yX9_games wsX9_games) := goodIn_app (goodIn_of _ (by decide +kernel)) ggL_refuses_X9_games
set_option maxRecDepth 20000 in
theorem ggL_refuses_L_tables : GoodIn wsL_refuses wsL_tables := goodIn_ca (goodIn_ca (goodIn_r _ [25, 26, 27, 1, 4, 28, 29, 30, 8, 31, 32, 33, 10, 34, 35, 36, 37, 38, 39, 40, 41, 11, 12, 13, 14, 15, 16, 42, 43, 44, 45, 46, 47, 48, 49, 50, 51, 52, 53, 54, 55, 56, 57, 58, 59, 60, 61, 62, 63, 64, 65, 66, 67, 68, 69, 70, 71, 72, 73, 74, 75, 76, 77, 78, 79, 80, 81, 82, 83, 84, 85, 86, 87, 88, 89, 90, 91, 92, 93, 94, 95, 96, 97, 98, 99, 100, 101, 102, 103, 104, 105, 106, 107, 108, 109, 110, 111, 112, 113, 114, 115, 116, 117, 118, 119, 120, 121, 122, 123, 124, 125, 126, 127, 128, 129, 130, 131, 132, 133, 134, 691, 692, 693, 694, 695, 696, 697, 698, 699, 703, 704, 705, 706, 707, 708, 709, 710, 700, 701, 702, 711, 712] (by decide +kernel) (by decide +kernel)) (goodIn_sub (fun _ h => List.mem_cons_of_mem _ (List.mem_append_left _ (List.mem_append_left _ (List.mem_append_right _ h)))) (by decide +kernel))) (goodIn_sub (fun _ h => List.mem_cons_of_mem _ (List.mem_append_left _ (List.mem_append_right _ h))) (by decide +kernel))
set_option maxRecDepth 20000 in
theorem gL_refuses_L_tables : GoodIn wsL_refuses (va_wsS RL 124 yL_tables wsL_tables) := goodIn_app (goodIn_of _ (by decide +kernel)) ggL_refuses_L_tables
set_option maxRecDepth 20000 in
theorem ggL_refuses_L_bumpers : GoodIn wsL_refuses wsL_bumpers := goodIn_ca (goodIn_ca (goodIn_ca (goodIn_r _ [137, 138, 26, 27, 2, 1, 4, 139, 140, 141, 8, 142, 32, 33, 143, 144, 145, 146, 147, 148, 149, 150, 151, 152, 10, 153, 11, 12, 13, 14, 15, 16, 154, 155, 156, 157, 158, 159, 160, 161, 162, 163, 164, 165, 166, 167, 168, 169, 65, 37, 38, 39, 40, 41, 170, 171, 172, 173, 174, 175, 176, 177, 46, 47, 178, 179, 180, 181, 182, 183, 184, 83, 84, 85, 86, 87, 88, 89, 90, 91, 92, 93, 94, 95, 96, 97, 98, 99, 100, 64, 101, 102, 103, 104, 105, 106, 107, 108, 109, 110, 111, 112, 113, 114, 115, 116, 117, 118, 119, 120, 121, 122, 123, 124, 125, 126, 127, 128, 129, 130, 131, 132, 133, 134, 703, 704, 705, 706, 707, 708, 709, 710, 713, 714, 715, 716, 717, 718, 719, 691, 692, 693, 694, 695, 696, 697, 698, 699, 700, 701, 702] (by decide +kernel) (by decide +kernel)) (goodIn_sub (fun _ h => List.mem_cons_of_mem _ (List.mem_append_left _ (List.mem_append_left _ (List.mem_append_right _ h)))) (by decide +kernel))) (goodIn_sub (fun _ h => List.mem_cons_of_mem _ (List.mem_append_right _ h)) (by decide +kernel))) (goodIn_sub (fun _ h => List.mem_cons_of_mem _ (List.mem_append_left _ (List.mem_append_right _ h))) (by decide +kernel))
set_option maxRecDepth 20000 in
theorem gL_refuses_L_bumpers : GoodIn wsL_refuses (va_wsS RL 129 yL_bumpers wsL_bumpers) := goodIn_app (goodIn_of _ (by decide +kernel)) ggL_refuses_L_bumpers
set_option maxRecDepth 20000 in
theorem ggL_refuses_L_points : GoodIn wsL_refuses wsL_points := goodIn_ca (goodIn_ca (goodIn_ca (goodIn_r _ [187, 138, 26, 27, 2, 1, 4, 188, 189, 190, 8, 191, 192, 147, 148, 149, 150, 151, 152, 10, 153, 11, 12, 13, 14, 15, 16, 154, 155, 156, 157, 158, 159, 160, 161, 162, 163, 164, 165, 166, 167, 168, 169, 65, 193, 194, 195, 143, 196, 37, 38, 39, 40, 41, 170, 171, 172, 32, 33, 173, 197, 198, 199, 53, 200, 80, 201, 202, 203, 204, 703, 704, 705, 706, 707, 708, 709, 710, 691, 692, 693, 694, 695, 696, 697, 698, 699, 700, 701, 702, 711, 712] (by decide +kernel) (by decide +kernel)) (goodIn_sub (fun _ h => List.mem_cons_of_mem _ (List.mem_append_right _ h)) (by decide +kernel))) (goodIn_sub (fun _ h => List.mem_cons_of_mem _ (List.mem_append_left _ (List.mem_append_right _ h))) (by decide +kernel))) (goodIn_sub (fun _ h => List.mem_cons_of_mem _ (List.mem_append_left _ (List.mem_append_left _ (List.mem_append_right _ h)))) (by decide +kernel))
set_option maxRecDepth 20000 in
theorem gL_refuses_L_points : GoodIn wsL_refuses (va_wsS RL 133 yL_points wsL_points) := goodIn_app (goodIn_of _ (by decide +kernel)) ggL_refuses_L_points
set_option maxRecDepth 20000 in
theorem ggL_refuses_L_modes : GoodIn wsL_refuses wsL_modes := goodIn_ca (goodIn_ca (goodIn_ca (goodIn_r _ [207, 138, 26, 27, 2, 1, 4, 208, 209, 210, 8, 211, 192, 212, 213, 214, 147, 148, 149, 150, 151, 152, 10, 153, 11, 12, 13, 14, 15, 16, 154, 155, 156, 157, 158, 159, 160, 161, 162, 163, 164, 165, 166, 167, 168, 169, 65, 215, 216, 217, 193, 194, 195, 143, 196, 218, 219, 220, 40, 41, 37, 38, 39, 170, 171, 172, 32, 33, 173, 221, 222, 223, 53, 224, 82, 225, 226, 227, 228, 46, 47, 229, 230, 231, 232, 233, 234, 235, 236, 237, 703, 704, 705, 706, 707, 708, 709, 710, 720, 721, 722, 723, 724, 691, 692, 693, 694, 695, 696, 697, 698, 699, 700, 701, 702, 711, 712] (by decide +kernel) (by decide +kernel)) (goodIn_sub (fun _ h => List.mem_cons_of_mem _ (List.mem_append_right _ h)) (by decide +kernel))) (goodIn_sub (fun _ h => List.mem_cons_of_mem _ (List.mem_append_left _ (List.mem_append_right _ h))) (by decide +kernel))) (goodIn_sub (fun _ h => List.mem_cons_of_mem _ (List.mem_append_left _ (List.mem_append_left _ (List.mem_append_right _ h)))) (by decide +kernel))
set_option maxRecDepth 20000 in
theorem gL_refuses_L_modes : GoodIn wsL_refuses (va_wsS RL 137 yL_modes wsL_modes) := goodIn_app (goodIn_of _ (by decide +kernel)) ggL_refuses_L_modes
set_option maxRecDepth 20000 in
theorem ggL_refuses_L_stick : GoodIn wsL_refuses wsL_stick := goodIn_ca (goodIn_ca (goodIn_r _ [240, 138, 27, 2, 4, 241, 242, 243, 8, 244, 32, 33, 245, 246, 147, 148, 149, 150, 151, 152, 10, 153, 11, 12, 13, 14, 15, 16, 154, 155, 156, 157, 158, 159, 160, 161, 162, 163, 164, 165, 166, 167, 168, 169, 65, 193, 194, 195, 143, 196, 713, 714, 715, 716, 717, 718, 719, 691, 692, 693, 694, 695, 696, 697, 698, 699, 700, 701, 702, 703, 704, 705, 706, 707, 708, 709, 710] (by decide +kernel) (by decide +kernel)) (goodIn_sub (fun _ h => List.mem_cons_of_mem _ (List.mem_append_left _ (List.mem_append_left _ (List.mem_append_right _ h)))) (by decide +kernel))) (goodIn_sub (fun _ h => List.mem_cons_of_mem _ (List.mem_append_right _ h)) (by decide +kernel))
set_option maxRecDepth 20000 in
theorem gL_refuses_L_stick : GoodIn wsL_refuses (va_wsS RL 140 yL_stick wsL_stick) := goodIn_app (goodIn_of _ (by decide +kernel)) ggL_refuses_L_stick
set_option maxRecDepth 20000 in
theorem ggL_refuses_L_sticks : GoodIn wsL_refuses wsL_sticks := goodIn_ca (goodIn_r _ [249, 138, 2, 250, 251, 252, 8, 253, 245, 147, 148, 149, 150, 151, 152, 10, 153, 11, 12, 13, 14, 15, 16, 154, 155, 156, 157, 158, 159, 160, 161, 162, 163, 164, 165, 166, 167, 168, 169, 65, 193, 194, 195, 143, 196, 713, 714, 715, 716, 717, 718, 719, 691, 692, 693, 694, 695, 696, 697, 698, 699, 700, 701, 702, 703, 704, 705, 706, 707, 708, 709, 710] (by decide +kernel) (by decide +kernel)) (goodIn_sub (fun _ h => List.mem_cons_of_mem _ (List.mem_append_right _ h)) (by decide +kernel))
set_option maxRecDepth 20000 in
theorem gL_refuses_L_sticks : GoodIn wsL_refuses (va_wsS RL 142 yL_sticks wsL_sticks) := goodIn_app (goodIn_of _ (by decide +kernel)) ggL_refuses_L_sticks
set_option maxRecDepth 20000 in
theorem ggL_refuses_L_wear : GoodIn wsL_refuses wsL_wear := goodIn_ca (goodIn_r _ [256, 138, 2, 257, 258, 259, 8, 260, 261, 147, 148, 149, 150, 151, 152, 10, 153, 11, 12, 13, 14, 15, 16, 154, 155, 156, 157, 158, 159, 160, 161, 162, 163, 164, 165, 166, 167, 168, 169, 65, 193, 194, 195, 143, 196, 713, 714, 715, 716, 717, 718, 719, 691, 692, 693, 694, 695, 696, 697, 698, 699, 700, 701, 702, 703, 704, 705, 706, 707, 708, 709, 710] (by decide +kernel) (by decide +kernel)) (goodIn_sub (fun _ h => List.mem_cons_of_mem _ (List.mem_append_right _ h)) (by decide +kernel))
set_option maxRecDepth 20000 in
theorem gL_refuses_L_wear : GoodIn wsL_refuses (va_wsS RL 144 yL_wear wsL_wear) := goodIn_app (goodIn_of _ (by decide +kernel)) ggL_refuses_L_wear
set_option maxRecDepth 20000 in
theorem ggL_refuses_L_coin : GoodIn wsL_refuses wsL_coin := goodIn_ca (goodIn_ca (goodIn_r _ [264, 138, 27, 2, 4, 265, 266, 267, 8, 268, 32, 33, 21, 269, 270, 271, 192, 173, 272, 273, 274, 147, 148, 149, 150, 151, 152, 10, 153, 11, 12, 13, 14, 15, 16, 154, 155, 156, 157, 158, 159, 160, 161, 162, 163, 164, 165, 166, 167, 168, 169, 65, 170, 171, 172, 275, 276, 277, 53, 278, 279, 52, 80, 82, 280, 76, 77, 78, 46, 47, 79, 81, 281, 202, 203, 204, 282, 235, 236, 237, 283, 284, 285, 286, 287, 288, 289, 290, 291, 292, 293, 294, 295, 296, 297, 298, 299, 300, 301, 302, 303, 83, 84, 85, 86, 87, 88, 89, 90, 91, 92, 93, 94, 95, 96, 97, 98, 99, 100, 64, 101, 102, 103, 104, 105, 106, 107, 108, 109, 110, 111, 112, 113, 114, 115, 116, 117, 118, 119, 120, 121, 122, 123, 124, 125, 126, 127, 128, 129, 130, 131, 132, 133, 134, 691, 692, 693, 694, 695, 696, 697, 698, 699, 725, 726, 727, 728, 729, 730, 703, 704, 705, 706, 707, 708, 709, 710, 700, 701, 702, 711, 712, 731, 732, 733, 734] (by decide +kernel) (by decide +kernel)) (goodIn_sub (fun _ h => List.mem_cons_of_mem _ (List.mem_append_left _ (List.mem_append_left _ (List.mem_append_right _ h)))) (by decide +kernel))) (goodIn_sub (fun _ h => List.mem_cons_of_mem _ (List.mem_append_right _ h)) (by decide +kernel))
set_option maxRecDepth 20000 in
theorem gL_refuses_L_coin : GoodIn wsL_refuses (va_wsS RL 146 yL_coin wsL_coin) := goodIn_app (goodIn_of _ (by decide +kernel)) ggL_refuses_L_coin
set_option maxRecDepth 20000 in
theorem ggL_refuses_L_shoot : GoodIn wsL_refuses wsL_shoot := goodIn_ca (goodIn_ca (goodIn_ca (goodIn_r _ [306, 138, 26, 27, 2, 1, 4, 307, 308, 309, 8, 310, 32, 33, 173, 21, 311, 312, 313, 314, 315, 316, 317, 147, 148, 149, 150, 151, 152, 10, 153, 11, 12, 13, 14, 15, 16, 154, 155, 156, 157, 158, 159, 160, 161, 162, 163, 164, 165, 166, 167, 168, 169, 65, 37, 38, 39, 40, 41, 318, 319, 320, 321, 46, 47, 322, 323, 324, 325, 326, 327, 328, 329, 330, 331, 332, 333, 334, 335, 336, 337, 129, 103, 130, 338, 339, 340, 341, 342, 343, 344, 345, 346, 36, 347, 50, 348, 349, 350, 351, 352, 353, 146, 354, 180, 182, 181, 183, 355, 356, 357, 358, 359, 360, 361, 362, 363, 184, 364, 365, 366, 367, 368, 178, 369, 370, 371, 372, 373, 374, 375, 376, 143, 196, 261, 245, 377, 378, 379, 271, 380, 293, 292, 294, 290, 296, 381, 382, 383, 289, 384, 302, 300, 303, 385, 301, 386, 387, 388, 389, 222, 223, 53, 224, 82, 390, 198, 199, 200, 80, 391, 392, 393, 394, 395, 396, 397, 398, 399, 400, 401, 402, 403, 404, 405, 406, 703, 704, 705, 706, 707, 708, 709, 710, 691, 692, 693, 694, 695, 696, 697, 698, 699, 725, 726, 727, 728, 729, 730, 731, 732, 733, 734, 735, 736, 737, 738, 700, 701, 702, 713, 714, 715, 716, 717, 718, 719, 720, 721, 722, 723, 724, 711, 712] (by decide +kernel) (by decide +kernel)) (goodIn_sub (fun _ h => List.mem_cons_of_mem _ (List.mem_append_left _ (List.mem_append_left _ (List.mem_append_right _ h)))) (by decide +kernel))) (goodIn_sub (fun _ h => List.mem_cons_of_mem _ (List.mem_append_right _ h)) (by decide +kernel))) (goodIn_sub (fun _ h => List.mem_cons_of_mem _ (List.mem_append_left _ (List.mem_append_right _ h))) (by decide +kernel))
set_option maxRecDepth 20000 in
theorem gL_refuses_L_shoot : GoodIn wsL_refuses (va_wsS RL 149 yL_shoot wsL_shoot) := goodIn_app (goodIn_of _ (by decide +kernel)) ggL_refuses_L_shoot
set_option maxRecDepth 20000 in
theorem ggL_refuses_L_gameAt : GoodIn wsL_refuses wsL_gameAt := goodIn_ca (goodIn_r _ [409, 138, 2, 410, 411, 412, 8, 413, 173, 147, 148, 149, 150, 151, 152, 10, 153, 11, 12, 13, 14, 15, 16, 154, 155, 156, 157, 158, 159, 160, 161, 162, 163, 164, 165, 166, 167, 168, 169, 65, 703, 704, 705, 706, 707, 708, 709, 710, 691, 692, 693, 694, 695, 696, 697, 698, 699, 700, 701, 702] (by decide +kernel) (by decide +kernel)) (goodIn_sub (fun _ h => List.mem_cons_of_mem _ (List.mem_append_right _ h)) (by decide +kernel))
set_option maxRecDepth 20000 in
theorem gL_refuses_L_gameAt : GoodIn wsL_refuses (va_wsS RL 152 yL_gameAt wsL_gameAt) := goodIn_app (goodIn_of _ (by decide +kernel)) ggL_refuses_L_gameAt
set_option maxRecDepth 20000 in
theorem ggL_refuses_L_balls : GoodIn wsL_refuses wsL_balls := goodIn_ca (goodIn_r _ [416, 138, 2, 417, 418, 419, 8, 420, 317, 421, 422, 423, 424, 151, 152, 21, 311, 11, 12, 13, 14, 15, 16, 154, 155, 156, 157, 158, 159, 160, 161, 162, 163, 164, 165, 166, 167, 168, 169, 65, 725, 726, 727, 728, 729, 730, 691, 692, 693, 694, 695, 696, 697, 698, 699, 700, 701, 702] (by decide +kernel) (by decide +kernel)) (goodIn_sub (fun _ h => List.mem_cons_of_mem _ (List.mem_append_right _ h)) (by decide +kernel))
set_option maxRecDepth 20000 in
theorem gL_refuses_L_balls : GoodIn wsL_refuses (va_wsS RL 154 yL_balls wsL_balls) := goodIn_app (goodIn_of _ (by decide +kernel)) ggL_refuses_L_balls
set_option maxRecDepth 20000 in
theorem ggL_refuses_L_stack : GoodIn wsL_refuses wsL_stack := goodIn_ca (goodIn_r _ [427, 138, 2, 428, 429, 430, 8, 431, 312, 421, 422, 423, 424, 151, 152, 21, 311, 11, 12, 13, 14, 15, 16, 154, 155, 156, 157, 158, 159, 160, 161, 162, 163, 164, 165, 166, 167, 168, 169, 65, 432, 433, 434, 289, 435, 302, 300, 725, 726, 727, 728, 729, 730, 691, 692, 693, 694, 695, 696, 697, 698, 699, 700, 701, 702, 731, 732, 733, 734] (by decide +kernel) (by decide +kernel)) (goodIn_sub (fun _ h => List.mem_cons_of_mem _ (List.mem_append_right _ h)) (by decide +kernel))
set_option maxRecDepth 20000 in
theorem gL_refuses_L_stack : GoodIn wsL_refuses (va_wsS RL 157 yL_stack wsL_stack) := goodIn_app (goodIn_of _ (by decide +kernel)) ggL_refuses_L_stack
set_option maxRecDepth 20000 in
theorem ggL_refuses_L_score : GoodIn wsL_refuses wsL_score := goodIn_ca (goodIn_r _ [438, 138, 2, 439, 440, 441, 8, 442, 312, 313, 421, 422, 423, 424, 151, 152, 21, 311, 11, 12, 13, 14, 15, 16, 154, 155, 156, 157, 158, 159, 160, 161, 162, 163, 164, 165, 166, 167, 168, 169, 65, 725, 726, 727, 728, 729, 730, 731, 732, 733, 734, 691, 692, 693, 694, 695, 696, 697, 698, 699, 700, 701, 702] (by decide +kernel) (by decide +kernel)) (goodIn_sub (fun _ h => List.mem_cons_of_mem _ (List.mem_append_right _ h)) (by decide +kernel))
set_option maxRecDepth 20000 in
theorem gL_refuses_L_score : GoodIn wsL_refuses (va_wsS RL 159 yL_score wsL_score) := goodIn_app (goodIn_of _ (by decide +kernel)) ggL_refuses_L_score
set_option maxRecDepth 20000 in
theorem ggL_refuses_L_byLog : GoodIn wsL_refuses wsL_byLog := goodIn_ca (goodIn_r _ [445, 138, 2, 446, 447, 448, 8, 449, 421, 422, 423, 424, 151, 152, 21, 311, 11, 12, 13, 14, 15, 16, 154, 155, 156, 157, 158, 159, 160, 161, 162, 163, 164, 165, 166, 167, 168, 169, 65, 450, 451, 452, 453, 454, 455, 456, 313, 457, 458, 459, 289, 460, 302, 303, 461, 462, 463, 271, 464, 292, 465, 466, 467, 468, 469, 470, 471, 472, 473, 474, 475, 476, 477, 478, 382, 383, 384, 300, 385, 301, 386, 387, 388, 389, 222, 223, 53, 224, 82, 390, 198, 199, 200, 80, 391, 392, 393, 394, 395, 396, 397, 398, 399, 691, 692, 693, 694, 695, 696, 697, 698, 699, 700, 701, 702, 725, 726, 727, 728, 729, 730, 731, 732, 733, 734, 720, 721, 722, 723, 724, 711, 712] (by decide +kernel) (by decide +kernel)) (goodIn_sub (fun _ h => List.mem_cons_of_mem _ (List.mem_append_right _ h)) (by decide +kernel))
set_option maxRecDepth 20000 in
theorem gL_refuses_L_byLog : GoodIn wsL_refuses (va_wsS RL 161 yL_byLog wsL_byLog) := goodIn_app (goodIn_of _ (by decide +kernel)) ggL_refuses_L_byLog
set_option maxRecDepth 20000 in
theorem ggL_refuses_L_valid : GoodIn wsL_refuses wsL_valid := goodIn_ca (goodIn_r _ [481, 138, 2, 482, 483, 484, 8, 485, 421, 422, 423, 424, 151, 152, 21, 311, 11, 12, 13, 14, 15, 16, 154, 155, 156, 157, 158, 159, 160, 161, 162, 163, 164, 165, 166, 167, 168, 169, 65, 450, 451, 452, 453, 454, 455, 456, 313, 457, 458, 459, 289, 460, 302, 303, 461, 462, 463, 271, 464, 292, 465, 466, 467, 468, 469, 470, 471, 472, 473, 474, 475, 476, 477, 478, 382, 383, 384, 300, 385, 301, 386, 387, 388, 389, 222, 223, 53, 224, 82, 390, 198, 199, 200, 80, 391, 392, 393, 394, 395, 396, 397, 398, 399, 691, 692, 693, 694, 695, 696, 697, 698, 699, 700, 701, 702, 725, 726, 727, 728, 729, 730, 731, 732, 733, 734, 720, 721, 722, 723, 724, 711, 712] (by decide +kernel) (by decide +kernel)) (goodIn_sub (fun _ h => List.mem_cons_of_mem _ (List.mem_append_right _ h)) (by decide +kernel))
set_option maxRecDepth 20000 in
theorem gL_refuses_L_valid : GoodIn wsL_refuses (va_wsS RL 164 yL_valid wsL_valid) := goodIn_app (goodIn_of _ (by decide +kernel)) ggL_refuses_L_valid
set_option maxRecDepth 20000 in
theorem ggL_refuses_L_logged : GoodIn wsL_refuses wsL_logged := goodIn_ca (goodIn_r _ [488, 138, 2, 489, 490, 491, 8, 492, 455, 421, 422, 423, 424, 151, 152, 21, 311, 11, 12, 13, 14, 15, 16, 154, 155, 156, 157, 158, 159, 160, 161, 162, 163, 164, 165, 166, 167, 168, 169, 65, 725, 726, 727, 728, 729, 730, 691, 692, 693, 694, 695, 696, 697, 698, 699, 700, 701, 702] (by decide +kernel) (by decide +kernel)) (goodIn_sub (fun _ h => List.mem_cons_of_mem _ (List.mem_append_right _ h)) (by decide +kernel))
set_option maxRecDepth 20000 in
theorem gL_refuses_L_logged : GoodIn wsL_refuses (va_wsS RL 166 yL_logged wsL_logged) := goodIn_app (goodIn_of _ (by decide +kernel)) ggL_refuses_L_logged
set_option maxRecDepth 20000 in
theorem ggL_refuses_L_entry : GoodIn wsL_refuses wsL_entry := goodIn_ca (goodIn_r _ [495, 138, 3, 496, 497, 498, 8, 499, 455, 421, 422, 423, 424, 151, 152, 21, 311, 11, 12, 13, 14, 15, 16, 154, 155, 156, 157, 158, 159, 160, 161, 162, 163, 164, 165, 166, 167, 168, 169, 65, 215, 216, 217, 461, 462, 463, 271, 464, 292, 725, 726, 727, 728, 729, 730, 691, 692, 693, 694, 695, 696, 697, 698, 699, 700, 701, 702] (by decide +kernel) (by decide +kernel)) (goodIn_sub (fun _ h => List.mem_cons_of_mem _ (List.mem_append_right _ h)) (by decide +kernel))
set_option maxRecDepth 20000 in
theorem gL_refuses_L_entry : GoodIn wsL_refuses (va_wsS RL 168 yL_entry wsL_entry) := goodIn_app (goodIn_of _ (by decide +kernel)) ggL_refuses_L_entry
set_option maxRecDepth 20000 in
theorem ggL_refuses_L_twin : GoodIn wsL_refuses wsL_twin := goodIn_ca (goodIn_r _ [502, 138, 2, 503, 504, 505, 8, 506, 455, 21, 311, 421, 422, 423, 424, 151, 152, 11, 12, 13, 14, 15, 16, 154, 155, 156, 157, 158, 159, 160, 161, 162, 163, 164, 165, 166, 167, 168, 169, 65, 403, 404, 405, 271, 406, 294, 507, 508, 509, 510, 293, 511, 462, 463, 464, 292, 725, 726, 727, 728, 729, 730, 691, 692, 693, 694, 695, 696, 697, 698, 699, 700, 701, 702] (by decide +kernel) (by decide +kernel)) (goodIn_sub (fun _ h => List.mem_cons_of_mem _ (List.mem_append_right _ h)) (by decide +kernel))
set_option maxRecDepth 20000 in
theorem gL_refuses_L_twin : GoodIn wsL_refuses (va_wsS RL 172 yL_twin wsL_twin) := goodIn_app (goodIn_of _ (by decide +kernel)) ggL_refuses_L_twin
set_option maxRecDepth 20000 in
theorem ggL_refuses_L_high : GoodIn wsL_refuses wsL_high := goodIn_ca (goodIn_ca (goodIn_r _ [514, 138, 26, 2, 1, 515, 516, 517, 8, 518, 21, 519, 311, 147, 148, 149, 150, 151, 152, 10, 153, 11, 12, 13, 14, 15, 16, 154, 155, 156, 157, 158, 159, 160, 161, 162, 163, 164, 165, 166, 167, 168, 169, 65, 218, 219, 220, 40, 41, 520, 521, 522, 523, 524, 403, 404, 405, 271, 406, 294, 450, 451, 452, 453, 454, 455, 456, 313, 457, 458, 459, 289, 460, 302, 303, 461, 462, 463, 464, 292, 465, 466, 467, 468, 469, 470, 471, 472, 473, 474, 475, 476, 477, 478, 382, 383, 384, 300, 385, 301, 386, 387, 388, 389, 222, 223, 53, 224, 82, 390, 198, 199, 200, 80, 391, 392, 393, 394, 395, 396, 397, 398, 399, 525, 526, 527, 528, 691, 692, 693, 694, 695, 696, 697, 698, 699, 700, 701, 702, 725, 726, 727, 728, 729, 730, 731, 732, 733, 734, 720, 721, 722, 723, 724, 711, 712] (by decide +kernel) (by decide +kernel)) (goodIn_sub (fun _ h => List.mem_cons_of_mem _ (List.mem_append_right _ h)) (by decide +kernel))) (goodIn_sub (fun _ h => List.mem_cons_of_mem _ (List.mem_append_left _ (List.mem_append_right _ h))) (by decide +kernel))
set_option maxRecDepth 20000 in
theorem gL_refuses_L_high : GoodIn wsL_refuses (va_wsS RL 174 yL_high wsL_high) := goodIn_app (goodIn_of _ (by decide +kernel)) ggL_refuses_L_high
set_option maxRecDepth 20000 in
theorem ggL_refuses_L_rob : GoodIn wsL_refuses wsL_rob := goodIn_ca (goodIn_ca (goodIn_ca (goodIn_r _ [531, 138, 26, 27, 2, 1, 4, 532, 533, 534, 8, 535, 32, 33, 272, 147, 148, 149, 150, 151, 152, 10, 153, 11, 12, 13, 14, 15, 16, 154, 155, 156, 157, 158, 159, 160, 161, 162, 163, 164, 165, 166, 167, 168, 169, 65, 37, 38, 39, 40, 41, 703, 704, 705, 706, 707, 708, 709, 710, 691, 692, 693, 694, 695, 696, 697, 698, 699, 700, 701, 702] (by decide +kernel) (by decide +kernel)) (goodIn_sub (fun _ h => List.mem_cons_of_mem _ (List.mem_append_left _ (List.mem_append_left _ (List.mem_append_right _ h)))) (by decide +kernel))) (goodIn_sub (fun _ h => List.mem_cons_of_mem _ (List.mem_append_right _ h)) (by decide +kernel))) (goodIn_sub (fun _ h => List.mem_cons_of_mem _ (List.mem_append_left _ (List.mem_append_right _ h))) (by decide +kernel))
set_option maxRecDepth 20000 in
theorem gL_refuses_L_rob : GoodIn wsL_refuses (va_wsS RL 176 yL_rob wsL_rob) := goodIn_app (goodIn_of _ (by decide +kernel)) ggL_refuses_L_rob
set_option maxRecDepth 20000 in
theorem ggL_refuses_L_box : GoodIn wsL_refuses wsL_box := goodIn_ca (goodIn_r _ [538, 138, 2, 539, 540, 541, 8, 542, 272, 147, 148, 149, 150, 151, 152, 10, 153, 11, 12, 13, 14, 15, 16, 154, 155, 156, 157, 158, 159, 160, 161, 162, 163, 164, 165, 166, 167, 168, 169, 65, 703, 704, 705, 706, 707, 708, 709, 710, 691, 692, 693, 694, 695, 696, 697, 698, 699, 700, 701, 702] (by decide +kernel) (by decide +kernel)) (goodIn_sub (fun _ h => List.mem_cons_of_mem _ (List.mem_append_right _ h)) (by decide +kernel))
set_option maxRecDepth 20000 in
theorem gL_refuses_L_box : GoodIn wsL_refuses (va_wsS RL 178 yL_box wsL_box) := goodIn_app (goodIn_of _ (by decide +kernel)) ggL_refuses_L_box
set_option maxRecDepth 20000 in
theorem ggL_refuses_L_missing : GoodIn wsL_refuses wsL_missing := goodIn_ca (goodIn_r _ [545, 138, 2, 546, 547, 548, 8, 549, 550, 147, 148, 149, 150, 151, 152, 10, 153, 11, 12, 13, 14, 15, 16, 154, 155, 156, 157, 158, 159, 160, 161, 162, 163, 164, 165, 166, 167, 168, 169, 65, 703, 704, 705, 706, 707, 708, 709, 710, 691, 692, 693, 694, 695, 696, 697, 698, 699, 700, 701, 702] (by decide +kernel) (by decide +kernel)) (goodIn_sub (fun _ h => List.mem_cons_of_mem _ (List.mem_append_right _ h)) (by decide +kernel))
set_option maxRecDepth 20000 in
theorem gL_refuses_L_missing : GoodIn wsL_refuses (va_wsS RL 180 yL_missing wsL_missing) := goodIn_app (goodIn_of _ (by decide +kernel)) ggL_refuses_L_missing
set_option maxRecDepth 20000 in
theorem ggL_refuses_L_load : GoodIn wsL_refuses wsL_load := goodIn_ca (goodIn_ca (goodIn_ca (goodIn_r _ [553, 138, 26, 27, 2, 1, 4, 554, 555, 556, 8, 557, 32, 33, 558, 559, 560, 561, 151, 152, 562, 563, 37, 38, 39, 40, 41, 564, 565, 566, 567, 568, 569, 570, 571, 572, 573, 691, 692, 693, 694, 695, 696, 697, 698, 699, 739, 740] (by decide +kernel) (by decide +kernel)) (goodIn_sub (fun _ h => List.mem_cons_of_mem _ (List.mem_append_left _ (List.mem_append_left _ (List.mem_append_right _ h)))) (by decide +kernel))) (goodIn_sub (fun _ h => List.mem_cons_of_mem _ (List.mem_append_right _ h)) (by decide +kernel))) (goodIn_sub (fun _ h => List.mem_cons_of_mem _ (List.mem_append_left _ (List.mem_append_right _ h))) (by decide +kernel))
set_option maxRecDepth 20000 in
theorem gL_refuses_L_load : GoodIn wsL_refuses (va_wsS RL 182 yL_load wsL_load) := goodIn_app (goodIn_of _ (by decide +kernel)) ggL_refuses_L_load
set_option maxRecDepth 20000 in
theorem ggL_refuses_L_parts : GoodIn wsL_refuses wsL_parts := goodIn_ca (goodIn_ca (goodIn_r _ [576, 138, 26, 2, 1, 577, 578, 579, 8, 580, 558, 559, 560, 561, 151, 152, 562, 563, 37, 38, 39, 40, 41, 564, 565, 566, 567, 568, 569, 691, 692, 693, 694, 695, 696, 697, 698, 699, 739, 740] (by decide +kernel) (by decide +kernel)) (goodIn_sub (fun _ h => List.mem_cons_of_mem _ (List.mem_append_right _ h)) (by decide +kernel))) (goodIn_sub (fun _ h => List.mem_cons_of_mem _ (List.mem_append_left _ (List.mem_append_right _ h))) (by decide +kernel))
set_option maxRecDepth 20000 in
theorem gL_refuses_L_parts : GoodIn wsL_refuses (va_wsS RL 184 yL_parts wsL_parts) := goodIn_app (goodIn_of _ (by decide +kernel)) ggL_refuses_L_parts
set_option maxRecDepth 20000 in
theorem ggL_refuses_L_wanted : GoodIn wsL_refuses wsL_wanted := goodIn_ca (goodIn_r _ [583, 26, 1, 584, 585, 586, 8, 587, 10, 153, 562, 563, 588, 102, 103, 104, 37, 38, 39, 40, 41, 11, 12, 13, 14, 15, 16, 154, 155, 156, 157, 158, 159, 160, 161, 162, 163, 164, 165, 166, 167, 168, 169, 65, 589, 590, 591, 36, 592, 50, 348, 593, 349, 350, 594, 366, 367, 146, 368, 178, 564, 565, 566, 567, 568, 569, 691, 692, 693, 694, 695, 696, 697, 698, 699, 700, 701, 702, 703, 704, 705, 706, 707, 708, 709, 710, 713, 714, 715, 716, 717, 718, 719, 739, 740] (by decide +kernel) (by decide +kernel)) (goodIn_sub (fun _ h => List.mem_cons_of_mem _ (List.mem_append_left _ (List.mem_append_right _ h))) (by decide +kernel))
set_option maxRecDepth 20000 in
theorem gL_refuses_L_wanted : GoodIn wsL_refuses (va_wsS RL 186 yL_wanted wsL_wanted) := goodIn_app (goodIn_of _ (by decide +kernel)) ggL_refuses_L_wanted
set_option maxRecDepth 20000 in
theorem ggL_refuses_L_way : GoodIn wsL_refuses wsL_way := goodIn_ca (goodIn_r _ [597, 138, 2, 598, 599, 600, 8, 601, 602, 10, 603, 604, 558, 559, 560, 561, 151, 152, 562, 563, 605, 606, 607, 608, 609, 610, 611, 612, 613, 614, 615, 616, 617, 618, 619, 620, 12, 13, 14, 15, 16, 621, 155, 156, 157, 158, 159, 160, 161, 162, 163, 164, 165, 166, 167, 168, 169, 65, 622, 623, 624, 36, 625, 55, 56, 626, 590, 591, 592, 50, 348, 593, 349, 350, 594, 366, 367, 146, 368, 178, 627, 628, 629, 630, 631, 362, 103, 363, 632, 633, 634, 635, 636, 637, 638, 639, 640, 641, 129, 130, 642, 643, 644, 645, 691, 692, 693, 694, 695, 696, 697, 698, 699, 739, 740, 741, 742, 743, 744, 745, 703, 704, 705, 706, 707, 708, 709, 710, 700, 701, 702, 713, 714, 715, 716, 717, 718, 719] (by decide +kernel) (by decide +kernel)) (goodIn_sub (fun _ h => List.mem_cons_of_mem _ (List.mem_append_right _ h)) (by decide +kernel))
set_option maxRecDepth 20000 in
theorem gL_refuses_L_way : GoodIn wsL_refuses (va_wsS RL 188 yL_way wsL_way) := goodIn_app (goodIn_of _ (by decide +kernel)) ggL_refuses_L_way
set_option maxRecDepth 20000 in
theorem ggL_refuses_L_planned : GoodIn wsL_refuses wsL_planned := goodIn_ca (goodIn_r _ [648, 138, 2, 649, 650, 651, 8, 652, 602, 10, 603, 653, 558, 559, 560, 561, 151, 152, 562, 563, 605, 606, 607, 608, 609, 610, 611, 612, 613, 614, 615, 616, 617, 618, 619, 620, 12, 13, 14, 15, 16, 621, 155, 156, 157, 158, 159, 160, 161, 162, 163, 164, 165, 166, 167, 168, 169, 65, 622, 623, 624, 36, 625, 55, 56, 626, 590, 591, 592, 50, 348, 593, 349, 350, 594, 366, 367, 146, 368, 178, 627, 628, 629, 630, 631, 362, 103, 363, 632, 633, 634, 635, 636, 637, 638, 639, 640, 641, 129, 130, 642, 643, 644, 645, 215, 216, 217, 654, 655, 656, 657, 691, 692, 693, 694, 695, 696, 697, 698, 699, 739, 740, 741, 742, 743, 744, 745, 703, 704, 705, 706, 707, 708, 709, 710, 700, 701, 702, 713, 714, 715, 716, 717, 718, 719] (by decide +kernel) (by decide +kernel)) (goodIn_sub (fun _ h => List.mem_cons_of_mem _ (List.mem_append_right _ h)) (by decide +kernel))
set_option maxRecDepth 20000 in
theorem gL_refuses_L_planned : GoodIn wsL_refuses (va_wsS RL 190 yL_planned wsL_planned) := goodIn_app (goodIn_of _ (by decide +kernel)) ggL_refuses_L_planned
set_option maxRecDepth 20000 in
theorem ggL_refuses_L_go : GoodIn wsL_refuses wsL_go := goodIn_ca (goodIn_ca (goodIn_r _ [660, 138, 27, 2, 4, 661, 662, 663, 8, 664, 32, 33, 602, 10, 603, 653, 665, 558, 559, 560, 561, 151, 152, 562, 563, 605, 606, 607, 608, 609, 610, 611, 612, 613, 614, 615, 616, 617, 618, 619, 620, 12, 13, 14, 15, 16, 621, 155, 156, 157, 158, 159, 160, 161, 162, 163, 164, 165, 166, 167, 168, 169, 65, 622, 623, 624, 36, 625, 55, 56, 626, 590, 591, 592, 50, 348, 593, 349, 350, 594, 366, 367, 146, 368, 178, 627, 628, 629, 630, 631, 362, 103, 363, 632, 633, 634, 635, 636, 637, 638, 639, 640, 641, 129, 130, 642, 643, 644, 645, 654, 655, 656, 657, 147, 148, 149, 150, 153, 11, 154, 666, 667, 668, 669, 58, 57, 670, 671, 672, 673, 143, 196, 245, 473, 674, 675, 676, 567, 677, 678, 565, 566, 568, 569, 679, 571, 572, 573, 680, 681, 682, 261, 683, 691, 692, 693, 694, 695, 696, 697, 698, 699, 739, 740, 741, 742, 743, 744, 745, 703, 704, 705, 706, 707, 708, 709, 710, 700, 701, 702, 713, 714, 715, 716, 717, 718, 719] (by decide +kernel) (by decide +kernel)) (goodIn_sub (fun _ h => List.mem_cons_of_mem _ (List.mem_append_left _ (List.mem_append_left _ (List.mem_append_right _ h)))) (by decide +kernel))) (goodIn_sub (fun _ h => List.mem_cons_of_mem _ (List.mem_append_right _ h)) (by decide +kernel))
set_option maxRecDepth 20000 in
theorem gL_refuses_L_go : GoodIn wsL_refuses (va_wsS RL 192 yL_go wsL_go) := goodIn_app (goodIn_of _ (by decide +kernel)) ggL_refuses_L_go
set_option maxRecDepth 20000 in
theorem ggL_refuses_L_vanAt : GoodIn wsL_refuses wsL_vanAt := goodIn_ca (goodIn_r _ [686, 138, 2, 687, 688, 689, 8, 690, 603, 558, 559, 560, 561, 151, 152, 562, 563, 739, 740, 691, 692, 693, 694, 695, 696, 697, 698, 699] (by decide +kernel) (by decide +kernel)) (goodIn_sub (fun _ h => List.mem_cons_of_mem _ (List.mem_append_right _ h)) (by decide +kernel))
set_option maxRecDepth 20000 in
theorem gL_refuses_L_vanAt : GoodIn wsL_refuses (va_wsS RL 194 yL_vanAt wsL_vanAt) := goodIn_app (goodIn_of _ (by decide +kernel)) ggL_refuses_L_vanAt
theorem dL_refuses_0 : decode cL_refuses 0 = .ok (.iload_n 2, 1) := by decide +kernel
theorem dL_refuses_1 : decode cL_refuses 1 = .ok (.iconst 2, 1) := by decide +kernel
theorem dL_refuses_2 : decode cL_refuses 2 = .ok (.irem, 1) := by decide +kernel
theorem dL_refuses_3 : decode cL_refuses 3 = .ok (.ifCond .ne 7, 3) := by decide +kernel
theorem dL_refuses_6 : decode cL_refuses 6 = .ok (.iconst 1, 1) := by decide +kernel
theorem dL_refuses_7 : decode cL_refuses 7 = .ok (.goto 4, 3) := by decide +kernel
theorem dL_refuses_10 : decode cL_refuses 10 = .ok (.iconst 0, 1) := by decide +kernel
theorem dL_refuses_11 : decode cL_refuses 11 = .ok (.istore_n 3, 1) := by decide +kernel
theorem dL_refuses_12 : decode cL_refuses 12 = .ok (.iload_n 3, 1) := by decide +kernel
theorem dL_refuses_13 : decode cL_refuses 13 = .ok (.ifCond .eq 12, 3) := by decide +kernel
theorem dL_refuses_16 : decode cL_refuses 16 = .ok (.iconst (-1), 1) := by decide +kernel
theorem dL_refuses_17 : decode cL_refuses 17 = .ok (.iload_n 2, 1) := by decide +kernel
theorem dL_refuses_18 : decode cL_refuses 18 = .ok (.bipush 50, 2) := by decide +kernel
theorem dL_refuses_20 : decode cL_refuses 20 = .ok (.irem, 1) := by decide +kernel
theorem dL_refuses_21 : decode cL_refuses 21 = .ok (.isub, 1) := by decide +kernel
theorem dL_refuses_22 : decode cL_refuses 22 = .ok (.goto 12, 3) := by decide +kernel
theorem dL_refuses_25 : decode cL_refuses 25 = .ok (.aload_n 0, 1) := by decide +kernel
theorem dL_refuses_26 : decode cL_refuses 26 = .ok (.invokevirtual 117, 3) := by decide +kernel
theorem dL_refuses_29 : decode cL_refuses 29 = .ok (.iload_n 2, 1) := by decide +kernel
theorem dL_refuses_30 : decode cL_refuses 30 = .ok (.bipush 50, 2) := by decide +kernel
theorem dL_refuses_32 : decode cL_refuses 32 = .ok (.irem, 1) := by decide +kernel
theorem dL_refuses_33 : decode cL_refuses 33 = .ok (.iadd, 1) := by decide +kernel
theorem dL_refuses_34 : decode cL_refuses 34 = .ok (.istore 4, 2) := by decide +kernel
theorem dL_refuses_36 : decode cL_refuses 36 = .ok (.iload_n 3, 1) := by decide +kernel
theorem dL_refuses_37 : decode cL_refuses 37 = .ok (.ifCond .eq 12, 3) := by decide +kernel
theorem dL_refuses_40 : decode cL_refuses 40 = .ok (.iconst (-1), 1) := by decide +kernel
theorem dL_refuses_41 : decode cL_refuses 41 = .ok (.iload_n 2, 1) := by decide +kernel
theorem dL_refuses_42 : decode cL_refuses 42 = .ok (.bipush 50, 2) := by decide +kernel
theorem dL_refuses_44 : decode cL_refuses 44 = .ok (.irem, 1) := by decide +kernel
theorem dL_refuses_45 : decode cL_refuses 45 = .ok (.isub, 1) := by decide +kernel
theorem dL_refuses_46 : decode cL_refuses 46 = .ok (.goto 12, 3) := by decide +kernel
theorem dL_refuses_49 : decode cL_refuses 49 = .ok (.aload_n 0, 1) := by decide +kernel
theorem dL_refuses_50 : decode cL_refuses 50 = .ok (.invokevirtual 121, 3) := by decide +kernel
theorem dL_refuses_53 : decode cL_refuses 53 = .ok (.iload_n 2, 1) := by decide +kernel
theorem dL_refuses_54 : decode cL_refuses 54 = .ok (.bipush 50, 2) := by decide +kernel
theorem dL_refuses_56 : decode cL_refuses 56 = .ok (.irem, 1) := by decide +kernel
theorem dL_refuses_57 : decode cL_refuses 57 = .ok (.iadd, 1) := by decide +kernel
theorem dL_refuses_58 : decode cL_refuses 58 = .ok (.istore 5, 2) := by decide +kernel
theorem dL_refuses_60 : decode cL_refuses 60 = .ok (.iload_n 3, 1) := by decide +kernel
theorem dL_refuses_61 : decode cL_refuses 61 = .ok (.ifCond .eq 12, 3) := by decide +kernel
theorem dL_refuses_64 : decode cL_refuses 64 = .ok (.iconst (-1), 1) := by decide +kernel
theorem dL_refuses_65 : decode cL_refuses 65 = .ok (.iload_n 2, 1) := by decide +kernel
theorem dL_refuses_66 : decode cL_refuses 66 = .ok (.bipush 50, 2) := by decide +kernel
theorem dL_refuses_68 : decode cL_refuses 68 = .ok (.irem, 1) := by decide +kernel
theorem dL_refuses_69 : decode cL_refuses 69 = .ok (.isub, 1) := by decide +kernel
theorem dL_refuses_70 : decode cL_refuses 70 = .ok (.goto 9, 3) := by decide +kernel
theorem dL_refuses_73 : decode cL_refuses 73 = .ok (.iconst 2, 1) := by decide +kernel
theorem dL_refuses_74 : decode cL_refuses 74 = .ok (.iload_n 2, 1) := by decide +kernel
theorem dL_refuses_75 : decode cL_refuses 75 = .ok (.bipush 50, 2) := by decide +kernel
theorem dL_refuses_77 : decode cL_refuses 77 = .ok (.irem, 1) := by decide +kernel
theorem dL_refuses_78 : decode cL_refuses 78 = .ok (.iadd, 1) := by decide +kernel
theorem dL_refuses_79 : decode cL_refuses 79 = .ok (.istore 6, 2) := by decide +kernel
theorem dL_refuses_81 : decode cL_refuses 81 = .ok (.aload_n 0, 1) := by decide +kernel
theorem dL_refuses_82 : decode cL_refuses 82 = .ok (.bipush 101, 2) := by decide +kernel
theorem dL_refuses_84 : decode cL_refuses 84 = .ok (.iload_n 2, 1) := by decide +kernel
theorem dL_refuses_85 : decode cL_refuses 85 = .ok (.iadd, 1) := by decide +kernel
theorem dL_refuses_86 : decode cL_refuses 86 = .ok (.iconst 1, 1) := by decide +kernel
theorem dL_refuses_87 : decode cL_refuses 87 = .ok (.invokestatic 124, 3) := by decide +kernel
theorem dL_refuses_90 : decode cL_refuses 90 = .ok (.ldc 15, 2) := by decide +kernel
theorem dL_refuses_92 : decode cL_refuses 92 = .ok (.if_icmp .ne 600, 3) := by decide +kernel
theorem dL_refuses_95 : decode cL_refuses 95 = .ok (.aload_n 0, 1) := by decide +kernel
theorem dL_refuses_96 : decode cL_refuses 96 = .ok (.iload_n 2, 1) := by decide +kernel
theorem dL_refuses_97 : decode cL_refuses 97 = .ok (.bipush 101, 2) := by decide +kernel
theorem dL_refuses_99 : decode cL_refuses 99 = .ok (.irem, 1) := by decide +kernel
theorem dL_refuses_100 : decode cL_refuses 100 = .ok (.bipush 10, 2) := by decide +kernel
theorem dL_refuses_102 : decode cL_refuses 102 = .ok (.iload_n 2, 1) := by decide +kernel
theorem dL_refuses_103 : decode cL_refuses 103 = .ok (.iadd, 1) := by decide +kernel
theorem dL_refuses_104 : decode cL_refuses 104 = .ok (.invokestatic 124, 3) := by decide +kernel
theorem dL_refuses_107 : decode cL_refuses 107 = .ok (.ldc 15, 2) := by decide +kernel
theorem dL_refuses_109 : decode cL_refuses 109 = .ok (.if_icmp .ne 583, 3) := by decide +kernel
theorem dL_refuses_112 : decode cL_refuses 112 = .ok (.aload_n 0, 1) := by decide +kernel
theorem dL_refuses_113 : decode cL_refuses 113 = .ok (.iconst (-1), 1) := by decide +kernel
theorem dL_refuses_114 : decode cL_refuses 114 = .ok (.iload_n 2, 1) := by decide +kernel
theorem dL_refuses_115 : decode cL_refuses 115 = .ok (.isub, 1) := by decide +kernel
theorem dL_refuses_116 : decode cL_refuses 116 = .ok (.iconst 1, 1) := by decide +kernel
theorem dL_refuses_117 : decode cL_refuses 117 = .ok (.invokestatic 124, 3) := by decide +kernel
theorem dL_refuses_120 : decode cL_refuses 120 = .ok (.ldc 15, 2) := by decide +kernel
theorem dL_refuses_122 : decode cL_refuses 122 = .ok (.if_icmp .ne 570, 3) := by decide +kernel
theorem dL_refuses_125 : decode cL_refuses 125 = .ok (.aload_n 0, 1) := by decide +kernel
theorem dL_refuses_126 : decode cL_refuses 126 = .ok (.iload_n 2, 1) := by decide +kernel
theorem dL_refuses_127 : decode cL_refuses 127 = .ok (.bipush 101, 2) := by decide +kernel
theorem dL_refuses_129 : decode cL_refuses 129 = .ok (.irem, 1) := by decide +kernel
theorem dL_refuses_130 : decode cL_refuses 130 = .ok (.iload_n 2, 1) := by decide +kernel
theorem dL_refuses_131 : decode cL_refuses 131 = .ok (.ineg, 1) := by decide +kernel
theorem dL_refuses_132 : decode cL_refuses 132 = .ok (.invokestatic 124, 3) := by decide +kernel
theorem dL_refuses_135 : decode cL_refuses 135 = .ok (.ldc 15, 2) := by decide +kernel
theorem dL_refuses_137 : decode cL_refuses 137 = .ok (.if_icmp .ne 555, 3) := by decide +kernel
theorem dL_refuses_140 : decode cL_refuses 140 = .ok (.aload_n 0, 1) := by decide +kernel
theorem dL_refuses_141 : decode cL_refuses 141 = .ok (.iload 4, 2) := by decide +kernel
theorem dL_refuses_143 : decode cL_refuses 143 = .ok (.sipush 999, 3) := by decide +kernel
theorem dL_refuses_146 : decode cL_refuses 146 = .ok (.iconst 0, 1) := by decide +kernel
theorem dL_refuses_147 : decode cL_refuses 147 = .ok (.bipush 101, 2) := by decide +kernel
theorem dL_refuses_149 : decode cL_refuses 149 = .ok (.iconst 0, 1) := by decide +kernel
theorem dL_refuses_150 : decode cL_refuses 150 = .ok (.invokestatic 129, 3) := by decide +kernel
theorem dL_refuses_153 : decode cL_refuses 153 = .ok (.ldc 25, 2) := by decide +kernel
theorem dL_refuses_155 : decode cL_refuses 155 = .ok (.if_icmp .ne 537, 3) := by decide +kernel
theorem dL_refuses_158 : decode cL_refuses 158 = .ok (.aload_n 0, 1) := by decide +kernel
theorem dL_refuses_159 : decode cL_refuses 159 = .ok (.iload 4, 2) := by decide +kernel
theorem dL_refuses_161 : decode cL_refuses 161 = .ok (.iconst 0, 1) := by decide +kernel
theorem dL_refuses_162 : decode cL_refuses 162 = .ok (.sipush 9999, 3) := by decide +kernel
theorem dL_refuses_165 : decode cL_refuses 165 = .ok (.invokestatic 133, 3) := by decide +kernel
theorem dL_refuses_168 : decode cL_refuses 168 = .ok (.ldc 25, 2) := by decide +kernel
theorem dL_refuses_170 : decode cL_refuses 170 = .ok (.if_icmp .ne 522, 3) := by decide +kernel
theorem dL_refuses_173 : decode cL_refuses 173 = .ok (.aload_n 0, 1) := by decide +kernel
theorem dL_refuses_174 : decode cL_refuses 174 = .ok (.iload 4, 2) := by decide +kernel
theorem dL_refuses_176 : decode cL_refuses 176 = .ok (.iconst 0, 1) := by decide +kernel
theorem dL_refuses_177 : decode cL_refuses 177 = .ok (.bipush (-5), 2) := by decide +kernel
theorem dL_refuses_179 : decode cL_refuses 179 = .ok (.iconst 0, 1) := by decide +kernel
theorem dL_refuses_180 : decode cL_refuses 180 = .ok (.iconst 0, 1) := by decide +kernel
theorem dL_refuses_181 : decode cL_refuses 181 = .ok (.invokestatic 137, 3) := by decide +kernel
theorem dL_refuses_184 : decode cL_refuses 184 = .ok (.ldc 25, 2) := by decide +kernel
theorem dL_refuses_186 : decode cL_refuses 186 = .ok (.if_icmp .ne 506, 3) := by decide +kernel
theorem dL_refuses_189 : decode cL_refuses 189 = .ok (.aload_n 0, 1) := by decide +kernel
theorem dL_refuses_190 : decode cL_refuses 190 = .ok (.iload 4, 2) := by decide +kernel
theorem dL_refuses_192 : decode cL_refuses 192 = .ok (.iconst 0, 1) := by decide +kernel
theorem dL_refuses_193 : decode cL_refuses 193 = .ok (.invokestatic 140, 3) := by decide +kernel
theorem dL_refuses_196 : decode cL_refuses 196 = .ok (.ldc 25, 2) := by decide +kernel
theorem dL_refuses_198 : decode cL_refuses 198 = .ok (.if_icmp .ne 494, 3) := by decide +kernel
theorem dL_refuses_201 : decode cL_refuses 201 = .ok (.aload_n 0, 1) := by decide +kernel
theorem dL_refuses_202 : decode cL_refuses 202 = .ok (.iload 4, 2) := by decide +kernel
theorem dL_refuses_204 : decode cL_refuses 204 = .ok (.iconst 0, 1) := by decide +kernel
theorem dL_refuses_205 : decode cL_refuses 205 = .ok (.invokestatic 142, 3) := by decide +kernel
theorem dL_refuses_208 : decode cL_refuses 208 = .ok (.ldc 25, 2) := by decide +kernel
theorem dL_refuses_210 : decode cL_refuses 210 = .ok (.if_icmp .ne 482, 3) := by decide +kernel
theorem dL_refuses_213 : decode cL_refuses 213 = .ok (.aload_n 0, 1) := by decide +kernel
theorem dL_refuses_214 : decode cL_refuses 214 = .ok (.iload 4, 2) := by decide +kernel
theorem dL_refuses_216 : decode cL_refuses 216 = .ok (.iconst 0, 1) := by decide +kernel
theorem dL_refuses_217 : decode cL_refuses 217 = .ok (.invokestatic 144, 3) := by decide +kernel
theorem dL_refuses_220 : decode cL_refuses 220 = .ok (.ldc 25, 2) := by decide +kernel
theorem dL_refuses_222 : decode cL_refuses 222 = .ok (.if_icmp .ne 470, 3) := by decide +kernel
theorem dL_refuses_225 : decode cL_refuses 225 = .ok (.aload_n 0, 1) := by decide +kernel
theorem dL_refuses_226 : decode cL_refuses 226 = .ok (.iload 4, 2) := by decide +kernel
theorem dL_refuses_228 : decode cL_refuses 228 = .ok (.invokestatic 146, 3) := by decide +kernel
theorem dL_refuses_231 : decode cL_refuses 231 = .ok (.ldc 25, 2) := by decide +kernel
theorem dL_refuses_233 : decode cL_refuses 233 = .ok (.if_icmp .ne 459, 3) := by decide +kernel
theorem dL_refuses_236 : decode cL_refuses 236 = .ok (.aload_n 0, 1) := by decide +kernel
theorem dL_refuses_237 : decode cL_refuses 237 = .ok (.iload 4, 2) := by decide +kernel
theorem dL_refuses_239 : decode cL_refuses 239 = .ok (.sipush 999, 3) := by decide +kernel
theorem dL_refuses_242 : decode cL_refuses 242 = .ok (.iconst 0, 1) := by decide +kernel
theorem dL_refuses_243 : decode cL_refuses 243 = .ok (.iconst 0, 1) := by decide +kernel
theorem dL_refuses_244 : decode cL_refuses 244 = .ok (.invokestatic 149, 3) := by decide +kernel
theorem dL_refuses_247 : decode cL_refuses 247 = .ok (.ldc 25, 2) := by decide +kernel
theorem dL_refuses_249 : decode cL_refuses 249 = .ok (.if_icmp .ne 443, 3) := by decide +kernel
theorem dL_refuses_252 : decode cL_refuses 252 = .ok (.aload_n 0, 1) := by decide +kernel
theorem dL_refuses_253 : decode cL_refuses 253 = .ok (.iload 4, 2) := by decide +kernel
theorem dL_refuses_255 : decode cL_refuses 255 = .ok (.invokestatic 152, 3) := by decide +kernel
theorem dL_refuses_258 : decode cL_refuses 258 = .ok (.ldc 25, 2) := by decide +kernel
theorem dL_refuses_260 : decode cL_refuses 260 = .ok (.if_icmp .ne 432, 3) := by decide +kernel
theorem dL_refuses_263 : decode cL_refuses 263 = .ok (.aload_n 0, 1) := by decide +kernel
theorem dL_refuses_264 : decode cL_refuses 264 = .ok (.iload 5, 2) := by decide +kernel
theorem dL_refuses_266 : decode cL_refuses 266 = .ok (.invokestatic 154, 3) := by decide +kernel
theorem dL_refuses_269 : decode cL_refuses 269 = .ok (.ldc 25, 2) := by decide +kernel
theorem dL_refuses_271 : decode cL_refuses 271 = .ok (.if_icmp .ne 421, 3) := by decide +kernel
theorem dL_refuses_274 : decode cL_refuses 274 = .ok (.aload_n 0, 1) := by decide +kernel
theorem dL_refuses_275 : decode cL_refuses 275 = .ok (.iload 5, 2) := by decide +kernel
theorem dL_refuses_277 : decode cL_refuses 277 = .ok (.invokestatic 157, 3) := by decide +kernel
theorem dL_refuses_280 : decode cL_refuses 280 = .ok (.ldc 25, 2) := by decide +kernel
theorem dL_refuses_282 : decode cL_refuses 282 = .ok (.if_icmp .ne 410, 3) := by decide +kernel
theorem dL_refuses_285 : decode cL_refuses 285 = .ok (.aload_n 0, 1) := by decide +kernel
theorem dL_refuses_286 : decode cL_refuses 286 = .ok (.iload 5, 2) := by decide +kernel
theorem dL_refuses_288 : decode cL_refuses 288 = .ok (.invokestatic 159, 3) := by decide +kernel
theorem dL_refuses_291 : decode cL_refuses 291 = .ok (.ldc 25, 2) := by decide +kernel
theorem dL_refuses_293 : decode cL_refuses 293 = .ok (.if_icmp .ne 399, 3) := by decide +kernel
theorem dL_refuses_296 : decode cL_refuses 296 = .ok (.aload_n 0, 1) := by decide +kernel
theorem dL_refuses_297 : decode cL_refuses 297 = .ok (.iload 5, 2) := by decide +kernel
theorem dL_refuses_299 : decode cL_refuses 299 = .ok (.invokestatic 161, 3) := by decide +kernel
theorem dL_refuses_302 : decode cL_refuses 302 = .ok (.ldc 25, 2) := by decide +kernel
theorem dL_refuses_304 : decode cL_refuses 304 = .ok (.if_icmp .ne 388, 3) := by decide +kernel
theorem dL_refuses_307 : decode cL_refuses 307 = .ok (.aload_n 0, 1) := by decide +kernel
theorem dL_refuses_308 : decode cL_refuses 308 = .ok (.iload 5, 2) := by decide +kernel
theorem dL_refuses_310 : decode cL_refuses 310 = .ok (.invokestatic 164, 3) := by decide +kernel
theorem dL_refuses_313 : decode cL_refuses 313 = .ok (.ldc 25, 2) := by decide +kernel
theorem dL_refuses_315 : decode cL_refuses 315 = .ok (.if_icmp .ne 377, 3) := by decide +kernel
theorem dL_refuses_318 : decode cL_refuses 318 = .ok (.aload_n 0, 1) := by decide +kernel
theorem dL_refuses_319 : decode cL_refuses 319 = .ok (.iload 5, 2) := by decide +kernel
theorem dL_refuses_321 : decode cL_refuses 321 = .ok (.invokestatic 166, 3) := by decide +kernel
theorem dL_refuses_324 : decode cL_refuses 324 = .ok (.ldc 25, 2) := by decide +kernel
theorem dL_refuses_326 : decode cL_refuses 326 = .ok (.if_icmp .ne 366, 3) := by decide +kernel
theorem dL_refuses_329 : decode cL_refuses 329 = .ok (.aload_n 0, 1) := by decide +kernel
theorem dL_refuses_330 : decode cL_refuses 330 = .ok (.iload 5, 2) := by decide +kernel
theorem dL_refuses_332 : decode cL_refuses 332 = .ok (.iconst 0, 1) := by decide +kernel
theorem dL_refuses_333 : decode cL_refuses 333 = .ok (.invokestatic 168, 3) := by decide +kernel
theorem dL_refuses_336 : decode cL_refuses 336 = .ok (.ldc2_w 77, 3) := by decide +kernel
theorem dL_refuses_339 : decode cL_refuses 339 = .ok (.lcmp, 1) := by decide +kernel
theorem dL_refuses_340 : decode cL_refuses 340 = .ok (.ifCond .ne 352, 3) := by decide +kernel
theorem dL_refuses_343 : decode cL_refuses 343 = .ok (.aload_n 0, 1) := by decide +kernel
theorem dL_refuses_344 : decode cL_refuses 344 = .ok (.iload 5, 2) := by decide +kernel
theorem dL_refuses_346 : decode cL_refuses 346 = .ok (.invokestatic 172, 3) := by decide +kernel
theorem dL_refuses_349 : decode cL_refuses 349 = .ok (.ldc 25, 2) := by decide +kernel
theorem dL_refuses_351 : decode cL_refuses 351 = .ok (.if_icmp .ne 341, 3) := by decide +kernel
theorem dL_refuses_354 : decode cL_refuses 354 = .ok (.aload_n 0, 1) := by decide +kernel
theorem dL_refuses_355 : decode cL_refuses 355 = .ok (.iload 4, 2) := by decide +kernel
theorem dL_refuses_357 : decode cL_refuses 357 = .ok (.iconst (-1), 1) := by decide +kernel
theorem dL_refuses_358 : decode cL_refuses 358 = .ok (.invokestatic 174, 3) := by decide +kernel
theorem dL_refuses_361 : decode cL_refuses 361 = .ok (.ldc 25, 2) := by decide +kernel
theorem dL_refuses_363 : decode cL_refuses 363 = .ok (.if_icmp .ne 329, 3) := by decide +kernel
theorem dL_refuses_366 : decode cL_refuses 366 = .ok (.aload_n 0, 1) := by decide +kernel
theorem dL_refuses_367 : decode cL_refuses 367 = .ok (.iload 4, 2) := by decide +kernel
theorem dL_refuses_369 : decode cL_refuses 369 = .ok (.iconst 0, 1) := by decide +kernel
theorem dL_refuses_370 : decode cL_refuses 370 = .ok (.invokestatic 176, 3) := by decide +kernel
theorem dL_refuses_373 : decode cL_refuses 373 = .ok (.ldc 25, 2) := by decide +kernel
theorem dL_refuses_375 : decode cL_refuses 375 = .ok (.if_icmp .ne 317, 3) := by decide +kernel
theorem dL_refuses_378 : decode cL_refuses 378 = .ok (.aload_n 0, 1) := by decide +kernel
theorem dL_refuses_379 : decode cL_refuses 379 = .ok (.iload 4, 2) := by decide +kernel
theorem dL_refuses_381 : decode cL_refuses 381 = .ok (.invokestatic 178, 3) := by decide +kernel
theorem dL_refuses_384 : decode cL_refuses 384 = .ok (.ldc 25, 2) := by decide +kernel
theorem dL_refuses_386 : decode cL_refuses 386 = .ok (.if_icmp .ne 306, 3) := by decide +kernel
theorem dL_refuses_389 : decode cL_refuses 389 = .ok (.aload_n 0, 1) := by decide +kernel
theorem dL_refuses_390 : decode cL_refuses 390 = .ok (.iload 4, 2) := by decide +kernel
theorem dL_refuses_392 : decode cL_refuses 392 = .ok (.invokestatic 180, 3) := by decide +kernel
theorem dL_refuses_395 : decode cL_refuses 395 = .ok (.ldc 25, 2) := by decide +kernel
theorem dL_refuses_397 : decode cL_refuses 397 = .ok (.if_icmp .ne 295, 3) := by decide +kernel
theorem dL_refuses_400 : decode cL_refuses 400 = .ok (.aload_n 0, 1) := by decide +kernel
theorem dL_refuses_401 : decode cL_refuses 401 = .ok (.iload 6, 2) := by decide +kernel
theorem dL_refuses_403 : decode cL_refuses 403 = .ok (.iconst 5, 1) := by decide +kernel
theorem dL_refuses_404 : decode cL_refuses 404 = .ok (.iconst 0, 1) := by decide +kernel
theorem dL_refuses_405 : decode cL_refuses 405 = .ok (.invokestatic 182, 3) := by decide +kernel
theorem dL_refuses_408 : decode cL_refuses 408 = .ok (.ldc 25, 2) := by decide +kernel
theorem dL_refuses_410 : decode cL_refuses 410 = .ok (.if_icmp .ne 282, 3) := by decide +kernel
theorem dL_refuses_413 : decode cL_refuses 413 = .ok (.aload_n 0, 1) := by decide +kernel
theorem dL_refuses_414 : decode cL_refuses 414 = .ok (.iload_n 2, 1) := by decide +kernel
theorem dL_refuses_415 : decode cL_refuses 415 = .ok (.iconst 2, 1) := by decide +kernel
theorem dL_refuses_416 : decode cL_refuses 416 = .ok (.irem, 1) := by decide +kernel
theorem dL_refuses_417 : decode cL_refuses 417 = .ok (.iconst 2, 1) := by decide +kernel
theorem dL_refuses_418 : decode cL_refuses 418 = .ok (.iload_n 2, 1) := by decide +kernel
theorem dL_refuses_419 : decode cL_refuses 419 = .ok (.iadd, 1) := by decide +kernel
theorem dL_refuses_420 : decode cL_refuses 420 = .ok (.iconst 1, 1) := by decide +kernel
theorem dL_refuses_421 : decode cL_refuses 421 = .ok (.invokestatic 182, 3) := by decide +kernel
theorem dL_refuses_424 : decode cL_refuses 424 = .ok (.ldc 15, 2) := by decide +kernel
theorem dL_refuses_426 : decode cL_refuses 426 = .ok (.if_icmp .ne 266, 3) := by decide +kernel
theorem dL_refuses_429 : decode cL_refuses 429 = .ok (.aload_n 0, 1) := by decide +kernel
theorem dL_refuses_430 : decode cL_refuses 430 = .ok (.iload_n 2, 1) := by decide +kernel
theorem dL_refuses_431 : decode cL_refuses 431 = .ok (.iconst 2, 1) := by decide +kernel
theorem dL_refuses_432 : decode cL_refuses 432 = .ok (.irem, 1) := by decide +kernel
theorem dL_refuses_433 : decode cL_refuses 433 = .ok (.iconst (-1), 1) := by decide +kernel
theorem dL_refuses_434 : decode cL_refuses 434 = .ok (.iload_n 2, 1) := by decide +kernel
theorem dL_refuses_435 : decode cL_refuses 435 = .ok (.isub, 1) := by decide +kernel
theorem dL_refuses_436 : decode cL_refuses 436 = .ok (.iconst 1, 1) := by decide +kernel
theorem dL_refuses_437 : decode cL_refuses 437 = .ok (.invokestatic 182, 3) := by decide +kernel
theorem dL_refuses_440 : decode cL_refuses 440 = .ok (.ldc 15, 2) := by decide +kernel
theorem dL_refuses_442 : decode cL_refuses 442 = .ok (.if_icmp .ne 250, 3) := by decide +kernel
theorem dL_refuses_445 : decode cL_refuses 445 = .ok (.aload_n 0, 1) := by decide +kernel
theorem dL_refuses_446 : decode cL_refuses 446 = .ok (.iload_n 2, 1) := by decide +kernel
theorem dL_refuses_447 : decode cL_refuses 447 = .ok (.iconst 2, 1) := by decide +kernel
theorem dL_refuses_448 : decode cL_refuses 448 = .ok (.irem, 1) := by decide +kernel
theorem dL_refuses_449 : decode cL_refuses 449 = .ok (.iload_n 2, 1) := by decide +kernel
theorem dL_refuses_450 : decode cL_refuses 450 = .ok (.iconst 2, 1) := by decide +kernel
theorem dL_refuses_451 : decode cL_refuses 451 = .ok (.irem, 1) := by decide +kernel
theorem dL_refuses_452 : decode cL_refuses 452 = .ok (.bipush 21, 2) := by decide +kernel
theorem dL_refuses_454 : decode cL_refuses 454 = .ok (.iload_n 2, 1) := by decide +kernel
theorem dL_refuses_455 : decode cL_refuses 455 = .ok (.iadd, 1) := by decide +kernel
theorem dL_refuses_456 : decode cL_refuses 456 = .ok (.invokestatic 182, 3) := by decide +kernel
theorem dL_refuses_459 : decode cL_refuses 459 = .ok (.ldc 15, 2) := by decide +kernel
theorem dL_refuses_461 : decode cL_refuses 461 = .ok (.if_icmp .ne 231, 3) := by decide +kernel
theorem dL_refuses_464 : decode cL_refuses 464 = .ok (.aload_n 0, 1) := by decide +kernel
theorem dL_refuses_465 : decode cL_refuses 465 = .ok (.iload_n 2, 1) := by decide +kernel
theorem dL_refuses_466 : decode cL_refuses 466 = .ok (.iconst 2, 1) := by decide +kernel
theorem dL_refuses_467 : decode cL_refuses 467 = .ok (.irem, 1) := by decide +kernel
theorem dL_refuses_468 : decode cL_refuses 468 = .ok (.iload_n 2, 1) := by decide +kernel
theorem dL_refuses_469 : decode cL_refuses 469 = .ok (.iconst 2, 1) := by decide +kernel
theorem dL_refuses_470 : decode cL_refuses 470 = .ok (.irem, 1) := by decide +kernel
theorem dL_refuses_471 : decode cL_refuses 471 = .ok (.iload_n 2, 1) := by decide +kernel
theorem dL_refuses_472 : decode cL_refuses 472 = .ok (.ineg, 1) := by decide +kernel
theorem dL_refuses_473 : decode cL_refuses 473 = .ok (.invokestatic 182, 3) := by decide +kernel
theorem dL_refuses_476 : decode cL_refuses 476 = .ok (.ldc 15, 2) := by decide +kernel
theorem dL_refuses_478 : decode cL_refuses 478 = .ok (.if_icmp .ne 214, 3) := by decide +kernel
theorem dL_refuses_481 : decode cL_refuses 481 = .ok (.aload_n 0, 1) := by decide +kernel
theorem dL_refuses_482 : decode cL_refuses 482 = .ok (.iload 6, 2) := by decide +kernel
theorem dL_refuses_484 : decode cL_refuses 484 = .ok (.iconst 0, 1) := by decide +kernel
theorem dL_refuses_485 : decode cL_refuses 485 = .ok (.invokestatic 184, 3) := by decide +kernel
theorem dL_refuses_488 : decode cL_refuses 488 = .ok (.ldc 25, 2) := by decide +kernel
theorem dL_refuses_490 : decode cL_refuses 490 = .ok (.if_icmp .ne 202, 3) := by decide +kernel
theorem dL_refuses_493 : decode cL_refuses 493 = .ok (.aload_n 0, 1) := by decide +kernel
theorem dL_refuses_494 : decode cL_refuses 494 = .ok (.iload_n 2, 1) := by decide +kernel
theorem dL_refuses_495 : decode cL_refuses 495 = .ok (.iconst 2, 1) := by decide +kernel
theorem dL_refuses_496 : decode cL_refuses 496 = .ok (.irem, 1) := by decide +kernel
theorem dL_refuses_497 : decode cL_refuses 497 = .ok (.iconst 2, 1) := by decide +kernel
theorem dL_refuses_498 : decode cL_refuses 498 = .ok (.iload_n 2, 1) := by decide +kernel
theorem dL_refuses_499 : decode cL_refuses 499 = .ok (.iadd, 1) := by decide +kernel
theorem dL_refuses_500 : decode cL_refuses 500 = .ok (.invokestatic 184, 3) := by decide +kernel
theorem dL_refuses_503 : decode cL_refuses 503 = .ok (.ldc 15, 2) := by decide +kernel
theorem dL_refuses_505 : decode cL_refuses 505 = .ok (.if_icmp .ne 187, 3) := by decide +kernel
theorem dL_refuses_508 : decode cL_refuses 508 = .ok (.aload_n 0, 1) := by decide +kernel
theorem dL_refuses_509 : decode cL_refuses 509 = .ok (.iconst (-1), 1) := by decide +kernel
theorem dL_refuses_510 : decode cL_refuses 510 = .ok (.iload_n 2, 1) := by decide +kernel
theorem dL_refuses_511 : decode cL_refuses 511 = .ok (.isub, 1) := by decide +kernel
theorem dL_refuses_512 : decode cL_refuses 512 = .ok (.invokestatic 186, 3) := by decide +kernel
theorem dL_refuses_515 : decode cL_refuses 515 = .ok (.ldc 15, 2) := by decide +kernel
theorem dL_refuses_517 : decode cL_refuses 517 = .ok (.if_icmp .ne 175, 3) := by decide +kernel
theorem dL_refuses_520 : decode cL_refuses 520 = .ok (.aload_n 0, 1) := by decide +kernel
theorem dL_refuses_521 : decode cL_refuses 521 = .ok (.iconst 2, 1) := by decide +kernel
theorem dL_refuses_522 : decode cL_refuses 522 = .ok (.iload_n 2, 1) := by decide +kernel
theorem dL_refuses_523 : decode cL_refuses 523 = .ok (.iadd, 1) := by decide +kernel
theorem dL_refuses_524 : decode cL_refuses 524 = .ok (.invokestatic 186, 3) := by decide +kernel
theorem dL_refuses_527 : decode cL_refuses 527 = .ok (.ldc 15, 2) := by decide +kernel
theorem dL_refuses_529 : decode cL_refuses 529 = .ok (.if_icmp .ne 163, 3) := by decide +kernel
theorem dL_refuses_532 : decode cL_refuses 532 = .ok (.aload_n 0, 1) := by decide +kernel
theorem dL_refuses_533 : decode cL_refuses 533 = .ok (.iload 6, 2) := by decide +kernel
theorem dL_refuses_535 : decode cL_refuses 535 = .ok (.invokestatic 188, 3) := by decide +kernel
theorem dL_refuses_538 : decode cL_refuses 538 = .ok (.ldc 25, 2) := by decide +kernel
theorem dL_refuses_540 : decode cL_refuses 540 = .ok (.if_icmp .ne 152, 3) := by decide +kernel
theorem dL_refuses_543 : decode cL_refuses 543 = .ok (.aload_n 0, 1) := by decide +kernel
theorem dL_refuses_544 : decode cL_refuses 544 = .ok (.iload 6, 2) := by decide +kernel
theorem dL_refuses_546 : decode cL_refuses 546 = .ok (.iconst 0, 1) := by decide +kernel
theorem dL_refuses_547 : decode cL_refuses 547 = .ok (.invokestatic 190, 3) := by decide +kernel
theorem dL_refuses_550 : decode cL_refuses 550 = .ok (.ldc 25, 2) := by decide +kernel
theorem dL_refuses_552 : decode cL_refuses 552 = .ok (.if_icmp .ne 140, 3) := by decide +kernel
theorem dL_refuses_555 : decode cL_refuses 555 = .ok (.aload_n 0, 1) := by decide +kernel
theorem dL_refuses_556 : decode cL_refuses 556 = .ok (.iload_n 2, 1) := by decide +kernel
theorem dL_refuses_557 : decode cL_refuses 557 = .ok (.iconst 2, 1) := by decide +kernel
theorem dL_refuses_558 : decode cL_refuses 558 = .ok (.irem, 1) := by decide +kernel
theorem dL_refuses_559 : decode cL_refuses 559 = .ok (.bipush 6, 2) := by decide +kernel
theorem dL_refuses_561 : decode cL_refuses 561 = .ok (.iload_n 2, 1) := by decide +kernel
theorem dL_refuses_562 : decode cL_refuses 562 = .ok (.iadd, 1) := by decide +kernel
theorem dL_refuses_563 : decode cL_refuses 563 = .ok (.invokestatic 190, 3) := by decide +kernel
theorem dL_refuses_566 : decode cL_refuses 566 = .ok (.ldc 25, 2) := by decide +kernel
theorem dL_refuses_568 : decode cL_refuses 568 = .ok (.if_icmp .ne 124, 3) := by decide +kernel
theorem dL_refuses_571 : decode cL_refuses 571 = .ok (.aload_n 0, 1) := by decide +kernel
theorem dL_refuses_572 : decode cL_refuses 572 = .ok (.iload_n 2, 1) := by decide +kernel
theorem dL_refuses_573 : decode cL_refuses 573 = .ok (.iconst 2, 1) := by decide +kernel
theorem dL_refuses_574 : decode cL_refuses 574 = .ok (.irem, 1) := by decide +kernel
theorem dL_refuses_575 : decode cL_refuses 575 = .ok (.iconst (-1), 1) := by decide +kernel
theorem dL_refuses_576 : decode cL_refuses 576 = .ok (.iload_n 2, 1) := by decide +kernel
theorem dL_refuses_577 : decode cL_refuses 577 = .ok (.isub, 1) := by decide +kernel
theorem dL_refuses_578 : decode cL_refuses 578 = .ok (.invokestatic 190, 3) := by decide +kernel
theorem dL_refuses_581 : decode cL_refuses 581 = .ok (.ldc 25, 2) := by decide +kernel
theorem dL_refuses_583 : decode cL_refuses 583 = .ok (.if_icmp .ne 109, 3) := by decide +kernel
theorem dL_refuses_586 : decode cL_refuses 586 = .ok (.aload_n 0, 1) := by decide +kernel
theorem dL_refuses_587 : decode cL_refuses 587 = .ok (.iload 6, 2) := by decide +kernel
theorem dL_refuses_589 : decode cL_refuses 589 = .ok (.invokestatic 192, 3) := by decide +kernel
theorem dL_refuses_592 : decode cL_refuses 592 = .ok (.ldc 25, 2) := by decide +kernel
theorem dL_refuses_594 : decode cL_refuses 594 = .ok (.if_icmp .ne 98, 3) := by decide +kernel
theorem dL_refuses_597 : decode cL_refuses 597 = .ok (.aload_n 0, 1) := by decide +kernel
theorem dL_refuses_598 : decode cL_refuses 598 = .ok (.iload 6, 2) := by decide +kernel
theorem dL_refuses_600 : decode cL_refuses 600 = .ok (.invokestatic 194, 3) := by decide +kernel
theorem dL_refuses_603 : decode cL_refuses 603 = .ok (.ldc 25, 2) := by decide +kernel
theorem dL_refuses_605 : decode cL_refuses 605 = .ok (.if_icmp .ne 87, 3) := by decide +kernel
theorem dL_refuses_608 : decode cL_refuses 608 = .ok (.aload_n 0, 1) := by decide +kernel
theorem dL_refuses_609 : decode cL_refuses 609 = .ok (.invokevirtual 117, 3) := by decide +kernel
theorem dL_refuses_612 : decode cL_refuses 612 = .ok (.bipush 6, 2) := by decide +kernel
theorem dL_refuses_614 : decode cL_refuses 614 = .ok (.if_icmp .lt 14, 3) := by decide +kernel
theorem dL_refuses_617 : decode cL_refuses 617 = .ok (.aload_n 0, 1) := by decide +kernel
theorem dL_refuses_618 : decode cL_refuses 618 = .ok (.iconst 0, 1) := by decide +kernel
theorem dL_refuses_619 : decode cL_refuses 619 = .ok (.iconst 1, 1) := by decide +kernel
theorem dL_refuses_620 : decode cL_refuses 620 = .ok (.invokestatic 124, 3) := by decide +kernel
theorem dL_refuses_623 : decode cL_refuses 623 = .ok (.ldc 18, 2) := by decide +kernel
theorem dL_refuses_625 : decode cL_refuses 625 = .ok (.if_icmp .ne 67, 3) := by decide +kernel
theorem dL_refuses_628 : decode cL_refuses 628 = .ok (.aload_n 0, 1) := by decide +kernel
theorem dL_refuses_629 : decode cL_refuses 629 = .ok (.iload_n 2, 1) := by decide +kernel
theorem dL_refuses_630 : decode cL_refuses 630 = .ok (.iconst 2, 1) := by decide +kernel
theorem dL_refuses_631 : decode cL_refuses 631 = .ok (.irem, 1) := by decide +kernel
theorem dL_refuses_632 : decode cL_refuses 632 = .ok (.iconst 0, 1) := by decide +kernel
theorem dL_refuses_633 : decode cL_refuses 633 = .ok (.invokestatic 190, 3) := by decide +kernel
theorem dL_refuses_636 : decode cL_refuses 636 = .ok (.ifCond .ge 25, 3) := by decide +kernel
theorem dL_refuses_639 : decode cL_refuses 639 = .ok (.aload_n 0, 1) := by decide +kernel
theorem dL_refuses_640 : decode cL_refuses 640 = .ok (.iload_n 2, 1) := by decide +kernel
theorem dL_refuses_641 : decode cL_refuses 641 = .ok (.iconst 2, 1) := by decide +kernel
theorem dL_refuses_642 : decode cL_refuses 642 = .ok (.irem, 1) := by decide +kernel
theorem dL_refuses_643 : decode cL_refuses 643 = .ok (.invokestatic 192, 3) := by decide +kernel
theorem dL_refuses_646 : decode cL_refuses 646 = .ok (.ldc 18, 2) := by decide +kernel
theorem dL_refuses_648 : decode cL_refuses 648 = .ok (.if_icmp .ne 44, 3) := by decide +kernel
theorem dL_refuses_651 : decode cL_refuses 651 = .ok (.aload_n 0, 1) := by decide +kernel
theorem dL_refuses_652 : decode cL_refuses 652 = .ok (.iload_n 2, 1) := by decide +kernel
theorem dL_refuses_653 : decode cL_refuses 653 = .ok (.iconst 2, 1) := by decide +kernel
theorem dL_refuses_654 : decode cL_refuses 654 = .ok (.irem, 1) := by decide +kernel
theorem dL_refuses_655 : decode cL_refuses 655 = .ok (.invokestatic 188, 3) := by decide +kernel
theorem dL_refuses_658 : decode cL_refuses 658 = .ok (.ifCond .ne 34, 3) := by decide +kernel
theorem dL_refuses_661 : decode cL_refuses 661 = .ok (.aload_n 0, 1) := by decide +kernel
theorem dL_refuses_662 : decode cL_refuses 662 = .ok (.iload_n 2, 1) := by decide +kernel
theorem dL_refuses_663 : decode cL_refuses 663 = .ok (.iconst 2, 1) := by decide +kernel
theorem dL_refuses_664 : decode cL_refuses 664 = .ok (.irem, 1) := by decide +kernel
theorem dL_refuses_665 : decode cL_refuses 665 = .ok (.iconst 0, 1) := by decide +kernel
theorem dL_refuses_666 : decode cL_refuses 666 = .ok (.invokestatic 184, 3) := by decide +kernel
theorem dL_refuses_669 : decode cL_refuses 669 = .ok (.iconst 1, 1) := by decide +kernel
theorem dL_refuses_670 : decode cL_refuses 670 = .ok (.if_icmp .lt 18, 3) := by decide +kernel
theorem dL_refuses_673 : decode cL_refuses 673 = .ok (.aload_n 0, 1) := by decide +kernel
theorem dL_refuses_674 : decode cL_refuses 674 = .ok (.iload_n 2, 1) := by decide +kernel
theorem dL_refuses_675 : decode cL_refuses 675 = .ok (.iconst 2, 1) := by decide +kernel
theorem dL_refuses_676 : decode cL_refuses 676 = .ok (.irem, 1) := by decide +kernel
theorem dL_refuses_677 : decode cL_refuses 677 = .ok (.iconst 0, 1) := by decide +kernel
theorem dL_refuses_678 : decode cL_refuses 678 = .ok (.bipush 20, 2) := by decide +kernel
theorem dL_refuses_680 : decode cL_refuses 680 = .ok (.invokestatic 182, 3) := by decide +kernel
theorem dL_refuses_683 : decode cL_refuses 683 = .ok (.ldc 18, 2) := by decide +kernel
theorem dL_refuses_685 : decode cL_refuses 685 = .ok (.if_icmp .ne 7, 3) := by decide +kernel
theorem dL_refuses_688 : decode cL_refuses 688 = .ok (.iconst 1, 1) := by decide +kernel
theorem dL_refuses_689 : decode cL_refuses 689 = .ok (.goto 4, 3) := by decide +kernel
theorem dL_refuses_692 : decode cL_refuses 692 = .ok (.iconst 0, 1) := by decide +kernel
theorem dL_refuses_693 : decode cL_refuses 693 = .ok (.istore 7, 2) := by decide +kernel
theorem dL_refuses_695 : decode cL_refuses 695 = .ok (.iload 7, 2) := by decide +kernel
theorem dL_refuses_697 : decode cL_refuses 697 = .ok (.ifCond .eq 665, 3) := by decide +kernel
theorem dL_refuses_700 : decode cL_refuses 700 = .ok (.aload_n 0, 1) := by decide +kernel
theorem dL_refuses_701 : decode cL_refuses 701 = .ok (.invokevirtual 117, 3) := by decide +kernel
theorem dL_refuses_704 : decode cL_refuses 704 = .ok (.ifCond .le 658, 3) := by decide +kernel
theorem dL_refuses_707 : decode cL_refuses 707 = .ok (.iload_n 2, 1) := by decide +kernel
theorem dL_refuses_708 : decode cL_refuses 708 = .ok (.iconst 2, 1) := by decide +kernel
theorem dL_refuses_709 : decode cL_refuses 709 = .ok (.idiv, 1) := by decide +kernel
theorem dL_refuses_710 : decode cL_refuses 710 = .ok (.aload_n 0, 1) := by decide +kernel
theorem dL_refuses_711 : decode cL_refuses 711 = .ok (.invokevirtual 117, 3) := by decide +kernel
theorem dL_refuses_714 : decode cL_refuses 714 = .ok (.irem, 1) := by decide +kernel
theorem dL_refuses_715 : decode cL_refuses 715 = .ok (.istore 8, 2) := by decide +kernel
theorem dL_refuses_717 : decode cL_refuses 717 = .ok (.aload_n 1, 1) := by decide +kernel
theorem dL_refuses_718 : decode cL_refuses 718 = .ok (.iload 8, 2) := by decide +kernel
theorem dL_refuses_720 : decode cL_refuses 720 = .ok (.iaload, 1) := by decide +kernel
theorem dL_refuses_721 : decode cL_refuses 721 = .ok (.istore 9, 2) := by decide +kernel
theorem dL_refuses_723 : decode cL_refuses 723 = .ok (.iload_n 3, 1) := by decide +kernel
theorem dL_refuses_724 : decode cL_refuses 724 = .ok (.ifCond .eq 12, 3) := by decide +kernel
theorem dL_refuses_727 : decode cL_refuses 727 = .ok (.iconst (-1), 1) := by decide +kernel
theorem dL_refuses_728 : decode cL_refuses 728 = .ok (.iload_n 2, 1) := by decide +kernel
theorem dL_refuses_729 : decode cL_refuses 729 = .ok (.bipush 50, 2) := by decide +kernel
theorem dL_refuses_731 : decode cL_refuses 731 = .ok (.irem, 1) := by decide +kernel
theorem dL_refuses_732 : decode cL_refuses 732 = .ok (.isub, 1) := by decide +kernel
theorem dL_refuses_733 : decode cL_refuses 733 = .ok (.goto 10, 3) := by decide +kernel
theorem dL_refuses_736 : decode cL_refuses 736 = .ok (.iload 9, 2) := by decide +kernel
theorem dL_refuses_738 : decode cL_refuses 738 = .ok (.iload_n 2, 1) := by decide +kernel
theorem dL_refuses_739 : decode cL_refuses 739 = .ok (.bipush 50, 2) := by decide +kernel
theorem dL_refuses_741 : decode cL_refuses 741 = .ok (.irem, 1) := by decide +kernel
theorem dL_refuses_742 : decode cL_refuses 742 = .ok (.iadd, 1) := by decide +kernel
theorem dL_refuses_743 : decode cL_refuses 743 = .ok (.istore 10, 2) := by decide +kernel
theorem dL_refuses_745 : decode cL_refuses 745 = .ok (.aload_n 0, 1) := by decide +kernel
theorem dL_refuses_746 : decode cL_refuses 746 = .ok (.iload 8, 2) := by decide +kernel
theorem dL_refuses_748 : decode cL_refuses 748 = .ok (.sipush 160, 3) := by decide +kernel
theorem dL_refuses_751 : decode cL_refuses 751 = .ok (.iload_n 2, 1) := by decide +kernel
theorem dL_refuses_752 : decode cL_refuses 752 = .ok (.iadd, 1) := by decide +kernel
theorem dL_refuses_753 : decode cL_refuses 753 = .ok (.iconst 0, 1) := by decide +kernel
theorem dL_refuses_754 : decode cL_refuses 754 = .ok (.bipush 101, 2) := by decide +kernel
theorem dL_refuses_756 : decode cL_refuses 756 = .ok (.iconst 0, 1) := by decide +kernel
theorem dL_refuses_757 : decode cL_refuses 757 = .ok (.invokestatic 129, 3) := by decide +kernel
theorem dL_refuses_760 : decode cL_refuses 760 = .ok (.ldc 15, 2) := by decide +kernel
theorem dL_refuses_762 : decode cL_refuses 762 = .ok (.if_icmp .ne 377, 3) := by decide +kernel
theorem dL_refuses_765 : decode cL_refuses 765 = .ok (.aload_n 0, 1) := by decide +kernel
theorem dL_refuses_766 : decode cL_refuses 766 = .ok (.iload 8, 2) := by decide +kernel
theorem dL_refuses_768 : decode cL_refuses 768 = .ok (.iconst 0, 1) := by decide +kernel
theorem dL_refuses_769 : decode cL_refuses 769 = .ok (.sipush 240, 3) := by decide +kernel
theorem dL_refuses_772 : decode cL_refuses 772 = .ok (.iload_n 2, 1) := by decide +kernel
theorem dL_refuses_773 : decode cL_refuses 773 = .ok (.iadd, 1) := by decide +kernel
theorem dL_refuses_774 : decode cL_refuses 774 = .ok (.bipush 101, 2) := by decide +kernel
theorem dL_refuses_776 : decode cL_refuses 776 = .ok (.iconst 0, 1) := by decide +kernel
theorem dL_refuses_777 : decode cL_refuses 777 = .ok (.invokestatic 129, 3) := by decide +kernel
theorem dL_refuses_780 : decode cL_refuses 780 = .ok (.ldc 15, 2) := by decide +kernel
theorem dL_refuses_782 : decode cL_refuses 782 = .ok (.if_icmp .ne 357, 3) := by decide +kernel
theorem dL_refuses_785 : decode cL_refuses 785 = .ok (.aload_n 0, 1) := by decide +kernel
theorem dL_refuses_786 : decode cL_refuses 786 = .ok (.iload 8, 2) := by decide +kernel
theorem dL_refuses_788 : decode cL_refuses 788 = .ok (.iconst 0, 1) := by decide +kernel
theorem dL_refuses_789 : decode cL_refuses 789 = .ok (.iconst 0, 1) := by decide +kernel
theorem dL_refuses_790 : decode cL_refuses 790 = .ok (.sipush 6200, 3) := by decide +kernel
theorem dL_refuses_793 : decode cL_refuses 793 = .ok (.iload_n 2, 1) := by decide +kernel
theorem dL_refuses_794 : decode cL_refuses 794 = .ok (.iadd, 1) := by decide +kernel
theorem dL_refuses_795 : decode cL_refuses 795 = .ok (.iconst 0, 1) := by decide +kernel
theorem dL_refuses_796 : decode cL_refuses 796 = .ok (.invokestatic 129, 3) := by decide +kernel
theorem dL_refuses_799 : decode cL_refuses 799 = .ok (.ldc 15, 2) := by decide +kernel
theorem dL_refuses_801 : decode cL_refuses 801 = .ok (.if_icmp .ne 338, 3) := by decide +kernel
theorem dL_refuses_804 : decode cL_refuses 804 = .ok (.aload_n 0, 1) := by decide +kernel
theorem dL_refuses_805 : decode cL_refuses 805 = .ok (.iload 8, 2) := by decide +kernel
theorem dL_refuses_807 : decode cL_refuses 807 = .ok (.iconst 0, 1) := by decide +kernel
theorem dL_refuses_808 : decode cL_refuses 808 = .ok (.iconst 0, 1) := by decide +kernel
theorem dL_refuses_809 : decode cL_refuses 809 = .ok (.bipush (-101), 2) := by decide +kernel
theorem dL_refuses_811 : decode cL_refuses 811 = .ok (.iload_n 2, 1) := by decide +kernel
theorem dL_refuses_812 : decode cL_refuses 812 = .ok (.isub, 1) := by decide +kernel
theorem dL_refuses_813 : decode cL_refuses 813 = .ok (.iconst 0, 1) := by decide +kernel
theorem dL_refuses_814 : decode cL_refuses 814 = .ok (.invokestatic 129, 3) := by decide +kernel
theorem dL_refuses_817 : decode cL_refuses 817 = .ok (.ldc 15, 2) := by decide +kernel
theorem dL_refuses_819 : decode cL_refuses 819 = .ok (.if_icmp .ne 320, 3) := by decide +kernel
theorem dL_refuses_822 : decode cL_refuses 822 = .ok (.aload_n 0, 1) := by decide +kernel
theorem dL_refuses_823 : decode cL_refuses 823 = .ok (.iload 8, 2) := by decide +kernel
theorem dL_refuses_825 : decode cL_refuses 825 = .ok (.iconst 0, 1) := by decide +kernel
theorem dL_refuses_826 : decode cL_refuses 826 = .ok (.iconst 0, 1) := by decide +kernel
theorem dL_refuses_827 : decode cL_refuses 827 = .ok (.bipush 101, 2) := by decide +kernel
theorem dL_refuses_829 : decode cL_refuses 829 = .ok (.bipush 21, 2) := by decide +kernel
theorem dL_refuses_831 : decode cL_refuses 831 = .ok (.iload_n 2, 1) := by decide +kernel
theorem dL_refuses_832 : decode cL_refuses 832 = .ok (.iadd, 1) := by decide +kernel
theorem dL_refuses_833 : decode cL_refuses 833 = .ok (.invokestatic 129, 3) := by decide +kernel
theorem dL_refuses_836 : decode cL_refuses 836 = .ok (.ldc 15, 2) := by decide +kernel
theorem dL_refuses_838 : decode cL_refuses 838 = .ok (.if_icmp .ne 301, 3) := by decide +kernel
theorem dL_refuses_841 : decode cL_refuses 841 = .ok (.aload_n 0, 1) := by decide +kernel
theorem dL_refuses_842 : decode cL_refuses 842 = .ok (.iload 8, 2) := by decide +kernel
theorem dL_refuses_844 : decode cL_refuses 844 = .ok (.iload 10, 2) := by decide +kernel
theorem dL_refuses_846 : decode cL_refuses 846 = .ok (.iconst 5, 1) := by decide +kernel
theorem dL_refuses_847 : decode cL_refuses 847 = .ok (.invokestatic 133, 3) := by decide +kernel
theorem dL_refuses_850 : decode cL_refuses 850 = .ok (.ldc 25, 2) := by decide +kernel
theorem dL_refuses_852 : decode cL_refuses 852 = .ok (.if_icmp .ne 287, 3) := by decide +kernel
theorem dL_refuses_855 : decode cL_refuses 855 = .ok (.aload_n 0, 1) := by decide +kernel
theorem dL_refuses_856 : decode cL_refuses 856 = .ok (.iload 8, 2) := by decide +kernel
theorem dL_refuses_858 : decode cL_refuses 858 = .ok (.iconst 4, 1) := by decide +kernel
theorem dL_refuses_859 : decode cL_refuses 859 = .ok (.iload_n 2, 1) := by decide +kernel
theorem dL_refuses_860 : decode cL_refuses 860 = .ok (.iadd, 1) := by decide +kernel
theorem dL_refuses_861 : decode cL_refuses 861 = .ok (.iconst (-1), 1) := by decide +kernel
theorem dL_refuses_862 : decode cL_refuses 862 = .ok (.bipush 102, 2) := by decide +kernel
theorem dL_refuses_864 : decode cL_refuses 864 = .ok (.iconst 0, 1) := by decide +kernel
theorem dL_refuses_865 : decode cL_refuses 865 = .ok (.invokestatic 137, 3) := by decide +kernel
theorem dL_refuses_868 : decode cL_refuses 868 = .ok (.ldc 25, 2) := by decide +kernel
theorem dL_refuses_870 : decode cL_refuses 870 = .ok (.if_icmp .ne 269, 3) := by decide +kernel
theorem dL_refuses_873 : decode cL_refuses 873 = .ok (.aload_n 0, 1) := by decide +kernel
theorem dL_refuses_874 : decode cL_refuses 874 = .ok (.iload 8, 2) := by decide +kernel
theorem dL_refuses_876 : decode cL_refuses 876 = .ok (.iload_n 2, 1) := by decide +kernel
theorem dL_refuses_877 : decode cL_refuses 877 = .ok (.iconst 4, 1) := by decide +kernel
theorem dL_refuses_878 : decode cL_refuses 878 = .ok (.irem, 1) := by decide +kernel
theorem dL_refuses_879 : decode cL_refuses 879 = .ok (.bipush 10, 2) := by decide +kernel
theorem dL_refuses_881 : decode cL_refuses 881 = .ok (.iload 9, 2) := by decide +kernel
theorem dL_refuses_883 : decode cL_refuses 883 = .ok (.imul, 1) := by decide +kernel
theorem dL_refuses_884 : decode cL_refuses 884 = .ok (.bipush 102, 2) := by decide +kernel
theorem dL_refuses_886 : decode cL_refuses 886 = .ok (.iconst 0, 1) := by decide +kernel
theorem dL_refuses_887 : decode cL_refuses 887 = .ok (.invokestatic 137, 3) := by decide +kernel
theorem dL_refuses_890 : decode cL_refuses 890 = .ok (.ldc 25, 2) := by decide +kernel
theorem dL_refuses_892 : decode cL_refuses 892 = .ok (.if_icmp .ne 247, 3) := by decide +kernel
theorem dL_refuses_895 : decode cL_refuses 895 = .ok (.aload_n 0, 1) := by decide +kernel
theorem dL_refuses_896 : decode cL_refuses 896 = .ok (.iload 8, 2) := by decide +kernel
theorem dL_refuses_898 : decode cL_refuses 898 = .ok (.iload_n 2, 1) := by decide +kernel
theorem dL_refuses_899 : decode cL_refuses 899 = .ok (.iconst 4, 1) := by decide +kernel
theorem dL_refuses_900 : decode cL_refuses 900 = .ok (.irem, 1) := by decide +kernel
theorem dL_refuses_901 : decode cL_refuses 901 = .ok (.bipush (-2), 2) := by decide +kernel
theorem dL_refuses_903 : decode cL_refuses 903 = .ok (.iload_n 2, 1) := by decide +kernel
theorem dL_refuses_904 : decode cL_refuses 904 = .ok (.isub, 1) := by decide +kernel
theorem dL_refuses_905 : decode cL_refuses 905 = .ok (.bipush 102, 2) := by decide +kernel
theorem dL_refuses_907 : decode cL_refuses 907 = .ok (.iconst 0, 1) := by decide +kernel
theorem dL_refuses_908 : decode cL_refuses 908 = .ok (.invokestatic 137, 3) := by decide +kernel
theorem dL_refuses_911 : decode cL_refuses 911 = .ok (.ldc 15, 2) := by decide +kernel
theorem dL_refuses_913 : decode cL_refuses 913 = .ok (.if_icmp .ne 226, 3) := by decide +kernel
theorem dL_refuses_916 : decode cL_refuses 916 = .ok (.aload_n 0, 1) := by decide +kernel
theorem dL_refuses_917 : decode cL_refuses 917 = .ok (.iload 8, 2) := by decide +kernel
theorem dL_refuses_919 : decode cL_refuses 919 = .ok (.iload_n 2, 1) := by decide +kernel
theorem dL_refuses_920 : decode cL_refuses 920 = .ok (.iconst 4, 1) := by decide +kernel
theorem dL_refuses_921 : decode cL_refuses 921 = .ok (.irem, 1) := by decide +kernel
theorem dL_refuses_922 : decode cL_refuses 922 = .ok (.iconst (-1), 1) := by decide +kernel
theorem dL_refuses_923 : decode cL_refuses 923 = .ok (.bipush (-102), 2) := by decide +kernel
theorem dL_refuses_925 : decode cL_refuses 925 = .ok (.iload_n 2, 1) := by decide +kernel
theorem dL_refuses_926 : decode cL_refuses 926 = .ok (.isub, 1) := by decide +kernel
theorem dL_refuses_927 : decode cL_refuses 927 = .ok (.iconst 0, 1) := by decide +kernel
theorem dL_refuses_928 : decode cL_refuses 928 = .ok (.invokestatic 137, 3) := by decide +kernel
theorem dL_refuses_931 : decode cL_refuses 931 = .ok (.ldc 15, 2) := by decide +kernel
theorem dL_refuses_933 : decode cL_refuses 933 = .ok (.if_icmp .ne 206, 3) := by decide +kernel
theorem dL_refuses_936 : decode cL_refuses 936 = .ok (.aload_n 0, 1) := by decide +kernel
theorem dL_refuses_937 : decode cL_refuses 937 = .ok (.iload 8, 2) := by decide +kernel
theorem dL_refuses_939 : decode cL_refuses 939 = .ok (.iload_n 2, 1) := by decide +kernel
theorem dL_refuses_940 : decode cL_refuses 940 = .ok (.iconst 4, 1) := by decide +kernel
theorem dL_refuses_941 : decode cL_refuses 941 = .ok (.irem, 1) := by decide +kernel
theorem dL_refuses_942 : decode cL_refuses 942 = .ok (.iconst (-1), 1) := by decide +kernel
theorem dL_refuses_943 : decode cL_refuses 943 = .ok (.bipush 102, 2) := by decide +kernel
theorem dL_refuses_945 : decode cL_refuses 945 = .ok (.sipush 5001, 3) := by decide +kernel
theorem dL_refuses_948 : decode cL_refuses 948 = .ok (.iload_n 2, 1) := by decide +kernel
theorem dL_refuses_949 : decode cL_refuses 949 = .ok (.iadd, 1) := by decide +kernel
theorem dL_refuses_950 : decode cL_refuses 950 = .ok (.invokestatic 137, 3) := by decide +kernel
theorem dL_refuses_953 : decode cL_refuses 953 = .ok (.ldc 15, 2) := by decide +kernel
theorem dL_refuses_955 : decode cL_refuses 955 = .ok (.if_icmp .ne 184, 3) := by decide +kernel
theorem dL_refuses_958 : decode cL_refuses 958 = .ok (.aload_n 0, 1) := by decide +kernel
theorem dL_refuses_959 : decode cL_refuses 959 = .ok (.iload 8, 2) := by decide +kernel
theorem dL_refuses_961 : decode cL_refuses 961 = .ok (.iload 10, 2) := by decide +kernel
theorem dL_refuses_963 : decode cL_refuses 963 = .ok (.invokestatic 140, 3) := by decide +kernel
theorem dL_refuses_966 : decode cL_refuses 966 = .ok (.ldc 25, 2) := by decide +kernel
theorem dL_refuses_968 : decode cL_refuses 968 = .ok (.if_icmp .ne 171, 3) := by decide +kernel
theorem dL_refuses_971 : decode cL_refuses 971 = .ok (.aload_n 0, 1) := by decide +kernel
theorem dL_refuses_972 : decode cL_refuses 972 = .ok (.iload 8, 2) := by decide +kernel
theorem dL_refuses_974 : decode cL_refuses 974 = .ok (.iload 10, 2) := by decide +kernel
theorem dL_refuses_976 : decode cL_refuses 976 = .ok (.invokestatic 142, 3) := by decide +kernel
theorem dL_refuses_979 : decode cL_refuses 979 = .ok (.ldc 25, 2) := by decide +kernel
theorem dL_refuses_981 : decode cL_refuses 981 = .ok (.if_icmp .ne 158, 3) := by decide +kernel
theorem dL_refuses_984 : decode cL_refuses 984 = .ok (.aload_n 0, 1) := by decide +kernel
theorem dL_refuses_985 : decode cL_refuses 985 = .ok (.iload 8, 2) := by decide +kernel
theorem dL_refuses_987 : decode cL_refuses 987 = .ok (.iload 10, 2) := by decide +kernel
theorem dL_refuses_989 : decode cL_refuses 989 = .ok (.invokestatic 144, 3) := by decide +kernel
theorem dL_refuses_992 : decode cL_refuses 992 = .ok (.ldc 25, 2) := by decide +kernel
theorem dL_refuses_994 : decode cL_refuses 994 = .ok (.if_icmp .ne 145, 3) := by decide +kernel
theorem dL_refuses_997 : decode cL_refuses 997 = .ok (.aload_n 0, 1) := by decide +kernel
theorem dL_refuses_998 : decode cL_refuses 998 = .ok (.iload 8, 2) := by decide +kernel
theorem dL_refuses_1000 : decode cL_refuses 1000 = .ok (.sipush 160, 3) := by decide +kernel
theorem dL_refuses_1003 : decode cL_refuses 1003 = .ok (.iload_n 2, 1) := by decide +kernel
theorem dL_refuses_1004 : decode cL_refuses 1004 = .ok (.iadd, 1) := by decide +kernel
theorem dL_refuses_1005 : decode cL_refuses 1005 = .ok (.iconst 0, 1) := by decide +kernel
theorem dL_refuses_1006 : decode cL_refuses 1006 = .ok (.iconst 0, 1) := by decide +kernel
theorem dL_refuses_1007 : decode cL_refuses 1007 = .ok (.invokestatic 149, 3) := by decide +kernel
theorem dL_refuses_1010 : decode cL_refuses 1010 = .ok (.ldc 15, 2) := by decide +kernel
theorem dL_refuses_1012 : decode cL_refuses 1012 = .ok (.if_icmp .ne 127, 3) := by decide +kernel
theorem dL_refuses_1015 : decode cL_refuses 1015 = .ok (.aload_n 0, 1) := by decide +kernel
theorem dL_refuses_1016 : decode cL_refuses 1016 = .ok (.iload 8, 2) := by decide +kernel
theorem dL_refuses_1018 : decode cL_refuses 1018 = .ok (.iconst 0, 1) := by decide +kernel
theorem dL_refuses_1019 : decode cL_refuses 1019 = .ok (.bipush (-31), 2) := by decide +kernel
theorem dL_refuses_1021 : decode cL_refuses 1021 = .ok (.iload_n 2, 1) := by decide +kernel
theorem dL_refuses_1022 : decode cL_refuses 1022 = .ok (.isub, 1) := by decide +kernel
theorem dL_refuses_1023 : decode cL_refuses 1023 = .ok (.iconst 0, 1) := by decide +kernel
theorem dL_refuses_1024 : decode cL_refuses 1024 = .ok (.invokestatic 149, 3) := by decide +kernel
theorem dL_refuses_1027 : decode cL_refuses 1027 = .ok (.ldc 15, 2) := by decide +kernel
theorem dL_refuses_1029 : decode cL_refuses 1029 = .ok (.if_icmp .ne 110, 3) := by decide +kernel
theorem dL_refuses_1032 : decode cL_refuses 1032 = .ok (.aload_n 0, 1) := by decide +kernel
theorem dL_refuses_1033 : decode cL_refuses 1033 = .ok (.iload 8, 2) := by decide +kernel
theorem dL_refuses_1035 : decode cL_refuses 1035 = .ok (.iconst 0, 1) := by decide +kernel
theorem dL_refuses_1036 : decode cL_refuses 1036 = .ok (.iconst 0, 1) := by decide +kernel
theorem dL_refuses_1037 : decode cL_refuses 1037 = .ok (.bipush 31, 2) := by decide +kernel
theorem dL_refuses_1039 : decode cL_refuses 1039 = .ok (.iload_n 2, 1) := by decide +kernel
theorem dL_refuses_1040 : decode cL_refuses 1040 = .ok (.iadd, 1) := by decide +kernel
theorem dL_refuses_1041 : decode cL_refuses 1041 = .ok (.invokestatic 149, 3) := by decide +kernel
theorem dL_refuses_1044 : decode cL_refuses 1044 = .ok (.ldc 15, 2) := by decide +kernel
theorem dL_refuses_1046 : decode cL_refuses 1046 = .ok (.if_icmp .ne 93, 3) := by decide +kernel
theorem dL_refuses_1049 : decode cL_refuses 1049 = .ok (.aload_n 0, 1) := by decide +kernel
theorem dL_refuses_1050 : decode cL_refuses 1050 = .ok (.iload 8, 2) := by decide +kernel
theorem dL_refuses_1052 : decode cL_refuses 1052 = .ok (.iconst (-1), 1) := by decide +kernel
theorem dL_refuses_1053 : decode cL_refuses 1053 = .ok (.iload_n 2, 1) := by decide +kernel
theorem dL_refuses_1054 : decode cL_refuses 1054 = .ok (.isub, 1) := by decide +kernel
theorem dL_refuses_1055 : decode cL_refuses 1055 = .ok (.invokestatic 174, 3) := by decide +kernel
theorem dL_refuses_1058 : decode cL_refuses 1058 = .ok (.ldc 15, 2) := by decide +kernel
theorem dL_refuses_1060 : decode cL_refuses 1060 = .ok (.if_icmp .ne 79, 3) := by decide +kernel
theorem dL_refuses_1063 : decode cL_refuses 1063 = .ok (.aload_n 0, 1) := by decide +kernel
theorem dL_refuses_1064 : decode cL_refuses 1064 = .ok (.iload 8, 2) := by decide +kernel
theorem dL_refuses_1066 : decode cL_refuses 1066 = .ok (.bipush 40, 2) := by decide +kernel
theorem dL_refuses_1068 : decode cL_refuses 1068 = .ok (.iload_n 2, 1) := by decide +kernel
theorem dL_refuses_1069 : decode cL_refuses 1069 = .ok (.iadd, 1) := by decide +kernel
theorem dL_refuses_1070 : decode cL_refuses 1070 = .ok (.invokestatic 174, 3) := by decide +kernel
theorem dL_refuses_1073 : decode cL_refuses 1073 = .ok (.iconst (-1), 1) := by decide +kernel
theorem dL_refuses_1074 : decode cL_refuses 1074 = .ok (.if_icmp .ne 65, 3) := by decide +kernel
theorem dL_refuses_1077 : decode cL_refuses 1077 = .ok (.aload_n 0, 1) := by decide +kernel
theorem dL_refuses_1078 : decode cL_refuses 1078 = .ok (.iload 8, 2) := by decide +kernel
theorem dL_refuses_1080 : decode cL_refuses 1080 = .ok (.bipush 101, 2) := by decide +kernel
theorem dL_refuses_1082 : decode cL_refuses 1082 = .ok (.iload_n 2, 1) := by decide +kernel
theorem dL_refuses_1083 : decode cL_refuses 1083 = .ok (.iadd, 1) := by decide +kernel
theorem dL_refuses_1084 : decode cL_refuses 1084 = .ok (.invokestatic 176, 3) := by decide +kernel
theorem dL_refuses_1087 : decode cL_refuses 1087 = .ok (.ldc 15, 2) := by decide +kernel
theorem dL_refuses_1089 : decode cL_refuses 1089 = .ok (.if_icmp .ne 50, 3) := by decide +kernel
theorem dL_refuses_1092 : decode cL_refuses 1092 = .ok (.aload_n 0, 1) := by decide +kernel
theorem dL_refuses_1093 : decode cL_refuses 1093 = .ok (.iload 8, 2) := by decide +kernel
theorem dL_refuses_1095 : decode cL_refuses 1095 = .ok (.iload_n 2, 1) := by decide +kernel
theorem dL_refuses_1096 : decode cL_refuses 1096 = .ok (.ineg, 1) := by decide +kernel
theorem dL_refuses_1097 : decode cL_refuses 1097 = .ok (.invokestatic 176, 3) := by decide +kernel
theorem dL_refuses_1100 : decode cL_refuses 1100 = .ok (.ldc 15, 2) := by decide +kernel
theorem dL_refuses_1102 : decode cL_refuses 1102 = .ok (.if_icmp .ne 37, 3) := by decide +kernel
theorem dL_refuses_1105 : decode cL_refuses 1105 = .ok (.aload_n 0, 1) := by decide +kernel
theorem dL_refuses_1106 : decode cL_refuses 1106 = .ok (.iload 8, 2) := by decide +kernel
theorem dL_refuses_1108 : decode cL_refuses 1108 = .ok (.invokestatic 178, 3) := by decide +kernel
theorem dL_refuses_1111 : decode cL_refuses 1111 = .ok (.bipush 99, 2) := by decide +kernel
theorem dL_refuses_1113 : decode cL_refuses 1113 = .ok (.if_icmp .gt 22, 3) := by decide +kernel
theorem dL_refuses_1116 : decode cL_refuses 1116 = .ok (.aload_n 0, 1) := by decide +kernel
theorem dL_refuses_1117 : decode cL_refuses 1117 = .ok (.iload 8, 2) := by decide +kernel
theorem dL_refuses_1119 : decode cL_refuses 1119 = .ok (.aload_n 0, 1) := by decide +kernel
theorem dL_refuses_1120 : decode cL_refuses 1120 = .ok (.iload 8, 2) := by decide +kernel
theorem dL_refuses_1122 : decode cL_refuses 1122 = .ok (.invokestatic 178, 3) := by decide +kernel
theorem dL_refuses_1125 : decode cL_refuses 1125 = .ok (.iconst 1, 1) := by decide +kernel
theorem dL_refuses_1126 : decode cL_refuses 1126 = .ok (.iadd, 1) := by decide +kernel
theorem dL_refuses_1127 : decode cL_refuses 1127 = .ok (.invokestatic 176, 3) := by decide +kernel
theorem dL_refuses_1130 : decode cL_refuses 1130 = .ok (.ldc 18, 2) := by decide +kernel
theorem dL_refuses_1132 : decode cL_refuses 1132 = .ok (.if_icmp .ne 7, 3) := by decide +kernel
theorem dL_refuses_1135 : decode cL_refuses 1135 = .ok (.iconst 1, 1) := by decide +kernel
theorem dL_refuses_1136 : decode cL_refuses 1136 = .ok (.goto 4, 3) := by decide +kernel
theorem dL_refuses_1139 : decode cL_refuses 1139 = .ok (.iconst 0, 1) := by decide +kernel
theorem dL_refuses_1140 : decode cL_refuses 1140 = .ok (.istore 7, 2) := by decide +kernel
theorem dL_refuses_1142 : decode cL_refuses 1142 = .ok (.iload 7, 2) := by decide +kernel
theorem dL_refuses_1144 : decode cL_refuses 1144 = .ok (.ifCond .eq 97, 3) := by decide +kernel
theorem dL_refuses_1147 : decode cL_refuses 1147 = .ok (.aload_n 0, 1) := by decide +kernel
theorem dL_refuses_1148 : decode cL_refuses 1148 = .ok (.iload 8, 2) := by decide +kernel
theorem dL_refuses_1150 : decode cL_refuses 1150 = .ok (.invokestatic 152, 3) := by decide +kernel
theorem dL_refuses_1153 : decode cL_refuses 1153 = .ok (.ifCond .lt 88, 3) := by decide +kernel
theorem dL_refuses_1156 : decode cL_refuses 1156 = .ok (.aload_n 0, 1) := by decide +kernel
theorem dL_refuses_1157 : decode cL_refuses 1157 = .ok (.iload 8, 2) := by decide +kernel
theorem dL_refuses_1159 : decode cL_refuses 1159 = .ok (.invokestatic 146, 3) := by decide +kernel
theorem dL_refuses_1162 : decode cL_refuses 1162 = .ok (.ldc 18, 2) := by decide +kernel
theorem dL_refuses_1164 : decode cL_refuses 1164 = .ok (.if_icmp .ne 71, 3) := by decide +kernel
theorem dL_refuses_1167 : decode cL_refuses 1167 = .ok (.aload_n 0, 1) := by decide +kernel
theorem dL_refuses_1168 : decode cL_refuses 1168 = .ok (.iload 8, 2) := by decide +kernel
theorem dL_refuses_1170 : decode cL_refuses 1170 = .ok (.iconst 0, 1) := by decide +kernel
theorem dL_refuses_1171 : decode cL_refuses 1171 = .ok (.iconst 0, 1) := by decide +kernel
theorem dL_refuses_1172 : decode cL_refuses 1172 = .ok (.bipush 101, 2) := by decide +kernel
theorem dL_refuses_1174 : decode cL_refuses 1174 = .ok (.iconst 0, 1) := by decide +kernel
theorem dL_refuses_1175 : decode cL_refuses 1175 = .ok (.invokestatic 129, 3) := by decide +kernel
theorem dL_refuses_1178 : decode cL_refuses 1178 = .ok (.ldc 18, 2) := by decide +kernel
theorem dL_refuses_1180 : decode cL_refuses 1180 = .ok (.if_icmp .ne 55, 3) := by decide +kernel
theorem dL_refuses_1183 : decode cL_refuses 1183 = .ok (.aload_n 0, 1) := by decide +kernel
theorem dL_refuses_1184 : decode cL_refuses 1184 = .ok (.iload 8, 2) := by decide +kernel
theorem dL_refuses_1186 : decode cL_refuses 1186 = .ok (.iconst 0, 1) := by decide +kernel
theorem dL_refuses_1187 : decode cL_refuses 1187 = .ok (.iconst (-1), 1) := by decide +kernel
theorem dL_refuses_1188 : decode cL_refuses 1188 = .ok (.bipush 102, 2) := by decide +kernel
theorem dL_refuses_1190 : decode cL_refuses 1190 = .ok (.iconst 0, 1) := by decide +kernel
theorem dL_refuses_1191 : decode cL_refuses 1191 = .ok (.invokestatic 137, 3) := by decide +kernel
theorem dL_refuses_1194 : decode cL_refuses 1194 = .ok (.ldc 18, 2) := by decide +kernel
theorem dL_refuses_1196 : decode cL_refuses 1196 = .ok (.if_icmp .ne 39, 3) := by decide +kernel
theorem dL_refuses_1199 : decode cL_refuses 1199 = .ok (.iload 9, 2) := by decide +kernel
theorem dL_refuses_1201 : decode cL_refuses 1201 = .ok (.ifCond .eq 16, 3) := by decide +kernel
theorem dL_refuses_1204 : decode cL_refuses 1204 = .ok (.aload_n 0, 1) := by decide +kernel
theorem dL_refuses_1205 : decode cL_refuses 1205 = .ok (.iload 8, 2) := by decide +kernel
theorem dL_refuses_1207 : decode cL_refuses 1207 = .ok (.iconst 0, 1) := by decide +kernel
theorem dL_refuses_1208 : decode cL_refuses 1208 = .ok (.iconst 5, 1) := by decide +kernel
theorem dL_refuses_1209 : decode cL_refuses 1209 = .ok (.invokestatic 133, 3) := by decide +kernel
theorem dL_refuses_1212 : decode cL_refuses 1212 = .ok (.ldc 18, 2) := by decide +kernel
theorem dL_refuses_1214 : decode cL_refuses 1214 = .ok (.if_icmp .ne 21, 3) := by decide +kernel
theorem dL_refuses_1217 : decode cL_refuses 1217 = .ok (.aload_n 0, 1) := by decide +kernel
theorem dL_refuses_1218 : decode cL_refuses 1218 = .ok (.aload_n 0, 1) := by decide +kernel
theorem dL_refuses_1219 : decode cL_refuses 1219 = .ok (.iload 8, 2) := by decide +kernel
theorem dL_refuses_1221 : decode cL_refuses 1221 = .ok (.invokestatic 152, 3) := by decide +kernel
theorem dL_refuses_1224 : decode cL_refuses 1224 = .ok (.invokestatic 172, 3) := by decide +kernel
theorem dL_refuses_1227 : decode cL_refuses 1227 = .ok (.iconst (-1), 1) := by decide +kernel
theorem dL_refuses_1228 : decode cL_refuses 1228 = .ok (.if_icmp .ne 7, 3) := by decide +kernel
theorem dL_refuses_1231 : decode cL_refuses 1231 = .ok (.iconst 1, 1) := by decide +kernel
theorem dL_refuses_1232 : decode cL_refuses 1232 = .ok (.goto 4, 3) := by decide +kernel
theorem dL_refuses_1235 : decode cL_refuses 1235 = .ok (.iconst 0, 1) := by decide +kernel
theorem dL_refuses_1236 : decode cL_refuses 1236 = .ok (.istore 7, 2) := by decide +kernel
theorem dL_refuses_1238 : decode cL_refuses 1238 = .ok (.goto 72, 3) := by decide +kernel
theorem dL_refuses_1241 : decode cL_refuses 1241 = .ok (.iload 7, 2) := by decide +kernel
theorem dL_refuses_1243 : decode cL_refuses 1243 = .ok (.ifCond .eq 67, 3) := by decide +kernel
theorem dL_refuses_1246 : decode cL_refuses 1246 = .ok (.aload_n 0, 1) := by decide +kernel
theorem dL_refuses_1247 : decode cL_refuses 1247 = .ok (.iload 8, 2) := by decide +kernel
theorem dL_refuses_1249 : decode cL_refuses 1249 = .ok (.iconst 0, 1) := by decide +kernel
theorem dL_refuses_1250 : decode cL_refuses 1250 = .ok (.iconst 0, 1) := by decide +kernel
theorem dL_refuses_1251 : decode cL_refuses 1251 = .ok (.iconst 0, 1) := by decide +kernel
theorem dL_refuses_1252 : decode cL_refuses 1252 = .ok (.invokestatic 149, 3) := by decide +kernel
theorem dL_refuses_1255 : decode cL_refuses 1255 = .ok (.ldc 18, 2) := by decide +kernel
theorem dL_refuses_1257 : decode cL_refuses 1257 = .ok (.if_icmp .ne 50, 3) := by decide +kernel
theorem dL_refuses_1260 : decode cL_refuses 1260 = .ok (.iload 9, 2) := by decide +kernel
theorem dL_refuses_1262 : decode cL_refuses 1262 = .ok (.bipush 8, 2) := by decide +kernel
theorem dL_refuses_1264 : decode cL_refuses 1264 = .ok (.if_icmp .lt 19, 3) := by decide +kernel
theorem dL_refuses_1267 : decode cL_refuses 1267 = .ok (.aload_n 0, 1) := by decide +kernel
theorem dL_refuses_1268 : decode cL_refuses 1268 = .ok (.iload 8, 2) := by decide +kernel
theorem dL_refuses_1270 : decode cL_refuses 1270 = .ok (.iconst 0, 1) := by decide +kernel
theorem dL_refuses_1271 : decode cL_refuses 1271 = .ok (.iconst 0, 1) := by decide +kernel
theorem dL_refuses_1272 : decode cL_refuses 1272 = .ok (.bipush 101, 2) := by decide +kernel
theorem dL_refuses_1274 : decode cL_refuses 1274 = .ok (.iconst 0, 1) := by decide +kernel
theorem dL_refuses_1275 : decode cL_refuses 1275 = .ok (.invokestatic 129, 3) := by decide +kernel
theorem dL_refuses_1278 : decode cL_refuses 1278 = .ok (.ldc 18, 2) := by decide +kernel
theorem dL_refuses_1280 : decode cL_refuses 1280 = .ok (.if_icmp .ne 27, 3) := by decide +kernel
theorem dL_refuses_1283 : decode cL_refuses 1283 = .ok (.aload_n 0, 1) := by decide +kernel
theorem dL_refuses_1284 : decode cL_refuses 1284 = .ok (.invokevirtual 121, 3) := by decide +kernel
theorem dL_refuses_1287 : decode cL_refuses 1287 = .ok (.bipush 40, 2) := by decide +kernel
theorem dL_refuses_1289 : decode cL_refuses 1289 = .ok (.if_icmp .lt 14, 3) := by decide +kernel
theorem dL_refuses_1292 : decode cL_refuses 1292 = .ok (.aload_n 0, 1) := by decide +kernel
theorem dL_refuses_1293 : decode cL_refuses 1293 = .ok (.iload 8, 2) := by decide +kernel
theorem dL_refuses_1295 : decode cL_refuses 1295 = .ok (.invokestatic 146, 3) := by decide +kernel
theorem dL_refuses_1298 : decode cL_refuses 1298 = .ok (.ldc 18, 2) := by decide +kernel
theorem dL_refuses_1300 : decode cL_refuses 1300 = .ok (.if_icmp .ne 7, 3) := by decide +kernel
theorem dL_refuses_1303 : decode cL_refuses 1303 = .ok (.iconst 1, 1) := by decide +kernel
theorem dL_refuses_1304 : decode cL_refuses 1304 = .ok (.goto 4, 3) := by decide +kernel
theorem dL_refuses_1307 : decode cL_refuses 1307 = .ok (.iconst 0, 1) := by decide +kernel
theorem dL_refuses_1308 : decode cL_refuses 1308 = .ok (.istore 7, 2) := by decide +kernel
theorem dL_refuses_1310 : decode cL_refuses 1310 = .ok (.iconst 0, 1) := by decide +kernel
theorem dL_refuses_1311 : decode cL_refuses 1311 = .ok (.istore 11, 2) := by decide +kernel
theorem dL_refuses_1313 : decode cL_refuses 1313 = .ok (.iload 11, 2) := by decide +kernel
theorem dL_refuses_1315 : decode cL_refuses 1315 = .ok (.iload 9, 2) := by decide +kernel
theorem dL_refuses_1317 : decode cL_refuses 1317 = .ok (.if_icmp .ge 45, 3) := by decide +kernel
theorem dL_refuses_1320 : decode cL_refuses 1320 = .ok (.iload 7, 2) := by decide +kernel
theorem dL_refuses_1322 : decode cL_refuses 1322 = .ok (.ifCond .eq 40, 3) := by decide +kernel
theorem dL_refuses_1325 : decode cL_refuses 1325 = .ok (.aload_n 0, 1) := by decide +kernel
theorem dL_refuses_1326 : decode cL_refuses 1326 = .ok (.iload 8, 2) := by decide +kernel
theorem dL_refuses_1328 : decode cL_refuses 1328 = .ok (.iload 11, 2) := by decide +kernel
theorem dL_refuses_1330 : decode cL_refuses 1330 = .ok (.invokestatic 142, 3) := by decide +kernel
theorem dL_refuses_1333 : decode cL_refuses 1333 = .ok (.ifCond .eq 16, 3) := by decide +kernel
theorem dL_refuses_1336 : decode cL_refuses 1336 = .ok (.aload_n 0, 1) := by decide +kernel
theorem dL_refuses_1337 : decode cL_refuses 1337 = .ok (.iload 8, 2) := by decide +kernel
theorem dL_refuses_1339 : decode cL_refuses 1339 = .ok (.iload 11, 2) := by decide +kernel
theorem dL_refuses_1341 : decode cL_refuses 1341 = .ok (.invokestatic 140, 3) := by decide +kernel
theorem dL_refuses_1344 : decode cL_refuses 1344 = .ok (.ldc 18, 2) := by decide +kernel
theorem dL_refuses_1346 : decode cL_refuses 1346 = .ok (.if_icmp .ne 7, 3) := by decide +kernel
theorem dL_refuses_1349 : decode cL_refuses 1349 = .ok (.iconst 1, 1) := by decide +kernel
theorem dL_refuses_1350 : decode cL_refuses 1350 = .ok (.goto 4, 3) := by decide +kernel
theorem dL_refuses_1353 : decode cL_refuses 1353 = .ok (.iconst 0, 1) := by decide +kernel
theorem dL_refuses_1354 : decode cL_refuses 1354 = .ok (.istore 7, 2) := by decide +kernel
theorem dL_refuses_1356 : decode cL_refuses 1356 = .ok (.iinc 11 1, 3) := by decide +kernel
theorem dL_refuses_1359 : decode cL_refuses 1359 = .ok (.goto (-46), 3) := by decide +kernel
theorem dL_refuses_1362 : decode cL_refuses 1362 = .ok (.iload 7, 2) := by decide +kernel
theorem dL_refuses_1364 : decode cL_refuses 1364 = .ok (.ireturn, 1) := by decide +kernel
