/-! the law's words, in pieces -/
theorem inlX0 : ∀ w ∈ wsX00, w ∈ wsL_law := fun _ h => List.mem_append_left _ (List.mem_append_left _ (List.mem_append_left _ (List.mem_append_left _ (List.mem_append_right _ h))))
theorem inlX1 : ∀ w ∈ wsX10, w ∈ wsL_law := fun _ h => List.mem_append_left _ (List.mem_append_left _ (List.mem_append_left _ (List.mem_append_left _ (List.mem_append_left _ (List.mem_append_left _ (List.mem_append_left _ (List.mem_append_right _ h)))))))
theorem inlX2 : ∀ w ∈ wsX20, w ∈ wsL_law := fun _ h => List.mem_append_left _ (List.mem_append_left _ (List.mem_append_left _ (List.mem_append_left _ (List.mem_append_left _ (List.mem_append_right _ h)))))
theorem inlX3 : ∀ w ∈ wsX30, w ∈ wsL_law := fun _ h => List.mem_append_left _ (List.mem_append_left _ (List.mem_append_left _ (List.mem_append_left _ (List.mem_append_left _ (List.mem_append_left _ (List.mem_append_right _ h))))))
theorem inlX4 : ∀ w ∈ wsX40, w ∈ wsL_law := fun _ h => List.mem_append_left _ (List.mem_append_left _ (List.mem_append_left _ (List.mem_append_left _ (List.mem_append_left _ (List.mem_append_left _ (List.mem_append_left _ (List.mem_append_left _ (List.mem_append_left _ (List.mem_append_left _ (List.mem_append_right _ h))))))))))
theorem inlX5 : ∀ w ∈ wsX50, w ∈ wsL_law := fun _ h => List.mem_append_left _ (List.mem_append_left _ (List.mem_append_left _ (List.mem_append_left _ (List.mem_append_left _ (List.mem_append_left _ (List.mem_append_left _ (List.mem_append_left _ (List.mem_append_left _ (List.mem_append_left _ (List.mem_append_left _ (List.mem_append_right _ h)))))))))))
theorem inlX6 : ∀ w ∈ wsX60, w ∈ wsL_law := fun _ h => List.mem_append_left _ (List.mem_append_left _ (List.mem_append_left _ (List.mem_append_left _ (List.mem_append_left _ (List.mem_append_left _ (List.mem_append_left _ (List.mem_append_left _ (List.mem_append_right _ h))))))))
theorem inlX7 : ∀ w ∈ wsX70, w ∈ wsL_law := fun _ h => List.mem_append_left _ (List.mem_append_left _ (List.mem_append_left _ (List.mem_append_left _ (List.mem_append_left _ (List.mem_append_left _ (List.mem_append_left _ (List.mem_append_left _ (List.mem_append_left _ (List.mem_append_right _ h)))))))))
theorem inlX8 : ∀ w ∈ wsX80, w ∈ wsL_law := fun _ h => List.mem_append_left _ (List.mem_append_left _ (List.mem_append_left _ (List.mem_append_left _ (List.mem_append_left _ (List.mem_append_left _ (List.mem_append_left _ (List.mem_append_left _ (List.mem_append_left _ (List.mem_append_left _ (List.mem_append_left _ (List.mem_append_left _ (List.mem_append_right _ h))))))))))))
theorem inlX9 : ∀ w ∈ wsX90, w ∈ wsL_law := fun _ h => List.mem_append_left _ (List.mem_append_left _ (List.mem_append_left _ (List.mem_append_left _ (List.mem_append_left _ (List.mem_append_left _ (List.mem_append_left _ (List.mem_append_left _ (List.mem_append_left _ (List.mem_append_left _ (List.mem_append_left _ (List.mem_append_left _ (List.mem_append_left _ (List.mem_append_left _ (List.mem_append_right _ h))))))))))))))
theorem inlJx4a65c : ∀ w ∈ wsJx4a65c0, w ∈ wsL_law := fun _ h => List.mem_append_left _ (List.mem_append_left _ (List.mem_append_left _ (List.mem_append_left _ (List.mem_append_left _ (List.mem_append_left _ (List.mem_append_left _ (List.mem_append_left _ (List.mem_append_left _ (List.mem_append_left _ (List.mem_append_left _ (List.mem_append_left _ (List.mem_append_left _ (List.mem_append_right _ h)))))))))))))
theorem goodIn_c {big a : List Cond} {c : Cond} (h1 : GoodIn big [c]) (h2 : GoodIn big a) : GoodIn big (c :: a) := goodIn_app (a := [c]) h1 h2
theorem gc_refuses_0 : GoodIn wsL_law [.code yL_refuses cL_refuses 12 (some .boolean)] := goodIn_sub (fun w hw => by rw [List.mem_singleton.mp hw]; exact List.mem_append_left _ (List.mem_append_left _ (List.mem_append_left _ (List.mem_append_left _ (List.mem_append_left _ (List.mem_append_left _ (List.mem_append_left _ (List.mem_append_left _ (List.mem_append_left _ (List.mem_append_left _ (List.mem_append_left _ (List.mem_append_left _ (List.mem_append_left _ (List.mem_append_left _ (List.mem_append_left _ (List.mem_append_right _ (List.mem_append_right _ (List.mem_append_right _ (List.mem_append_right _ (List.mem_append_right _ (List.mem_append_right _ (List.mem_append_right _ (List.mem_append_right _ (List.mem_append_right _ (List.mem_append_right _ (List.mem_append_right _ (List.mem_append_right _ (List.mem_append_right _ (List.mem_append_right _ (List.mem_append_right _ (List.mem_append_right _ (List.mem_append_right _ (List.mem_append_right _ (List.mem_append_right _ (List.mem_append_right _ (List.mem_append_right _ (List.mem_append_right _ (List.mem_append_left _ (List.mem_of_getElem? (i := 2) rfl : .code yL_refuses cL_refuses 12 (some .boolean) ∈ wsL_law0_r23))))))))))))))))))))))))))))))))))))))) (by decide +kernel)
set_option maxRecDepth 20000 in
theorem gc_refuses_1 : GoodIn wsL_law wsL_refuses_r1 := goodIn_r _ [90, 185, 531, 91, 73, 74, 75, 2, 76, 13, 77, 78, 79, 12, 80, 81, 532, 533, 534, 535, 14, 85, 86, 69] (by decide +kernel) (by decide +kernel)
set_option maxRecDepth 20000 in
theorem gc_refuses_2 : GoodIn wsL_law wsL_refuses_r2 := goodIn_r _ [87, 88, 89, 92, 93, 94, 95, 96, 97, 98, 99, 100, 101, 102, 103, 104, 105, 106, 107, 108, 109, 8, 9, 110] (by decide +kernel) (by decide +kernel)
set_option maxRecDepth 20000 in
theorem gc_refuses_3 : GoodIn wsL_law wsL_refuses_r3 := goodIn_r _ [11, 111, 112, 113, 114, 115, 116, 117, 118, 119, 120, 121, 122, 33, 34, 35, 36, 37, 38, 39, 40, 41, 42, 43] (by decide +kernel) (by decide +kernel)
set_option maxRecDepth 20000 in
theorem gc_refuses_4 : GoodIn wsL_law wsL_refuses_r4 := goodIn_r _ [44, 45, 46, 123, 124, 125, 3, 126, 127, 128, 129, 130, 131, 132, 133, 134, 135, 136, 137, 138, 139, 140, 141, 142] (by decide +kernel) (by decide +kernel)
set_option maxRecDepth 20000 in
theorem gc_refuses_5 : GoodIn wsL_law wsL_refuses_r5 := goodIn_r _ [143, 144, 145, 146, 147, 148, 149, 150, 151, 152, 153, 154, 155, 156, 157, 158, 159, 160, 161, 162, 163, 164, 165, 166] (by decide +kernel) (by decide +kernel)
set_option maxRecDepth 20000 in
theorem gc_refuses_6 : GoodIn wsL_law wsL_refuses_r6 := goodIn_r _ [167, 168, 169, 170, 171, 172, 173, 174, 175, 176, 177, 178, 179, 180, 181, 182, 183, 184, 186, 187, 188, 189, 190, 191] (by decide +kernel) (by decide +kernel)
set_option maxRecDepth 20000 in
theorem gc_refuses_7 : GoodIn wsL_law wsL_refuses_r7 := goodIn_r _ [192, 193, 194, 195, 196, 197, 198, 199, 200, 201, 202, 203, 204, 205, 206, 207, 208, 209, 210, 211, 212, 213, 214, 215] (by decide +kernel) (by decide +kernel)
set_option maxRecDepth 20000 in
theorem gc_refuses_8 : GoodIn wsL_law wsL_refuses_r8 := goodIn_r _ [216, 217, 218, 219, 220, 221, 222, 223, 224, 225, 226, 227, 228, 229, 230, 231, 232, 233, 234, 235, 236, 237, 238, 239] (by decide +kernel) (by decide +kernel)
set_option maxRecDepth 20000 in
theorem gc_refuses_9 : GoodIn wsL_law wsL_refuses_r9 := goodIn_r _ [240, 241, 242, 243, 244, 245, 246, 247, 248, 249, 250, 251, 252, 253, 254, 255, 256, 257, 258, 259, 260, 261, 262, 263] (by decide +kernel) (by decide +kernel)
set_option maxRecDepth 20000 in
theorem gc_refuses_10 : GoodIn wsL_law wsL_refuses_r10 := goodIn_r _ [264, 265, 266, 267, 268, 269, 270, 271, 272, 273, 274, 275, 276, 277, 278, 279, 280, 281, 282, 283, 284, 285, 286, 287] (by decide +kernel) (by decide +kernel)
set_option maxRecDepth 20000 in
theorem gc_refuses_11 : GoodIn wsL_law wsL_refuses_r11 := goodIn_r _ [288, 289, 290, 291, 292, 31, 536, 537, 538, 539, 540, 541, 542, 543, 544, 545, 546, 547, 548, 549, 431, 293, 294, 295] (by decide +kernel) (by decide +kernel)
set_option maxRecDepth 20000 in
theorem gc_refuses_12 : GoodIn wsL_law wsL_refuses_r12 := goodIn_r _ [296, 297, 298, 299, 300, 301, 302, 303, 304, 305, 306, 307, 308, 309, 310, 311, 312, 313, 314, 315, 316, 317, 318, 23] (by decide +kernel) (by decide +kernel)
set_option maxRecDepth 20000 in
theorem gc_refuses_13 : GoodIn wsL_law wsL_refuses_r13 := goodIn_r _ [24, 319, 320, 321, 322, 323, 324, 325, 52, 53, 54, 55, 56, 57, 58, 433, 434, 435, 436, 437, 438, 439, 440, 441] (by decide +kernel) (by decide +kernel)
set_option maxRecDepth 20000 in
theorem gc_refuses_14 : GoodIn wsL_law wsL_refuses_r14 := goodIn_r _ [442, 443, 444, 445, 446, 447, 448, 449, 450, 451, 452, 453, 454, 455, 456, 457, 458, 459, 460, 461, 462, 463, 464, 465] (by decide +kernel) (by decide +kernel)
set_option maxRecDepth 20000 in
theorem gc_refuses_15 : GoodIn wsL_law wsL_refuses_r15 := goodIn_r _ [466, 467, 468, 469, 470, 471, 472, 473, 474, 475, 476, 382, 384, 385, 477, 478, 479, 480, 481, 482, 483, 484, 485, 486] (by decide +kernel) (by decide +kernel)
set_option maxRecDepth 20000 in
theorem gc_refuses_16 : GoodIn wsL_law wsL_refuses_r16 := goodIn_r _ [487, 395, 396, 488, 489, 387, 388, 389, 490, 491, 492, 493, 494, 495, 496, 497, 498, 499, 500, 501, 502, 503, 504, 505] (by decide +kernel) (by decide +kernel)
set_option maxRecDepth 20000 in
theorem gc_refuses_17 : GoodIn wsL_law wsL_refuses_r17 := goodIn_r _ [506, 507, 508, 509, 510, 511, 512, 513, 514, 515, 516, 517, 518, 519, 520, 521, 522, 523, 524, 525, 526, 527, 550, 551] (by decide +kernel) (by decide +kernel)
set_option maxRecDepth 20000 in
theorem gc_refuses_18 : GoodIn wsL_law wsL_refuses_r18 := goodIn_r _ [552, 553, 554, 555, 556, 557, 558, 559, 560, 561, 562, 563, 564, 565, 566, 567, 568, 569, 570, 571, 572, 573, 574, 575] (by decide +kernel) (by decide +kernel)
set_option maxRecDepth 20000 in
theorem gc_refuses_19 : GoodIn wsL_law wsL_refuses_r19 := goodIn_r _ [576, 577, 578, 579, 580, 581, 582, 583, 584, 585, 586, 587, 588, 589, 590, 591, 592, 593, 594, 595, 596, 25, 597, 598] (by decide +kernel) (by decide +kernel)
set_option maxRecDepth 20000 in
theorem gc_refuses_20 : GoodIn wsL_law wsL_refuses_r20 := goodIn_r _ [599, 600, 601, 602, 603, 604, 605, 606, 607, 608, 609, 610, 611, 612, 613, 614, 21, 615, 616, 617, 618, 619, 620, 621] (by decide +kernel) (by decide +kernel)
set_option maxRecDepth 20000 in
theorem gc_refuses_21 : GoodIn wsL_law wsL_refuses_r21 := goodIn_r _ [622, 623, 624, 625, 626, 627, 628, 629, 630, 631, 632, 633, 634, 635, 636, 637, 638, 639, 640, 641, 642, 643, 644, 645] (by decide +kernel) (by decide +kernel)
set_option maxRecDepth 20000 in
theorem gc_refuses_22 : GoodIn wsL_law wsL_refuses_r22 := goodIn_r _ [646, 647, 648, 649, 650, 651, 652, 653, 654, 655, 656, 657, 658, 659, 30, 660, 661, 662, 663, 664, 665, 666, 667, 668] (by decide +kernel) (by decide +kernel)
set_option maxRecDepth 20000 in
theorem gc_refuses_23 : GoodIn wsL_law wsL_refuses_r23 := goodIn_r _ [326, 327, 328, 329, 330, 331, 332, 669, 670, 671, 672, 673, 674, 675, 676, 677, 678, 679, 680, 681, 682, 683, 333, 334] (by decide +kernel) (by decide +kernel)
set_option maxRecDepth 20000 in
theorem gc_refuses_24 : GoodIn wsL_law wsL_refuses_r24 := goodIn_r _ [335, 336, 337, 338, 339, 340, 341, 342, 343, 18, 19, 344, 345, 346, 17, 347, 50, 348, 349, 350, 351, 684, 685, 686] (by decide +kernel) (by decide +kernel)
set_option maxRecDepth 20000 in
theorem gc_refuses_25 : GoodIn wsL_law wsL_refuses_r25 := goodIn_r _ [687, 688, 689, 690, 691, 692, 693, 694, 695, 696, 697, 698, 699, 379, 380, 381, 383, 386, 700, 701, 702, 703, 704, 705] (by decide +kernel) (by decide +kernel)
set_option maxRecDepth 20000 in
theorem gc_refuses_26 : GoodIn wsL_law wsL_refuses_r26 := goodIn_r _ [706, 29, 359, 707, 362, 363, 364, 28, 365, 66, 366, 367, 368, 369, 65, 62, 63, 370, 371, 372, 373, 374, 375, 376] (by decide +kernel) (by decide +kernel)
set_option maxRecDepth 20000 in
theorem gc_refuses_27 : GoodIn wsL_law wsL_refuses_r27 := goodIn_r _ [377, 378, 390, 391, 392, 393, 394, 397, 398, 399, 400, 64, 401, 402, 403, 404, 405, 406, 407, 408, 409, 708, 709, 710] (by decide +kernel) (by decide +kernel)
set_option maxRecDepth 20000 in
theorem gc_refuses_28 : GoodIn wsL_law wsL_refuses_r28 := goodIn_r _ [711, 712, 713, 714, 360, 410, 411, 412, 413, 352, 353, 354, 355, 356, 357, 358, 361, 414, 415, 416, 417, 418, 419, 420] (by decide +kernel) (by decide +kernel)
set_option maxRecDepth 20000 in
theorem gc_refuses_29 : GoodIn wsL_law wsL_refuses_r29 := goodIn_r _ [421, 422, 423, 424, 425, 426, 427, 428, 429, 430, 432, 715, 716, 717, 718, 719, 720, 721] (by decide +kernel) (by decide +kernel)
theorem gc_act_0 : GoodIn wsL_law [.code yL_act cL_act 7 (some .int)] := goodIn_sub (fun w hw => by rw [List.mem_singleton.mp hw]; exact List.mem_append_left _ (List.mem_append_left _ (List.mem_append_left _ (List.mem_append_left _ (List.mem_append_left _ (List.mem_append_left _ (List.mem_append_left _ (List.mem_append_left _ (List.mem_append_left _ (List.mem_append_left _ (List.mem_append_left _ (List.mem_append_left _ (List.mem_append_left _ (List.mem_append_left _ (List.mem_append_left _ (List.mem_append_right _ (List.mem_append_right _ (List.mem_append_right _ (List.mem_append_left _ (List.mem_of_getElem? (i := 12) rfl : .code yL_act cL_act 7 (some .int) ∈ wsL_law0_r4)))))))))))))))))))) (by decide +kernel)
set_option maxRecDepth 20000 in
theorem gc_act_1 : GoodIn wsL_law wsL_act_r1 := goodIn_r _ [73, 74, 75, 2, 76, 13, 77, 78, 79, 12, 80, 81, 85, 86, 69, 87, 88, 89, 90, 91, 92, 93, 94, 95] (by decide +kernel) (by decide +kernel)
set_option maxRecDepth 20000 in
theorem gc_act_2 : GoodIn wsL_law wsL_act_r2 := goodIn_r _ [96, 97, 98, 99, 100, 101, 102, 103, 104, 105, 106, 107, 108, 109, 8, 9, 110, 11, 111, 112, 113, 114, 115, 116] (by decide +kernel) (by decide +kernel)
set_option maxRecDepth 20000 in
theorem gc_act_3 : GoodIn wsL_law wsL_act_r3 := goodIn_r _ [117, 118, 119, 120, 121, 122, 33, 34, 35, 36, 37, 38, 39, 40, 41, 42, 43, 44, 45, 46, 123, 124, 125, 3] (by decide +kernel) (by decide +kernel)
set_option maxRecDepth 20000 in
theorem gc_act_4 : GoodIn wsL_law wsL_act_r4 := goodIn_r _ [126, 127, 128, 129, 130, 131, 132, 133, 134, 135, 136, 137, 138, 139, 140, 141, 142, 143, 144, 145, 146, 147, 148, 149] (by decide +kernel) (by decide +kernel)
set_option maxRecDepth 20000 in
theorem gc_act_5 : GoodIn wsL_law wsL_act_r5 := goodIn_r _ [150, 151, 152, 153, 154, 155, 156, 157, 158, 159, 160, 161, 162, 163, 164, 165, 166, 167, 168, 169, 170, 171, 172, 173] (by decide +kernel) (by decide +kernel)
set_option maxRecDepth 20000 in
theorem gc_act_6 : GoodIn wsL_law wsL_act_r6 := goodIn_r _ [174, 175, 176, 177, 178, 179, 180, 181, 182, 183, 184, 185, 186, 187, 188, 189, 190, 191, 192, 193, 194, 195, 196, 197] (by decide +kernel) (by decide +kernel)
set_option maxRecDepth 20000 in
theorem gc_act_7 : GoodIn wsL_law wsL_act_r7 := goodIn_r _ [198, 199, 200, 201, 202, 203, 204, 205, 206, 207, 208, 209, 210, 211, 212, 213, 214, 215, 216, 217, 218, 219, 220, 221] (by decide +kernel) (by decide +kernel)
set_option maxRecDepth 20000 in
theorem gc_act_8 : GoodIn wsL_law wsL_act_r8 := goodIn_r _ [222, 223, 224, 225, 226, 227, 228, 229, 230, 231, 232, 233, 234, 235, 236, 237, 238, 239, 240, 241, 242, 243, 244, 245] (by decide +kernel) (by decide +kernel)
set_option maxRecDepth 20000 in
theorem gc_act_9 : GoodIn wsL_law wsL_act_r9 := goodIn_r _ [246, 247, 248, 249, 250, 251, 252, 253, 254, 255, 256, 257, 258, 259, 260, 261, 262, 263, 264, 265, 266, 267, 268, 269] (by decide +kernel) (by decide +kernel)
set_option maxRecDepth 20000 in
theorem gc_act_10 : GoodIn wsL_law wsL_act_r10 := goodIn_r _ [270, 271, 272, 273, 274, 275, 276, 277, 278, 279, 280, 281, 282, 283, 284, 285, 286, 287, 288, 289, 290, 291, 292, 31] (by decide +kernel) (by decide +kernel)
set_option maxRecDepth 20000 in
theorem gc_act_11 : GoodIn wsL_law wsL_act_r11 := goodIn_r _ [293, 294, 295, 296, 297, 298, 299, 14, 300, 301, 302, 303, 304, 305, 306, 307, 308, 309, 310, 311, 312, 313, 314, 315] (by decide +kernel) (by decide +kernel)
set_option maxRecDepth 20000 in
theorem gc_act_12 : GoodIn wsL_law wsL_act_r12 := goodIn_r _ [316, 317, 318, 23, 24, 319, 320, 321, 322, 323, 324, 325, 52, 53, 54, 55, 56, 57, 58, 326, 327, 328, 329, 330] (by decide +kernel) (by decide +kernel)
set_option maxRecDepth 20000 in
theorem gc_act_13 : GoodIn wsL_law wsL_act_r13 := goodIn_r _ [331, 332, 333, 334, 335, 336, 337, 338, 339, 340, 341, 342, 343, 18, 19, 344, 345, 346, 17, 347, 50, 348, 349, 350] (by decide +kernel) (by decide +kernel)
set_option maxRecDepth 20000 in
theorem gc_act_14 : GoodIn wsL_law wsL_act_r14 := goodIn_r _ [351, 352, 353, 354, 355, 356, 357, 358, 29, 359, 360, 361, 362, 363, 364, 28, 365, 66, 366, 367, 368, 369, 65, 62] (by decide +kernel) (by decide +kernel)
set_option maxRecDepth 20000 in
theorem gc_act_15 : GoodIn wsL_law wsL_act_r15 := goodIn_r _ [63, 370, 371, 372, 373, 374, 375, 376, 377, 378, 379, 380, 381, 382, 383, 384, 385, 386, 387, 388, 389, 390, 391, 392] (by decide +kernel) (by decide +kernel)
set_option maxRecDepth 20000 in
theorem gc_act_16 : GoodIn wsL_law wsL_act_r16 := goodIn_r _ [393, 394, 395, 396, 397, 398, 399, 400, 64, 401, 402, 403, 404, 405, 406, 407, 408, 409, 410, 411, 412, 413, 414, 415] (by decide +kernel) (by decide +kernel)
set_option maxRecDepth 20000 in
theorem gc_act_17 : GoodIn wsL_law wsL_act_r17 := goodIn_r _ [416, 417, 418, 419, 420, 421, 21, 422, 423, 424, 425, 426, 427, 428, 429, 430, 431, 432, 433, 434, 435, 436, 437, 438] (by decide +kernel) (by decide +kernel)
set_option maxRecDepth 20000 in
theorem gc_act_18 : GoodIn wsL_law wsL_act_r18 := goodIn_r _ [439, 440, 441, 442, 443, 444, 445, 446, 447, 448, 449, 450, 451, 452, 453, 454, 455, 456, 457, 458, 459, 460, 461, 462] (by decide +kernel) (by decide +kernel)
set_option maxRecDepth 20000 in
theorem gc_act_19 : GoodIn wsL_law wsL_act_r19 := goodIn_r _ [463, 464, 465, 466, 467, 468, 469, 470, 471, 472, 473, 474, 475, 476, 477, 478, 479, 480, 481, 482, 483, 484, 485, 486] (by decide +kernel) (by decide +kernel)
set_option maxRecDepth 20000 in
theorem gc_act_20 : GoodIn wsL_law wsL_act_r20 := goodIn_r _ [487, 488, 489, 490, 491, 492, 493, 494, 495, 496, 497, 498, 499, 500, 501, 502, 503, 504, 505, 506, 507, 508, 509, 510] (by decide +kernel) (by decide +kernel)
set_option maxRecDepth 20000 in
theorem gc_act_21 : GoodIn wsL_law wsL_act_r21 := goodIn_r _ [511, 512, 513, 514, 515, 516, 517, 518, 519, 520, 521, 522, 523, 524, 525, 526, 527] (by decide +kernel) (by decide +kernel)
