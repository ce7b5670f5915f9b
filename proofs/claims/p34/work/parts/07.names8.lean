theorem gc_alike_0 : GoodIn wsL_law [.code yL_alike cL_alike 7 (some .boolean)] := goodIn_sub (fun w hw => by rw [List.mem_singleton.mp hw]; exact List.mem_append_left _ (List.mem_append_left _ (List.mem_append_left _ (List.mem_append_left _ (List.mem_append_left _ (List.mem_append_left _ (List.mem_append_left _ (List.mem_append_left _ (List.mem_append_left _ (List.mem_append_left _ (List.mem_append_left _ (List.mem_append_left _ (List.mem_append_left _ (List.mem_append_left _ (List.mem_append_left _ (List.mem_append_right _ (List.mem_append_right _ (List.mem_append_right _ (List.mem_append_right _ (List.mem_append_right _ (List.mem_append_right _ (List.mem_append_right _ (List.mem_append_right _ (List.mem_append_right _ (List.mem_append_right _ (List.mem_append_right _ (List.mem_append_right _ (List.mem_append_right _ (List.mem_append_right _ (List.mem_append_right _ (List.mem_append_right _ (List.mem_append_right _ (List.mem_append_right _ (List.mem_append_right _ (List.mem_append_right _ (List.mem_append_right _ (List.mem_append_right _ (List.mem_append_right _ (List.mem_append_right _ (List.mem_append_right _ (List.mem_append_right _ (List.mem_append_right _ (List.mem_append_right _ (List.mem_append_right _ (List.mem_append_right _ (List.mem_append_left _ (List.mem_of_getElem? (i := 4) rfl : .code yL_alike cL_alike 7 (some .boolean) ∈ wsL_law0_r31))))))))))))))))))))))))))))))))))))))))))))))) (by decide +kernel)
set_option maxRecDepth 20000 in
theorem gc_alike_1 : GoodIn wsL_law wsL_alike_r1 := goodIn_r _ [73, 74, 75, 2, 76, 13, 77, 78, 79, 12, 80, 81, 532, 533, 534, 535, 14, 691, 692, 69, 693, 88, 90, 694] (by decide +kernel) (by decide +kernel)
set_option maxRecDepth 20000 in
theorem gc_alike_2 : GoodIn wsL_law wsL_alike_r2 := goodIn_r _ [695, 696, 697, 200, 18, 19, 698, 148, 149, 150, 101, 102, 103, 104, 105, 201, 202, 203, 204, 205, 206, 207, 208, 209] (by decide +kernel) (by decide +kernel)
set_option maxRecDepth 20000 in
theorem gc_alike_3 : GoodIn wsL_law wsL_alike_r3 := goodIn_r _ [210, 211, 212, 213, 214, 215, 216, 36, 699, 379, 380, 100, 381, 111, 382, 383, 384, 385, 386, 387, 388, 193, 389, 225] (by decide +kernel) (by decide +kernel)
set_option maxRecDepth 20000 in
theorem gc_alike_4 : GoodIn wsL_law wsL_alike_r4 := goodIn_r _ [344, 345, 346, 17, 347, 50, 550, 551, 552, 184, 185, 553, 554, 555, 556, 220, 194, 195, 196, 197, 198, 199, 669, 670] (by decide +kernel) (by decide +kernel)
set_option maxRecDepth 20000 in
theorem gc_alike_5 : GoodIn wsL_law wsL_alike_r5 := goodIn_r _ [671, 672, 673, 674, 675, 303, 676, 677, 678, 679, 680, 681, 682, 683, 653, 654, 655, 656, 657, 658, 659, 30, 440, 265] (by decide +kernel) (by decide +kernel)
set_option maxRecDepth 20000 in
theorem gc_alike_6 : GoodIn wsL_law wsL_alike_r6 := goodIn_r _ [266, 267, 660, 661, 662, 663, 664, 524, 525, 526, 302, 527, 323, 593, 594, 595, 596, 25, 597, 598, 442, 599, 600, 601] (by decide +kernel) (by decide +kernel)
set_option maxRecDepth 20000 in
theorem gc_alike_7 : GoodIn wsL_law wsL_alike_r7 := goodIn_r _ [24, 602, 57, 58, 603, 604, 605, 606, 321, 607, 608, 609, 610, 611, 612, 613, 614, 21, 615, 616, 617, 618, 619, 503] (by decide +kernel) (by decide +kernel)
set_option maxRecDepth 20000 in
theorem gc_alike_8 : GoodIn wsL_law wsL_alike_r8 := goodIn_r _ [504, 505, 55, 506, 56, 507, 508, 509, 510, 269, 270, 114, 271, 128, 511, 245, 246, 247, 126, 512, 513, 514, 515, 516] (by decide +kernel) (by decide +kernel)
set_option maxRecDepth 20000 in
theorem gc_alike_9 : GoodIn wsL_law wsL_alike_r9 := goodIn_r _ [517, 518, 519, 520, 665, 666, 667, 668, 543, 544, 545, 546, 547, 548, 549, 431, 240, 241, 242, 190, 243, 536, 537, 538] (by decide +kernel) (by decide +kernel)
set_option maxRecDepth 20000 in
theorem gc_alike_10 : GoodIn wsL_law wsL_alike_r10 := goodIn_r _ [539, 540, 541, 542, 292, 579, 580, 581, 582, 583, 584, 585, 441, 564, 565, 566, 567, 557, 558, 559, 560, 561, 562, 563] (by decide +kernel) (by decide +kernel)
set_option maxRecDepth 20000 in
theorem gc_alike_11 : GoodIn wsL_law wsL_alike_r11 := goodIn_r _ [446, 568, 569, 570, 571, 572, 573, 574, 575, 576, 577, 578, 627, 628, 629, 630, 631, 632, 633, 634, 635, 636, 531, 637] (by decide +kernel) (by decide +kernel)
set_option maxRecDepth 20000 in
theorem gc_alike_12 : GoodIn wsL_law wsL_alike_r12 := goodIn_r _ [638, 639, 640, 262, 263, 264, 620, 621, 622, 623, 624, 625, 626, 715, 716, 717, 718, 719, 720, 721, 359, 340, 341, 342] (by decide +kernel) (by decide +kernel)
set_option maxRecDepth 20000 in
theorem gc_alike_13 : GoodIn wsL_law wsL_alike_r13 := goodIn_r _ [343, 684, 685, 686, 687, 688, 689, 690, 700, 701, 702, 703, 704, 705, 706, 29, 707, 362, 363, 364, 28, 365, 66, 366] (by decide +kernel) (by decide +kernel)
set_option maxRecDepth 20000 in
theorem gc_alike_14 : GoodIn wsL_law wsL_alike_r14 := goodIn_r _ [367, 368, 369, 65, 62, 63, 370, 371, 372, 373, 374, 375, 376, 377, 116, 117, 378, 390, 391, 392, 393, 394, 395, 396] (by decide +kernel) (by decide +kernel)
set_option maxRecDepth 20000 in
theorem gc_alike_15 : GoodIn wsL_law wsL_alike_r15 := goodIn_r _ [397, 398, 399, 400, 64, 401, 402, 403, 404, 405, 175, 176, 406, 407, 408, 409, 708, 709, 710, 711, 712, 713, 714, 360] (by decide +kernel) (by decide +kernel)
set_option maxRecDepth 20000 in
theorem gc_alike_16 : GoodIn wsL_law wsL_alike_r16 := goodIn_r _ [410, 411, 412, 413] (by decide +kernel) (by decide +kernel)
theorem gc_holds_0 : GoodIn wsL_law [.code yL_holds cL_holds 15 (some .boolean)] := goodIn_sub (fun w hw => by rw [List.mem_singleton.mp hw]; exact List.mem_append_left _ (List.mem_append_left _ (List.mem_append_left _ (List.mem_append_left _ (List.mem_append_left _ (List.mem_append_left _ (List.mem_append_left _ (List.mem_append_left _ (List.mem_append_left _ (List.mem_append_left _ (List.mem_append_left _ (List.mem_append_left _ (List.mem_append_left _ (List.mem_append_left _ (List.mem_append_left _ (List.mem_append_right _ (List.mem_append_right _ (List.mem_append_right _ (List.mem_append_right _ (List.mem_append_right _ (List.mem_append_right _ (List.mem_append_right _ (List.mem_append_right _ (List.mem_append_right _ (List.mem_append_right _ (List.mem_append_right _ (List.mem_append_right _ (List.mem_append_right _ (List.mem_append_right _ (List.mem_append_right _ (List.mem_append_right _ (List.mem_append_right _ (List.mem_append_right _ (List.mem_append_right _ (List.mem_append_right _ (List.mem_append_right _ (List.mem_append_right _ (List.mem_append_right _ (List.mem_append_right _ (List.mem_append_right _ (List.mem_append_right _ (List.mem_append_right _ (List.mem_append_right _ (List.mem_append_right _ (List.mem_append_right _ (List.mem_append_left _ (List.mem_of_getElem? (i := 7) rfl : .code yL_holds cL_holds 15 (some .boolean) ∈ wsL_law0_r31))))))))))))))))))))))))))))))))))))))))))))))) (by decide +kernel)
set_option maxRecDepth 20000 in
theorem gc_holds_1 : GoodIn wsL_law wsL_holds_r1 := goodIn_r _ [531, 728, 729, 730, 731, 732, 733, 734, 735, 72, 736, 737, 69, 738, 715, 716, 717, 184, 185, 718, 719, 720, 2, 721] (by decide +kernel) (by decide +kernel)
set_option maxRecDepth 20000 in
theorem gc_holds_2 : GoodIn wsL_law wsL_holds_r2 := goodIn_r _ [359, 340, 341, 342, 343, 198, 199, 18, 19, 708, 709, 710, 711, 712, 713, 714, 29, 13, 360, 362, 363, 364, 28, 365] (by decide +kernel) (by decide +kernel)
set_option maxRecDepth 20000 in
theorem gc_holds_3 : GoodIn wsL_law wsL_holds_r3 := goodIn_r _ [66, 366, 367, 368, 369, 65, 62, 63, 370, 371, 372, 78, 79, 12, 80, 81, 373, 202, 203, 204, 205, 206, 207, 208] (by decide +kernel) (by decide +kernel)
set_option maxRecDepth 20000 in
theorem gc_holds_4 : GoodIn wsL_law wsL_holds_r4 := goodIn_r _ [209, 210, 211, 212, 213, 214, 215, 216, 36, 374, 375, 376, 100, 377, 116, 117, 378, 379, 380, 381, 111, 382, 383, 384] (by decide +kernel) (by decide +kernel)
set_option maxRecDepth 20000 in
theorem gc_holds_5 : GoodIn wsL_law wsL_holds_r5 := goodIn_r _ [385, 386, 387, 388, 193, 389, 225, 390, 391, 392, 393, 394, 395, 149, 396, 397, 398, 399, 400, 64, 401, 402, 403, 404] (by decide +kernel) (by decide +kernel)
set_option maxRecDepth 20000 in
theorem gc_holds_6 : GoodIn wsL_law wsL_holds_r6 := goodIn_r _ [405, 175, 176, 406, 407, 408, 409, 262, 263, 264, 410, 411, 412, 413, 550, 551, 552, 553, 554, 555, 556, 220, 194, 195] (by decide +kernel) (by decide +kernel)
set_option maxRecDepth 20000 in
theorem gc_holds_7 : GoodIn wsL_law wsL_holds_r7 := goodIn_r _ [196, 197, 200, 77, 201, 739, 740, 741, 73, 74, 75, 76, 669, 670, 671, 672, 673, 674, 675, 303, 536, 537, 538, 539] (by decide +kernel) (by decide +kernel)
set_option maxRecDepth 20000 in
theorem gc_holds_8 : GoodIn wsL_law wsL_holds_r8 := goodIn_r _ [540, 541, 542, 292, 240, 241, 242, 190, 243, 543, 544, 545, 546, 547, 548, 549, 431, 700, 701, 702, 703, 704, 705, 706] (by decide +kernel) (by decide +kernel)
set_option maxRecDepth 20000 in
theorem gc_holds_9 : GoodIn wsL_law wsL_holds_r9 := goodIn_r _ [707, 532, 533, 534, 535, 14, 627, 628, 629, 630, 631, 632, 633, 597, 564, 565, 566, 567, 440, 557, 558, 559, 560, 561] (by decide +kernel) (by decide +kernel)
set_option maxRecDepth 20000 in
theorem gc_holds_10 : GoodIn wsL_law wsL_holds_r10 := goodIn_r _ [562, 563, 446, 641, 642, 643, 644, 645, 646, 647, 524, 525, 526, 302, 527, 323, 648, 649, 650, 651, 322, 652, 604, 605] (by decide +kernel) (by decide +kernel)
set_option maxRecDepth 20000 in
theorem gc_holds_11 : GoodIn wsL_law wsL_holds_r11 := goodIn_r _ [606, 321, 586, 587, 588, 589, 590, 591, 592, 593, 594, 595, 596, 25, 598, 442, 599, 600, 601, 24, 602, 57, 58, 603] (by decide +kernel) (by decide +kernel)
set_option maxRecDepth 20000 in
theorem gc_holds_12 : GoodIn wsL_law wsL_holds_r12 := goodIn_r _ [607, 608, 609, 610, 611, 612, 613, 614, 21, 615, 616, 617, 618, 619, 503, 504, 505, 55, 506, 56, 507, 508, 509, 510] (by decide +kernel) (by decide +kernel)
set_option maxRecDepth 20000 in
theorem gc_holds_13 : GoodIn wsL_law wsL_holds_r13 := goodIn_r _ [269, 270, 114, 271, 128, 511, 245, 246, 247, 126, 512, 513, 514, 515, 516, 517, 518, 519, 520, 579, 580, 581, 582, 583] (by decide +kernel) (by decide +kernel)
set_option maxRecDepth 20000 in
theorem gc_holds_14 : GoodIn wsL_law wsL_holds_r14 := goodIn_r _ [584, 585, 441, 568, 569, 570, 571, 572, 573, 574, 575, 576, 577, 578, 634, 635, 636, 637, 638, 639, 640, 653, 654, 655] (by decide +kernel) (by decide +kernel)
set_option maxRecDepth 20000 in
theorem gc_holds_15 : GoodIn wsL_law wsL_holds_r15 := goodIn_r _ [88, 90, 656, 657, 658, 659, 30, 265, 266, 267, 104, 105, 660, 661, 662, 663, 664, 665, 666, 667, 668, 620, 621, 622] (by decide +kernel) (by decide +kernel)
set_option maxRecDepth 20000 in
theorem gc_holds_16 : GoodIn wsL_law wsL_holds_r16 := goodIn_r _ [623, 624, 625, 626] (by decide +kernel) (by decide +kernel)
theorem gc_ends_0 : GoodIn wsL_law [.code yL_ends cL_ends 10 (some .boolean)] := goodIn_sub (fun w hw => by rw [List.mem_singleton.mp hw]; exact List.mem_append_left _ (List.mem_append_left _ (List.mem_append_left _ (List.mem_append_left _ (List.mem_append_left _ (List.mem_append_left _ (List.mem_append_left _ (List.mem_append_left _ (List.mem_append_left _ (List.mem_append_left _ (List.mem_append_left _ (List.mem_append_left _ (List.mem_append_left _ (List.mem_append_left _ (List.mem_append_left _ (List.mem_append_right _ (List.mem_append_right _ (List.mem_append_right _ (List.mem_append_right _ (List.mem_append_right _ (List.mem_append_right _ (List.mem_append_right _ (List.mem_append_right _ (List.mem_append_right _ (List.mem_append_right _ (List.mem_append_right _ (List.mem_append_right _ (List.mem_append_right _ (List.mem_append_right _ (List.mem_append_right _ (List.mem_append_right _ (List.mem_append_right _ (List.mem_append_right _ (List.mem_append_right _ (List.mem_append_right _ (List.mem_append_right _ (List.mem_append_right _ (List.mem_append_right _ (List.mem_append_right _ (List.mem_append_right _ (List.mem_append_right _ (List.mem_append_right _ (List.mem_append_right _ (List.mem_append_right _ (List.mem_append_right _ (List.mem_append_right _ ((List.mem_of_getElem? (i := 0) rfl : .code yL_ends cL_ends 10 (some .boolean) ∈ wsL_law0_r32)))))))))))))))))))))))))))))))))))))))))))))))) (by decide +kernel)
set_option maxRecDepth 20000 in
theorem gc_ends_1 : GoodIn wsL_law wsL_ends_r1 := goodIn_r _ [735, 91, 73, 74, 75, 2, 76, 13, 77, 78, 79, 12, 80, 81, 550, 551, 69, 552, 184, 185, 553, 554, 555, 556] (by decide +kernel) (by decide +kernel)
set_option maxRecDepth 20000 in
theorem gc_ends_2 : GoodIn wsL_law wsL_ends_r2 := goodIn_r _ [220, 194, 195, 196, 197, 198, 199, 200, 201, 202, 203, 204, 205, 206, 207, 208, 209, 210, 211, 212, 213, 214, 215, 216] (by decide +kernel) (by decide +kernel)
set_option maxRecDepth 20000 in
theorem gc_ends_3 : GoodIn wsL_law wsL_ends_r3 := goodIn_r _ [36, 557, 558, 559, 560, 561, 562, 563, 446, 564, 565, 566, 567, 14, 440, 579, 580, 581, 582, 583, 584, 585, 441, 442] (by decide +kernel) (by decide +kernel)
set_option maxRecDepth 20000 in
theorem gc_ends_4 : GoodIn wsL_law wsL_ends_r4 := goodIn_r _ [433, 434, 435, 88, 89, 90, 436, 437, 438, 439, 96, 97, 443, 444, 445, 101, 102, 103, 104, 105, 447, 448, 449, 450] (by decide +kernel) (by decide +kernel)
set_option maxRecDepth 20000 in
theorem gc_ends_5 : GoodIn wsL_law wsL_ends_r5 := goodIn_r _ [8, 9, 451, 452, 453, 454, 455, 456, 457, 458, 459, 460, 461, 462, 463, 464, 465, 466, 175, 149, 176, 467, 468, 469] (by decide +kernel) (by decide +kernel)
set_option maxRecDepth 20000 in
theorem gc_ends_6 : GoodIn wsL_law wsL_ends_r6 := goodIn_r _ [470, 471, 472, 473, 474, 475, 100, 476, 111, 382, 384, 385, 477, 478, 479, 193, 480, 227, 229, 228, 230, 481, 482, 483] (by decide +kernel) (by decide +kernel)
set_option maxRecDepth 20000 in
theorem gc_ends_7 : GoodIn wsL_law wsL_ends_r7 := goodIn_r _ [484, 485, 486, 487, 395, 396, 231, 488, 489, 387, 388, 389, 225, 490, 491, 492, 493, 494, 495, 496, 497, 190, 243, 431] (by decide +kernel) (by decide +kernel)
set_option maxRecDepth 20000 in
theorem gc_ends_8 : GoodIn wsL_law wsL_ends_r8 := goodIn_r _ [292, 498, 499, 500, 302, 501, 322, 321, 323, 319, 325, 502, 503, 504, 24, 505, 57, 55, 58, 506, 56, 507, 508, 509] (by decide +kernel) (by decide +kernel)
set_option maxRecDepth 20000 in
theorem gc_ends_9 : GoodIn wsL_law wsL_ends_r9 := goodIn_r _ [510, 269, 270, 114, 271, 128, 511, 245, 246, 247, 126, 512, 513, 514, 515, 516, 517, 518, 519, 520, 521, 522, 523, 524] (by decide +kernel) (by decide +kernel)
set_option maxRecDepth 20000 in
theorem gc_ends_10 : GoodIn wsL_law wsL_ends_r10 := goodIn_r _ [525, 526, 527, 586, 587, 588, 589, 590, 591, 592, 593, 594, 595, 596, 25, 597, 598, 599, 600, 601, 602, 603, 604, 605] (by decide +kernel) (by decide +kernel)
set_option maxRecDepth 20000 in
theorem gc_ends_11 : GoodIn wsL_law wsL_ends_r11 := goodIn_r _ [606, 607, 608, 609, 610, 611, 612, 613, 614, 21, 615, 616, 617, 618, 619, 700, 701, 702, 703, 704, 705, 706, 29, 359] (by decide +kernel) (by decide +kernel)
set_option maxRecDepth 20000 in
theorem gc_ends_12 : GoodIn wsL_law wsL_ends_r12 := goodIn_r _ [707, 340, 341, 342, 343, 18, 19, 362, 363, 364, 28, 365, 66, 366, 367, 368, 369, 65, 62, 63, 370, 371, 372, 373] (by decide +kernel) (by decide +kernel)
set_option maxRecDepth 20000 in
theorem gc_ends_13 : GoodIn wsL_law wsL_ends_r13 := goodIn_r _ [374, 375, 376, 377, 116, 117, 378, 379, 380, 381, 383, 386, 390, 391, 392, 393, 394, 397, 398, 399, 400, 64, 401, 402] (by decide +kernel) (by decide +kernel)
set_option maxRecDepth 20000 in
theorem gc_ends_14 : GoodIn wsL_law wsL_ends_r14 := goodIn_r _ [403, 404, 405, 406, 407, 408, 409, 708, 709, 710, 711, 712, 713, 714, 360, 262, 263, 264, 410, 411, 412, 413, 669, 670] (by decide +kernel) (by decide +kernel)
set_option maxRecDepth 20000 in
theorem gc_ends_15 : GoodIn wsL_law wsL_ends_r15 := goodIn_r _ [671, 672, 673, 674, 675, 303, 684, 685, 686, 687, 688, 689, 690, 344, 345, 346, 17, 347, 50, 333, 334, 335, 336, 337] (by decide +kernel) (by decide +kernel)
set_option maxRecDepth 20000 in
theorem gc_ends_16 : GoodIn wsL_law wsL_ends_r16 := goodIn_r _ [338, 339, 348, 349, 350, 351, 352, 353, 354, 355, 356, 357, 358, 361, 414, 415, 416, 417, 119, 118, 418, 419, 420, 421] (by decide +kernel) (by decide +kernel)
set_option maxRecDepth 20000 in
theorem gc_ends_17 : GoodIn wsL_law wsL_ends_r17 := goodIn_r _ [422, 423, 424, 425, 426, 427, 428, 429, 430, 432, 536, 537, 538, 539, 540, 541, 542, 240, 241, 242, 543, 544, 545, 546] (by decide +kernel) (by decide +kernel)
set_option maxRecDepth 20000 in
theorem gc_ends_18 : GoodIn wsL_law wsL_ends_r18 := goodIn_r _ [547, 548, 549, 532, 533, 534, 535, 627, 628, 629, 630, 631, 632, 633, 634, 635, 636, 531, 637, 638, 639, 640, 620, 621] (by decide +kernel) (by decide +kernel)
set_option maxRecDepth 20000 in
theorem gc_ends_19 : GoodIn wsL_law wsL_ends_r19 := goodIn_r _ [622, 623, 624, 625, 626, 691, 692, 693, 694, 695, 696, 697, 698, 148, 150, 699] (by decide +kernel) (by decide +kernel)
