theorem in_pl {big : List Cond} (ws : List Cond) (ps : List Nat) (hp : ws = ps.filterMap (fun i => big[i]?)) : ∀ w ∈ ws, w ∈ big := by
  intro w hw
  rw [hp] at hw
  obtain ⟨i, -, hi⟩ := List.mem_filterMap.mp hw
  exact List.mem_of_getElem? hi
set_option maxRecDepth 20000 in
theorem in_lr1 : ∀ w ∈ wsL_law0_r1, w ∈ lw_tbl := in_pl _ [78, 79, 52, 1014, 1015, 59, 646, 80, 81, 82, 83, 84, 85, 86, 87, 55, 172, 173, 112, 113, 56, 174, 175, 147] (by decide +kernel)
set_option maxRecDepth 20000 in
theorem in_lr2 : ∀ w ∈ wsL_law0_r2, w ∈ lw_tbl := in_pl _ [176, 127, 128, 57, 177, 148, 149, 58, 178, 126, 179, 180, 88, 89, 90, 98, 100, 91, 92, 54, 93, 102, 94, 95] (by decide +kernel)
set_option maxRecDepth 20000 in
theorem in_lr3 : ∀ w ∈ wsL_law0_r3, w ∈ lw_tbl := in_pl _ [53, 96, 97, 115, 116, 117, 118, 119, 130, 131, 132, 133, 134, 135, 136, 151, 152, 153, 154, 155, 156, 157, 159, 1016] (by decide +kernel)
set_option maxRecDepth 20000 in
theorem in_lr4 : ∀ w ∈ wsL_law0_r4, w ∈ lw_tbl := in_pl _ [1017, 1018, 1019, 1023, 1024, 1025, 1026, 1027, 1028, 1029, 1030, 1031, 1032, 1033, 1034, 1035, 1036, 1037, 1038, 1039, 1040, 1041, 1042, 1044] (by decide +kernel)
set_option maxRecDepth 20000 in
theorem in_lr5 : ∀ w ∈ wsL_law0_r5, w ∈ lw_tbl := in_pl _ [1046, 1047, 1048, 1049, 1050, 1051, 1052, 1053, 1054, 1055, 1056, 1057, 1058, 1020, 1059, 1060, 1064, 1065, 1066, 1067, 1068, 1069, 1070, 1071] (by decide +kernel)
set_option maxRecDepth 20000 in
theorem in_lr6 : ∀ w ∈ wsL_law0_r6, w ∈ lw_tbl := in_pl _ [1073, 1074, 212, 213, 51, 214, 215, 216, 217, 218, 219, 220, 292, 64, 308, 309, 65, 221, 222, 223, 224, 63, 204, 205] (by decide +kernel)
set_option maxRecDepth 20000 in
theorem in_lr7 : ∀ w ∈ wsL_law0_r7, w ∈ lw_tbl := in_pl _ [206, 207, 101, 310, 311, 312, 313, 314, 336, 316, 317, 66, 339, 341, 343, 345, 347, 331, 334, 315, 319, 320, 321, 324] (by decide +kernel)
set_option maxRecDepth 20000 in
theorem in_lr8 : ∀ w ∈ wsL_law0_r8, w ∈ lw_tbl := in_pl _ [322, 325, 366, 367, 368, 369, 103, 104, 370, 372, 1, 373, 374, 376, 2, 377, 378, 380, 3, 381, 426, 386, 68, 387] (by decide +kernel)
set_option maxRecDepth 20000 in
theorem in_lr9 : ∀ w ∈ wsL_law0_r9, w ∈ lw_tbl := in_pl _ [427, 382, 383, 67, 384, 385, 388, 389, 390, 391, 392, 393, 69, 394, 395, 1472, 396, 413, 414, 415, 416, 417, 419, 420] (by decide +kernel)
set_option maxRecDepth 20000 in
theorem in_lr10 : ∀ w ∈ wsL_law0_r10, w ∈ lw_tbl := in_pl _ [421, 422, 423, 425, 424, 70, 1191, 1192, 1193, 1194, 1022, 1195, 1196, 1197, 1198, 1200, 19, 1201, 1021, 1187, 1188, 1189, 1190, 428] (by decide +kernel)
set_option maxRecDepth 20000 in
theorem in_lr11 : ∀ w ∈ wsL_law0_r11, w ∈ lw_tbl := in_pl _ [429, 430, 431, 432, 433, 434, 435, 337, 475, 476, 74, 436, 438, 4, 439, 440, 71, 308, 456, 457, 458, 459, 460, 461] (by decide +kernel)
set_option maxRecDepth 20000 in
theorem in_lr12 : ∀ w ∈ wsL_law0_r12, w ∈ lw_tbl := in_pl _ [72, 462, 463, 464, 73, 465, 466, 467, 468, 469, 470, 471, 472, 342, 477, 478, 479, 480, 486, 488, 481, 482, 483, 484] (by decide +kernel)
set_option maxRecDepth 20000 in
theorem in_lr13 : ∀ w ∈ wsL_law0_r13, w ∈ lw_tbl := in_pl _ [485, 1202, 1203, 1204, 1205, 1206, 1208, 20, 1209, 1210, 1212, 21, 1213, 506, 507, 508, 509, 510, 511, 512, 340, 513, 514, 515] (by decide +kernel)
set_option maxRecDepth 20000 in
theorem in_lr14 : ∀ w ∈ wsL_law0_r14, w ∈ lw_tbl := in_pl _ [475, 517, 518, 519, 520, 521, 522, 523, 524, 1214, 1215, 1216, 1217, 1218, 1220, 22, 1221, 525, 526, 527, 528, 529, 530, 531] (by decide +kernel)
set_option maxRecDepth 20000 in
theorem in_lr15 : ∀ w ∈ wsL_law0_r15, w ∈ lw_tbl := in_pl _ [544, 545, 75, 532, 533, 534, 536, 537, 538, 540, 541, 542, 543, 546, 547, 548, 549, 550, 552, 554, 556, 558, 571, 572] (by decide +kernel)
set_option maxRecDepth 20000 in
theorem in_lr16 : ∀ w ∈ wsL_law0_r16, w ∈ lw_tbl := in_pl _ [573, 574, 1222, 1223, 1224, 1225, 200, 201, 202, 203, 1226, 1227, 1228, 1229, 1230, 1232, 23, 1233, 575, 576, 577, 578, 579, 580] (by decide +kernel)
set_option maxRecDepth 20000 in
theorem in_lr17 : ∀ w ∈ wsL_law0_r17, w ∈ lw_tbl := in_pl _ [581, 490, 1234, 1235, 1236, 1237, 1043, 584, 585, 586, 587, 588, 589, 590, 1238, 1239, 1240, 1241, 1242, 1244, 24, 1245, 591, 592] (by decide +kernel)
set_option maxRecDepth 20000 in
theorem in_lr18 : ∀ w ∈ wsL_law0_r18, w ∈ lw_tbl := in_pl _ [593, 594, 595, 596, 597, 487, 1246, 1247, 1248, 1249, 598, 599, 600, 601, 602, 603, 604, 606, 607, 76, 344, 335, 346, 608] (by decide +kernel)
set_option maxRecDepth 20000 in
theorem in_lr19 : ∀ w ∈ wsL_law0_r19, w ∈ lw_tbl := in_pl _ [609, 610, 611, 612, 613, 614, 615, 616, 617, 618, 619, 620, 626, 628, 629, 631, 622, 624, 1250, 1251, 1252, 1253, 1045, 647] (by decide +kernel)
set_option maxRecDepth 20000 in
theorem in_lr20 : ∀ w ∈ wsL_law0_r20, w ∈ lw_tbl := in_pl _ [648, 649, 650, 651, 652, 653, 606, 627, 137, 655, 656, 77, 632, 657, 658, 659, 660, 662, 661, 663, 664, 674, 675, 676] (by decide +kernel)
set_option maxRecDepth 20000 in
theorem in_lr21 : ∀ w ∈ wsL_law0_r21, w ∈ lw_tbl := in_pl _ [677, 678, 679, 680, 681, 682, 683, 684, 685, 686, 687, 688, 689, 338, 703, 690, 691, 692, 693, 696, 694, 695, 697, 698] (by decide +kernel)
set_option maxRecDepth 20000 in
theorem in_lr22 : ∀ w ∈ wsL_law0_r22, w ∈ lw_tbl := in_pl _ [699, 700, 701, 702, 704, 705, 706, 707, 712, 713, 714, 715, 708, 709, 710, 711, 716, 717, 718, 719, 720, 721, 722, 723] (by decide +kernel)
set_option maxRecDepth 20000 in
theorem in_lr23 : ∀ w ∈ wsL_law0_r23, w ∈ lw_tbl := in_pl _ [724, 725, 726, 727, 728, 729, 730, 731, 557, 553, 555, 559, 732, 733, 734, 736, 5, 737, 551, 738, 740, 6, 741, 742] (by decide +kernel)
set_option maxRecDepth 20000 in
theorem in_lr24 : ∀ w ∈ wsL_law0_r24, w ∈ lw_tbl := in_pl _ [743, 744, 745, 746, 747, 748, 1254, 1255, 1256, 1257, 1062, 1258, 1260, 25, 1261, 1061, 1063, 1262, 1264, 26, 1265, 1266, 1268, 27] (by decide +kernel)
set_option maxRecDepth 20000 in
theorem in_lr25 : ∀ w ∈ wsL_law0_r25, w ∈ lw_tbl := in_pl _ [1269, 1270, 1272, 28, 1273, 1274, 1276, 29, 1277, 1278, 1280, 30, 1281, 1282, 1284, 31, 1285, 1286, 1288, 32, 1289, 749, 750, 751] (by decide +kernel)
set_option maxRecDepth 20000 in
theorem in_lr26 : ∀ w ∈ wsL_law0_r26, w ∈ lw_tbl := in_pl _ [752, 753, 754, 755, 1290, 1291, 1292, 1293, 1294, 1296, 33, 1297, 208, 209, 210, 211, 1298, 1299, 1300, 1301, 756, 757, 758, 759] (by decide +kernel)
set_option maxRecDepth 20000 in
theorem in_lr27 : ∀ w ∈ wsL_law0_r27, w ∈ lw_tbl := in_pl _ [760, 761, 762, 763, 765, 7, 766, 1302, 1303, 1304, 1305, 1306, 1308, 34, 1309, 1310, 1312, 35, 1313, 768, 769, 770, 771, 772] (by decide +kernel)
set_option maxRecDepth 20000 in
theorem in_lr28 : ∀ w ∈ wsL_law0_r28, w ∈ lw_tbl := in_pl _ [773, 774, 775, 776, 777, 778, 1314, 1315, 1316, 1317, 779, 780, 781, 782, 783, 784, 785, 1318, 1319, 1320, 1321, 786, 787, 788] (by decide +kernel)
set_option maxRecDepth 20000 in
theorem in_lr29 : ∀ w ∈ wsL_law0_r29, w ∈ lw_tbl := in_pl _ [789, 790, 791, 792, 793, 795, 8, 796, 630, 625, 797, 798, 799, 800, 801, 802, 803, 804, 805, 806, 807, 808, 809, 811] (by decide +kernel)
set_option maxRecDepth 20000 in
theorem in_lr30 : ∀ w ∈ wsL_law0_r30, w ∈ lw_tbl := in_pl _ [9, 812, 813, 814, 815, 816, 817, 1322, 1323, 1324, 1325, 1326, 1328, 36, 1329, 1342, 1330, 1332, 37, 1333, 1334, 1336, 38, 1337] (by decide +kernel)
set_option maxRecDepth 20000 in
theorem in_lr31 : ∀ w ∈ wsL_law0_r31, w ∈ lw_tbl := in_pl _ [1338, 1340, 39, 1341, 818, 819, 820, 821, 822, 823, 824, 1343, 1344, 1345, 1346, 825, 826, 827, 828, 829, 830, 831, 1347, 1348] (by decide +kernel)
set_option maxRecDepth 20000 in
theorem in_lr32 : ∀ w ∈ wsL_law0_r32, w ∈ lw_tbl := in_pl _ [1349, 1350, 1351, 1353, 40, 1354, 832, 833, 834, 835, 836, 837, 838, 1355, 1356, 1357, 1358, 839, 840, 841, 842, 843, 844, 845] (by decide +kernel)
set_option maxRecDepth 20000 in
theorem in_lr33 : ∀ w ∈ wsL_law0_r33, w ∈ lw_tbl := in_pl _ [846, 847, 848, 849, 850, 1359, 1360, 1361, 1362, 1363, 1365, 41, 1366, 851, 852, 853, 854, 855, 856, 857, 858, 860, 10, 861] (by decide +kernel)
set_option maxRecDepth 20000 in
theorem in_lr34 : ∀ w ∈ wsL_law0_r34, w ∈ lw_tbl := in_pl _ [623, 862, 864, 11, 865, 1367, 1368, 1369, 1370, 1371, 1373, 42, 1374, 866, 867, 868, 869, 870, 871, 872, 1375, 1376, 1377, 1378] (by decide +kernel)
set_option maxRecDepth 20000 in
theorem in_lr35 : ∀ w ∈ wsL_law0_r35, w ∈ lw_tbl := in_pl _ [874, 875, 876, 877, 878, 879, 880, 1379, 1380, 1381, 1382, 881, 882, 883, 884, 885, 886, 887, 348, 1383, 1384, 1385, 1386, 888] (by decide +kernel)
set_option maxRecDepth 20000 in
theorem in_lr36 : ∀ w ∈ wsL_law0_r36, w ∈ lw_tbl := in_pl _ [889, 890, 891, 892, 893, 894, 895, 897, 12, 898, 900, 901, 902, 903, 905, 906, 907, 908, 1387, 1388, 1389, 1390, 1391, 1392] (by decide +kernel)
set_option maxRecDepth 20000 in
theorem in_lr37 : ∀ w ∈ wsL_law0_r37, w ∈ lw_tbl := in_pl _ [1393, 909, 910, 911, 912, 913, 914, 915, 1394, 1395, 1396, 1397, 916, 917, 918, 919, 920, 921, 922, 928, 923, 924, 925, 926] (by decide +kernel)
set_option maxRecDepth 20000 in
theorem in_lr38 : ∀ w ∈ wsL_law0_r38, w ∈ lw_tbl := in_pl _ [489, 927, 1398, 1399, 1400, 1401, 1402, 1404, 43, 1405, 1406, 1408, 44, 1409, 929, 930, 931, 932, 933, 934, 935, 120, 160, 936] (by decide +kernel)
set_option maxRecDepth 20000 in
theorem in_lr39 : ∀ w ∈ wsL_law0_r39, w ∈ lw_tbl := in_pl _ [937, 938, 939, 940, 942, 13, 943, 946, 332, 944, 945, 947, 948, 949, 950, 951, 952, 954, 14, 955, 956, 957, 959, 15] (by decide +kernel)
set_option maxRecDepth 20000 in
theorem in_lr40 : ∀ w ∈ wsL_law0_r40, w ∈ lw_tbl := in_pl _ [960, 961, 963, 16, 964, 965, 966, 968, 17, 969, 1410, 1411, 1412, 1413, 1075, 1414, 1416, 45, 1417, 1072, 1418, 1420, 46, 1421] (by decide +kernel)
set_option maxRecDepth 20000 in
theorem in_lr41 : ∀ w ∈ wsL_law0_r41, w ∈ lw_tbl := in_pl _ [1422, 1424, 47, 1425, 1426, 1427, 1428, 1429, 1431, 48, 1432, 1433, 1435, 49, 1436, 970, 971, 972, 973, 974, 975, 976, 158, 977] (by decide +kernel)
set_option maxRecDepth 20000 in
theorem in_lr42 : ∀ w ∈ wsL_law0_r42, w ∈ lw_tbl := in_pl _ [978, 979, 980, 1437, 1438, 1439, 1440, 981, 982, 983, 984, 985, 986, 987, 333, 989, 990, 991, 992, 993, 995, 18, 996, 997] (by decide +kernel)
set_option maxRecDepth 20000 in
theorem in_lr43 : ∀ w ∈ wsL_law0_r43, w ∈ lw_tbl := in_pl _ [998, 999, 1000, 1001, 1002, 1003, 1004, 1005, 1006, 1441, 1442, 1443, 1444, 1445, 1447, 50, 1448, 1007, 1008, 1009, 1010, 1011, 1012, 1013] (by decide +kernel)
set_option maxRecDepth 20000 in
theorem in_lr44 : ∀ w ∈ wsL_law0_r44, w ∈ lw_tbl := in_pl _ [1449, 1450, 1451, 1452] (by decide +kernel)
