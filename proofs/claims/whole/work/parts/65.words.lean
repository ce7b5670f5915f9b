theorem in_pl {big : List Cond} (ws : List Cond) (ps : List Nat) (hp : ws = ps.filterMap (fun i => big[i]?)) : ∀ w ∈ ws, w ∈ big := by
  intro w hw
  rw [hp] at hw
  obtain ⟨i, -, hi⟩ := List.mem_filterMap.mp hw
  exact List.mem_of_getElem? hi
set_option maxRecDepth 20000 in
theorem in_lr1 : ∀ w ∈ wsL_law0_r1, w ∈ lw_tbl := in_pl _ [78, 79, 52, 1011, 1012, 59, 643, 80, 81, 82, 83, 84, 85, 86, 87, 55, 172, 173, 112, 113, 56, 174, 175, 147] (by decide +kernel)
set_option maxRecDepth 20000 in
theorem in_lr2 : ∀ w ∈ wsL_law0_r2, w ∈ lw_tbl := in_pl _ [176, 127, 128, 57, 177, 148, 149, 58, 178, 126, 179, 180, 88, 89, 90, 98, 100, 91, 92, 54, 93, 102, 94, 95] (by decide +kernel)
set_option maxRecDepth 20000 in
theorem in_lr3 : ∀ w ∈ wsL_law0_r3, w ∈ lw_tbl := in_pl _ [53, 96, 97, 115, 116, 117, 118, 119, 130, 131, 132, 133, 134, 135, 136, 151, 152, 153, 154, 155, 156, 157, 159, 1013] (by decide +kernel)
set_option maxRecDepth 20000 in
theorem in_lr4 : ∀ w ∈ wsL_law0_r4, w ∈ lw_tbl := in_pl _ [1014, 1015, 1016, 1020, 1021, 1022, 1023, 1024, 1025, 1026, 1027, 1028, 1029, 1030, 1031, 1032, 1033, 1034, 1035, 1036, 1037, 1038, 1039, 1041] (by decide +kernel)
set_option maxRecDepth 20000 in
theorem in_lr5 : ∀ w ∈ wsL_law0_r5, w ∈ lw_tbl := in_pl _ [1043, 1044, 1045, 1046, 1047, 1048, 1049, 1050, 1051, 1052, 1053, 1054, 1055, 1017, 1056, 1057, 1061, 1062, 1063, 1064, 1065, 1066, 1067, 1068] (by decide +kernel)
set_option maxRecDepth 20000 in
theorem in_lr6 : ∀ w ∈ wsL_law0_r6, w ∈ lw_tbl := in_pl _ [1070, 1071, 212, 213, 51, 214, 215, 216, 217, 218, 219, 220, 292, 64, 308, 309, 65, 221, 222, 223, 224, 63, 204, 205] (by decide +kernel)
set_option maxRecDepth 20000 in
theorem in_lr7 : ∀ w ∈ wsL_law0_r7, w ∈ lw_tbl := in_pl _ [206, 207, 101, 310, 311, 312, 313, 314, 336, 316, 317, 66, 339, 341, 343, 345, 347, 331, 334, 315, 319, 320, 321, 324] (by decide +kernel)
set_option maxRecDepth 20000 in
theorem in_lr8 : ∀ w ∈ wsL_law0_r8, w ∈ lw_tbl := in_pl _ [322, 325, 366, 367, 368, 369, 103, 104, 370, 372, 1, 373, 374, 376, 2, 377, 378, 380, 3, 381, 426, 386, 68, 387] (by decide +kernel)
set_option maxRecDepth 20000 in
theorem in_lr9 : ∀ w ∈ wsL_law0_r9, w ∈ lw_tbl := in_pl _ [427, 382, 383, 67, 384, 385, 388, 389, 390, 391, 392, 393, 69, 394, 395, 1469, 396, 413, 414, 415, 416, 417, 419, 420] (by decide +kernel)
set_option maxRecDepth 20000 in
theorem in_lr10 : ∀ w ∈ wsL_law0_r10, w ∈ lw_tbl := in_pl _ [421, 422, 423, 425, 424, 70, 1188, 1189, 1190, 1191, 1019, 1192, 1193, 1194, 1195, 1197, 19, 1198, 1018, 1184, 1185, 1186, 1187, 428] (by decide +kernel)
set_option maxRecDepth 20000 in
theorem in_lr11 : ∀ w ∈ wsL_law0_r11, w ∈ lw_tbl := in_pl _ [429, 430, 431, 432, 433, 434, 435, 337, 475, 476, 74, 436, 438, 4, 439, 440, 71, 308, 456, 457, 458, 459, 460, 461] (by decide +kernel)
set_option maxRecDepth 20000 in
theorem in_lr12 : ∀ w ∈ wsL_law0_r12, w ∈ lw_tbl := in_pl _ [72, 462, 463, 464, 73, 465, 466, 467, 468, 469, 470, 471, 472, 342, 477, 478, 479, 480, 486, 488, 481, 482, 483, 484] (by decide +kernel)
set_option maxRecDepth 20000 in
theorem in_lr13 : ∀ w ∈ wsL_law0_r13, w ∈ lw_tbl := in_pl _ [485, 1199, 1200, 1201, 1202, 1203, 1205, 20, 1206, 1207, 1209, 21, 1210, 506, 507, 508, 509, 510, 511, 512, 340, 513, 514, 515] (by decide +kernel)
set_option maxRecDepth 20000 in
theorem in_lr14 : ∀ w ∈ wsL_law0_r14, w ∈ lw_tbl := in_pl _ [475, 517, 518, 519, 520, 521, 522, 523, 524, 1211, 1212, 1213, 1214, 1215, 1217, 22, 1218, 525, 526, 527, 528, 529, 530, 531] (by decide +kernel)
set_option maxRecDepth 20000 in
theorem in_lr15 : ∀ w ∈ wsL_law0_r15, w ∈ lw_tbl := in_pl _ [536, 541, 542, 75, 532, 533, 534, 537, 538, 539, 540, 543, 544, 545, 546, 547, 549, 551, 553, 555, 568, 569, 570, 571] (by decide +kernel)
set_option maxRecDepth 20000 in
theorem in_lr16 : ∀ w ∈ wsL_law0_r16, w ∈ lw_tbl := in_pl _ [1219, 1220, 1221, 1222, 200, 201, 202, 203, 1223, 1224, 1225, 1226, 1227, 1229, 23, 1230, 572, 573, 574, 575, 576, 577, 578, 490] (by decide +kernel)
set_option maxRecDepth 20000 in
theorem in_lr17 : ∀ w ∈ wsL_law0_r17, w ∈ lw_tbl := in_pl _ [1231, 1232, 1233, 1234, 1040, 581, 582, 583, 584, 585, 586, 587, 1235, 1236, 1237, 1238, 1239, 1241, 24, 1242, 588, 589, 590, 591] (by decide +kernel)
set_option maxRecDepth 20000 in
theorem in_lr18 : ∀ w ∈ wsL_law0_r18, w ∈ lw_tbl := in_pl _ [592, 593, 594, 487, 1243, 1244, 1245, 1246, 595, 596, 597, 598, 599, 600, 601, 603, 604, 76, 344, 335, 346, 605, 606, 607] (by decide +kernel)
set_option maxRecDepth 20000 in
theorem in_lr19 : ∀ w ∈ wsL_law0_r19, w ∈ lw_tbl := in_pl _ [608, 609, 610, 611, 612, 613, 614, 615, 616, 617, 623, 625, 626, 628, 619, 621, 1247, 1248, 1249, 1250, 1042, 644, 645, 646] (by decide +kernel)
set_option maxRecDepth 20000 in
theorem in_lr20 : ∀ w ∈ wsL_law0_r20, w ∈ lw_tbl := in_pl _ [647, 648, 649, 650, 603, 624, 137, 652, 653, 77, 629, 654, 655, 656, 657, 659, 658, 660, 661, 671, 672, 673, 674, 675] (by decide +kernel)
set_option maxRecDepth 20000 in
theorem in_lr21 : ∀ w ∈ wsL_law0_r21, w ∈ lw_tbl := in_pl _ [676, 677, 678, 679, 680, 681, 682, 683, 684, 685, 686, 338, 700, 687, 688, 689, 690, 693, 691, 692, 694, 695, 696, 697] (by decide +kernel)
set_option maxRecDepth 20000 in
theorem in_lr22 : ∀ w ∈ wsL_law0_r22, w ∈ lw_tbl := in_pl _ [698, 699, 701, 702, 703, 704, 709, 710, 711, 712, 705, 706, 707, 708, 713, 714, 715, 716, 717, 718, 719, 720, 721, 722] (by decide +kernel)
set_option maxRecDepth 20000 in
theorem in_lr23 : ∀ w ∈ wsL_law0_r23, w ∈ lw_tbl := in_pl _ [723, 724, 725, 726, 727, 728, 554, 550, 552, 556, 729, 730, 731, 733, 5, 734, 548, 735, 737, 6, 738, 739, 740, 741] (by decide +kernel)
set_option maxRecDepth 20000 in
theorem in_lr24 : ∀ w ∈ wsL_law0_r24, w ∈ lw_tbl := in_pl _ [742, 743, 744, 745, 1251, 1252, 1253, 1254, 1059, 1255, 1257, 25, 1258, 1058, 1060, 1259, 1261, 26, 1262, 1263, 1265, 27, 1266, 1267] (by decide +kernel)
set_option maxRecDepth 20000 in
theorem in_lr25 : ∀ w ∈ wsL_law0_r25, w ∈ lw_tbl := in_pl _ [1269, 28, 1270, 1271, 1273, 29, 1274, 1275, 1277, 30, 1278, 1279, 1281, 31, 1282, 1283, 1285, 32, 1286, 746, 747, 748, 749, 750] (by decide +kernel)
set_option maxRecDepth 20000 in
theorem in_lr26 : ∀ w ∈ wsL_law0_r26, w ∈ lw_tbl := in_pl _ [751, 752, 1287, 1288, 1289, 1290, 1291, 1293, 33, 1294, 208, 209, 210, 211, 1295, 1296, 1297, 1298, 753, 754, 755, 756, 757, 758] (by decide +kernel)
set_option maxRecDepth 20000 in
theorem in_lr27 : ∀ w ∈ wsL_law0_r27, w ∈ lw_tbl := in_pl _ [759, 760, 762, 7, 763, 1299, 1300, 1301, 1302, 1303, 1305, 34, 1306, 1307, 1309, 35, 1310, 765, 766, 767, 768, 769, 770, 771] (by decide +kernel)
set_option maxRecDepth 20000 in
theorem in_lr28 : ∀ w ∈ wsL_law0_r28, w ∈ lw_tbl := in_pl _ [772, 773, 774, 775, 1311, 1312, 1313, 1314, 776, 777, 778, 779, 780, 781, 782, 1315, 1316, 1317, 1318, 783, 784, 785, 786, 787] (by decide +kernel)
set_option maxRecDepth 20000 in
theorem in_lr29 : ∀ w ∈ wsL_law0_r29, w ∈ lw_tbl := in_pl _ [788, 789, 790, 792, 8, 793, 627, 622, 794, 795, 796, 797, 798, 799, 800, 801, 802, 803, 804, 805, 806, 808, 9, 809] (by decide +kernel)
set_option maxRecDepth 20000 in
theorem in_lr30 : ∀ w ∈ wsL_law0_r30, w ∈ lw_tbl := in_pl _ [810, 811, 812, 813, 814, 1319, 1320, 1321, 1322, 1323, 1325, 36, 1326, 1339, 1327, 1329, 37, 1330, 1331, 1333, 38, 1334, 1335, 1337] (by decide +kernel)
set_option maxRecDepth 20000 in
theorem in_lr31 : ∀ w ∈ wsL_law0_r31, w ∈ lw_tbl := in_pl _ [39, 1338, 815, 816, 817, 818, 819, 820, 821, 1340, 1341, 1342, 1343, 822, 823, 824, 825, 826, 827, 828, 1344, 1345, 1346, 1347] (by decide +kernel)
set_option maxRecDepth 20000 in
theorem in_lr32 : ∀ w ∈ wsL_law0_r32, w ∈ lw_tbl := in_pl _ [1348, 1350, 40, 1351, 829, 830, 831, 832, 833, 834, 835, 1352, 1353, 1354, 1355, 836, 837, 838, 839, 840, 841, 842, 843, 844] (by decide +kernel)
set_option maxRecDepth 20000 in
theorem in_lr33 : ∀ w ∈ wsL_law0_r33, w ∈ lw_tbl := in_pl _ [845, 846, 847, 1356, 1357, 1358, 1359, 1360, 1362, 41, 1363, 848, 849, 850, 851, 852, 853, 854, 855, 857, 10, 858, 620, 859] (by decide +kernel)
set_option maxRecDepth 20000 in
theorem in_lr34 : ∀ w ∈ wsL_law0_r34, w ∈ lw_tbl := in_pl _ [861, 11, 862, 1364, 1365, 1366, 1367, 1368, 1370, 42, 1371, 863, 864, 865, 866, 867, 868, 869, 1372, 1373, 1374, 1375, 871, 872] (by decide +kernel)
set_option maxRecDepth 20000 in
theorem in_lr35 : ∀ w ∈ wsL_law0_r35, w ∈ lw_tbl := in_pl _ [873, 874, 875, 876, 877, 1376, 1377, 1378, 1379, 878, 879, 880, 881, 882, 883, 884, 348, 1380, 1381, 1382, 1383, 885, 886, 887] (by decide +kernel)
set_option maxRecDepth 20000 in
theorem in_lr36 : ∀ w ∈ wsL_law0_r36, w ∈ lw_tbl := in_pl _ [888, 889, 890, 891, 892, 894, 12, 895, 897, 898, 899, 900, 902, 903, 904, 905, 1384, 1385, 1386, 1387, 1388, 1389, 1390, 906] (by decide +kernel)
set_option maxRecDepth 20000 in
theorem in_lr37 : ∀ w ∈ wsL_law0_r37, w ∈ lw_tbl := in_pl _ [907, 908, 909, 910, 911, 912, 1391, 1392, 1393, 1394, 913, 914, 915, 916, 917, 918, 919, 925, 920, 921, 922, 923, 489, 924] (by decide +kernel)
set_option maxRecDepth 20000 in
theorem in_lr38 : ∀ w ∈ wsL_law0_r38, w ∈ lw_tbl := in_pl _ [1395, 1396, 1397, 1398, 1399, 1401, 43, 1402, 1403, 1405, 44, 1406, 926, 927, 928, 929, 930, 931, 932, 120, 160, 933, 934, 935] (by decide +kernel)
set_option maxRecDepth 20000 in
theorem in_lr39 : ∀ w ∈ wsL_law0_r39, w ∈ lw_tbl := in_pl _ [936, 937, 939, 13, 940, 943, 332, 941, 942, 944, 945, 946, 947, 948, 949, 951, 14, 952, 953, 954, 956, 15, 957, 958] (by decide +kernel)
set_option maxRecDepth 20000 in
theorem in_lr40 : ∀ w ∈ wsL_law0_r40, w ∈ lw_tbl := in_pl _ [960, 16, 961, 962, 963, 965, 17, 966, 1407, 1408, 1409, 1410, 1072, 1411, 1413, 45, 1414, 1069, 1415, 1417, 46, 1418, 1419, 1421] (by decide +kernel)
set_option maxRecDepth 20000 in
theorem in_lr41 : ∀ w ∈ wsL_law0_r41, w ∈ lw_tbl := in_pl _ [47, 1422, 1423, 1424, 1425, 1426, 1428, 48, 1429, 1430, 1432, 49, 1433, 967, 968, 969, 970, 971, 972, 973, 158, 974, 975, 976] (by decide +kernel)
set_option maxRecDepth 20000 in
theorem in_lr42 : ∀ w ∈ wsL_law0_r42, w ∈ lw_tbl := in_pl _ [977, 1434, 1435, 1436, 1437, 978, 979, 980, 981, 982, 983, 984, 333, 986, 987, 988, 989, 990, 992, 18, 993, 994, 995, 996] (by decide +kernel)
set_option maxRecDepth 20000 in
theorem in_lr43 : ∀ w ∈ wsL_law0_r43, w ∈ lw_tbl := in_pl _ [997, 998, 999, 1000, 1001, 1002, 1003, 1438, 1439, 1440, 1441, 1442, 1444, 50, 1445, 1004, 1005, 1006, 1007, 1008, 1009, 1010, 1446, 1447] (by decide +kernel)
set_option maxRecDepth 20000 in
theorem in_lr44 : ∀ w ∈ wsL_law0_r44, w ∈ lw_tbl := in_pl _ [1448, 1449] (by decide +kernel)
