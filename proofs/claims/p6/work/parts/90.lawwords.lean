set_option maxRecDepth 20000 in
theorem wsL_law_r1_in : ∀ w ∈ wsL_law_r1, w ∈ lw_tbl := fun w h => (goodIn_r wsL_law_r1 [76, 77, 55, 1066, 1067, 68, 1481, 78, 79, 80, 81, 82, 83, 84, 85, 56, 389, 100, 101, 57, 390, 130, 131, 59] (by decide +kernel) (by decide +kernel) w h).1
set_option maxRecDepth 20000 in
theorem wsL_law_r2_in : ∀ w ∈ wsL_law_r2, w ∈ lw_tbl := fun w h => (goodIn_r wsL_law_r2 [391, 151, 152, 60, 392, 393, 394, 122, 395, 223, 224, 62, 396, 253, 254, 63, 397, 398, 275, 276, 64, 399, 400, 401] (by decide +kernel) (by decide +kernel) w h).1
set_option maxRecDepth 20000 in
theorem wsL_law_r3_in : ∀ w ∈ wsL_law_r3, w ∈ lw_tbl := fun w h => (goodIn_r wsL_law_r3 [350, 402, 308, 309, 65, 403, 405, 87, 88, 89, 99, 90, 102, 103, 104, 105, 124, 106, 107, 58, 123, 108, 109, 110] (by decide +kernel) (by decide +kernel) w h).1
set_option maxRecDepth 20000 in
theorem wsL_law_r4_in : ∀ w ∈ wsL_law_r4, w ∈ lw_tbl := fun w h => (goodIn_r wsL_law_r4 [111, 112, 132, 133, 134, 135, 139, 136, 138, 137, 153, 154, 155, 156, 172, 174, 176, 177, 193, 157, 158, 159, 160, 164] (by decide +kernel) (by decide +kernel) w h).1
set_option maxRecDepth 20000 in
theorem wsL_law_r5_in : ∀ w ∈ wsL_law_r5, w ∈ lw_tbl := fun w h => (goodIn_r wsL_law_r5 [169, 179, 181, 184, 186, 188, 190, 192, 161, 162, 61, 163, 226, 227, 228, 252, 229, 230, 256, 257, 258, 260, 261, 262] (by decide +kernel) (by decide +kernel) w h).1
set_option maxRecDepth 20000 in
theorem wsL_law_r6_in : ∀ w ∈ wsL_law_r6, w ∈ lw_tbl := fun w h => (goodIn_r wsL_law_r6 [263, 278, 279, 280, 311, 312, 313, 316, 317, 314, 320, 351, 352, 353, 354, 355, 357, 358, 66, 359, 360, 361, 362, 363] (by decide +kernel) (by decide +kernel) w h).1
set_option maxRecDepth 20000 in
theorem wsL_law_r7_in : ∀ w ∈ wsL_law_r7, w ∈ lw_tbl := fun w h => (goodIn_r wsL_law_r7 [364, 365, 366, 368, 369, 370, 371, 372, 387, 374, 375, 376, 377, 378, 379, 380, 381, 382, 383, 384, 385, 67, 386, 1068] (by decide +kernel) (by decide +kernel) w h).1
set_option maxRecDepth 20000 in
theorem wsL_law_r8_in : ∀ w ∈ wsL_law_r8, w ∈ lw_tbl := fun w h => (goodIn_r wsL_law_r8 [1069, 1070, 1071, 1089, 1090, 1091, 1100, 1101, 1103, 1104, 1105, 1106, 1107, 1108, 1109, 1110, 1113, 1114, 1116, 1117, 1072, 1074, 27, 1075] (by decide +kernel) (by decide +kernel) w h).1
set_option maxRecDepth 20000 in
theorem wsL_law_r9_in : ∀ w ∈ wsL_law_r9, w ∈ lw_tbl := fun w h => (goodIn_r wsL_law_r9 [1076, 1077, 1081, 1082, 1083, 1084, 1095, 1096, 1097, 1098, 1099, 1078, 1079, 1080, 1085, 1087, 28, 1088, 441, 442, 443, 444, 92, 445] (by decide +kernel) (by decide +kernel) w h).1
set_option maxRecDepth 20000 in
theorem wsL_law_r10_in : ∀ w ∈ wsL_law_r10, w ∈ lw_tbl := fun w h => (goodIn_r wsL_law_r10 [446, 447, 448, 91, 449, 450, 451, 452, 1189, 1190, 1191, 1192, 1193, 1092, 1194, 453, 454, 455, 456, 1195, 1196, 1197, 1198, 457] (by decide +kernel) (by decide +kernel) w h).1
set_option maxRecDepth 20000 in
theorem wsL_law_r11_in : ∀ w ∈ wsL_law_r11, w ∈ lw_tbl := fun w h => (goodIn_r wsL_law_r11 [458, 459, 460, 461, 462, 463, 464, 141, 465, 466, 467, 468, 113, 114, 469, 470, 471, 472, 473, 474, 475, 93, 476, 477] (by decide +kernel) (by decide +kernel) w h).1
set_option maxRecDepth 20000 in
theorem wsL_law_r12_in : ∀ w ∈ wsL_law_r12, w ∈ lw_tbl := fun w h => (goodIn_r wsL_law_r12 [478, 479, 480, 481, 482, 483, 484, 486, 0, 487, 488, 489, 490, 491, 492, 493, 494, 495, 496, 497, 498, 499, 500, 501] (by decide +kernel) (by decide +kernel) w h).1
set_option maxRecDepth 20000 in
theorem wsL_law_r13_in : ∀ w ∈ wsL_law_r13, w ∈ lw_tbl := fun w h => (goodIn_r wsL_law_r13 [503, 1, 504, 140, 505, 506, 507, 508, 509, 510, 511, 512, 513, 514, 515, 516, 517, 519, 2, 520, 165, 521, 522, 523] (by decide +kernel) (by decide +kernel) w h).1
set_option maxRecDepth 20000 in
theorem wsL_law_r14_in : ∀ w ∈ wsL_law_r14, w ∈ lw_tbl := fun w h => (goodIn_r wsL_law_r14 [524, 525, 526, 528, 3, 529, 531, 533, 4, 534, 535, 536, 537, 69, 538, 1482, 539, 540, 541, 542, 543, 1483, 545, 546] (by decide +kernel) (by decide +kernel) w h).1
set_option maxRecDepth 20000 in
theorem wsL_law_r15_in : ∀ w ∈ wsL_law_r15, w ∈ lw_tbl := fun w h => (goodIn_r wsL_law_r15 [547, 548, 549, 550, 551, 552, 553, 554, 70, 555, 556, 557, 558, 559, 561, 562, 71, 563, 564, 565, 72, 566, 567, 568] (by decide +kernel) (by decide +kernel) w h).1
set_option maxRecDepth 20000 in
theorem wsL_law_r16_in : ∀ w ∈ wsL_law_r16, w ∈ lw_tbl := fun w h => (goodIn_r wsL_law_r16 [569, 570, 571, 572, 573, 574, 575, 576, 577, 579, 581, 585, 586, 588, 5, 589, 590, 591, 592, 593, 594, 595, 596, 597] (by decide +kernel) (by decide +kernel) w h).1
set_option maxRecDepth 20000 in
theorem wsL_law_r17_in : ∀ w ∈ wsL_law_r17, w ∈ lw_tbl := fun w h => (goodIn_r wsL_law_r17 [598, 599, 600, 601, 602, 603, 604, 605, 606, 608, 6, 609, 610, 1199, 1200, 1201, 1202, 1203, 1205, 29, 1206, 1093, 1094, 1102] (by decide +kernel) (by decide +kernel) w h).1
set_option maxRecDepth 20000 in
theorem wsL_law_r18_in : ∀ w ∈ wsL_law_r18, w ∈ lw_tbl := fun w h => (goodIn_r wsL_law_r18 [1207, 1209, 30, 1210, 1211, 1212, 1214, 31, 1215, 1216, 1218, 32, 1219, 1220, 1222, 33, 1223, 1224, 1225, 1226, 611, 612, 613, 614] (by decide +kernel) (by decide +kernel) w h).1
set_option maxRecDepth 20000 in
theorem wsL_law_r19_in : ∀ w ∈ wsL_law_r19, w ∈ lw_tbl := fun w h => (goodIn_r wsL_law_r19 [404, 167, 615, 616, 617, 618, 619, 621, 620, 73, 622, 623, 624, 625, 626, 281, 284, 287, 290, 291, 293, 1227, 1228, 1229] (by decide +kernel) (by decide +kernel) w h).1
set_option maxRecDepth 20000 in
theorem wsL_law_r20_in : ∀ w ∈ wsL_law_r20, w ∈ lw_tbl := fun w h => (goodIn_r wsL_law_r20 [1230, 1111, 1112, 627, 628, 629, 630, 631, 633, 7, 634, 635, 636, 637, 638, 639, 640, 641, 642, 643, 644, 74, 645, 646] (by decide +kernel) (by decide +kernel) w h).1
set_option maxRecDepth 20000 in
theorem wsL_law_r21_in : ∀ w ∈ wsL_law_r21, w ∈ lw_tbl := fun w h => (goodIn_r wsL_law_r21 [647, 648, 1231, 1232, 1233, 1234, 1235, 1236, 1237, 1238, 649, 650, 651, 652, 653, 655, 8, 656, 1239, 1240, 1241, 1242, 657, 658] (by decide +kernel) (by decide +kernel) w h).1
set_option maxRecDepth 20000 in
theorem wsL_law_r22_in : ∀ w ∈ wsL_law_r22, w ∈ lw_tbl := fun w h => (goodIn_r wsL_law_r22 [659, 660, 173, 175, 661, 663, 9, 664, 1243, 1244, 1245, 1246, 1247, 1249, 34, 1250, 665, 666, 667, 668, 178, 669, 1251, 1252] (by decide +kernel) (by decide +kernel) w h).1
set_option maxRecDepth 20000 in
theorem wsL_law_r23_in : ∀ w ∈ wsL_law_r23, w ∈ lw_tbl := fun w h => (goodIn_r wsL_law_r23 [1253, 1254, 1255, 1257, 35, 1258, 670, 671, 672, 673, 171, 180, 183, 185, 187, 189, 191, 1259, 1260, 1261, 1262, 674, 675, 676] (by decide +kernel) (by decide +kernel) w h).1
set_option maxRecDepth 20000 in
theorem wsL_law_r24_in : ∀ w ∈ wsL_law_r24, w ∈ lw_tbl := fun w h => (goodIn_r wsL_law_r24 [677, 678, 680, 10, 681, 682, 684, 11, 685, 686, 688, 12, 689, 690, 691, 692, 693, 694, 695, 696, 697, 698, 699, 700] (by decide +kernel) (by decide +kernel) w h).1
set_option maxRecDepth 20000 in
theorem wsL_law_r25_in : ∀ w ∈ wsL_law_r25, w ∈ lw_tbl := fun w h => (goodIn_r wsL_law_r25 [701, 702, 703, 75, 704, 705, 706, 707, 708, 709, 710, 711, 712, 713, 714, 715, 716, 717, 718, 719, 720, 721, 722, 723] (by decide +kernel) (by decide +kernel) w h).1
set_option maxRecDepth 20000 in
theorem wsL_law_r26_in : ∀ w ∈ wsL_law_r26, w ∈ lw_tbl := fun w h => (goodIn_r wsL_law_r26 [724, 725, 726, 727, 728, 729, 730, 731, 732, 733, 734, 735, 736, 737, 1263, 1264, 1265, 1266, 1267, 1269, 36, 1270, 1271, 1272] (by decide +kernel) (by decide +kernel) w h).1
set_option maxRecDepth 20000 in
theorem wsL_law_r27_in : ∀ w ∈ wsL_law_r27, w ∈ lw_tbl := fun w h => (goodIn_r wsL_law_r27 [1273, 1274, 1275, 1277, 37, 1278, 1279, 1280, 1281, 738, 739, 740, 741, 742, 743, 744, 745, 746, 747, 748, 1282, 1283, 1284, 1285] (by decide +kernel) (by decide +kernel) w h).1
set_option maxRecDepth 20000 in
theorem wsL_law_r28_in : ∀ w ∈ wsL_law_r28, w ∈ lw_tbl := fun w h => (goodIn_r wsL_law_r28 [749, 750, 751, 752, 753, 754, 755, 756, 757, 758, 759, 760, 1286, 1287, 1288, 1289, 1290, 1292, 38, 1293, 1294, 1296, 39, 1297] (by decide +kernel) (by decide +kernel) w h).1
set_option maxRecDepth 20000 in
theorem wsL_law_r29_in : ∀ w ∈ wsL_law_r29, w ∈ lw_tbl := fun w h => (goodIn_r wsL_law_r29 [1298, 1300, 40, 1301, 761, 762, 763, 764, 767, 765, 766, 1302, 1303, 1304, 1305, 768, 769, 770, 771, 772, 782, 773, 774, 775] (by decide +kernel) (by decide +kernel) w h).1
set_option maxRecDepth 20000 in
theorem wsL_law_r30_in : ∀ w ∈ wsL_law_r30, w ∈ lw_tbl := fun w h => (goodIn_r wsL_law_r30 [776, 777, 778, 779, 780, 781, 783, 784, 785, 786, 1306, 1307, 1308, 1309, 1324, 1331, 1310, 1312, 41, 1313, 1314, 1316, 42, 1317] (by decide +kernel) (by decide +kernel) w h).1
set_option maxRecDepth 20000 in
theorem wsL_law_r31_in : ∀ w ∈ wsL_law_r31, w ∈ lw_tbl := fun w h => (goodIn_r wsL_law_r31 [1318, 1319, 1320, 1321, 1322, 1323, 1325, 1326, 1327, 1328, 1329, 1330, 787, 788, 789, 790, 791, 792, 793, 794, 1332, 1333, 1334, 1335] (by decide +kernel) (by decide +kernel) w h).1
set_option maxRecDepth 20000 in
theorem wsL_law_r32_in : ∀ w ∈ wsL_law_r32, w ∈ lw_tbl := fun w h => (goodIn_r wsL_law_r32 [1336, 1338, 43, 1339, 795, 796, 797, 798, 799, 234, 232, 800, 802, 13, 803, 804, 805, 806, 807, 231, 233, 808, 809, 810] (by decide +kernel) (by decide +kernel) w h).1
set_option maxRecDepth 20000 in
theorem wsL_law_r33_in : ∀ w ∈ wsL_law_r33, w ∈ lw_tbl := fun w h => (goodIn_r wsL_law_r33 [811, 812, 813, 814, 815, 235, 237, 816, 817, 818, 820, 14, 821, 824, 822, 823, 825, 826, 827, 828, 830, 829, 831, 832] (by decide +kernel) (by decide +kernel) w h).1
set_option maxRecDepth 20000 in
theorem wsL_law_r34_in : ∀ w ∈ wsL_law_r34, w ∈ lw_tbl := fun w h => (goodIn_r wsL_law_r34 [833, 834, 835, 836, 837, 838, 1340, 1341, 1342, 1343, 1344, 1345, 1347, 44, 1348, 1349, 1351, 45, 1352, 1353, 1354, 1355, 1356, 1358] (by decide +kernel) (by decide +kernel) w h).1
set_option maxRecDepth 20000 in
theorem wsL_law_r35_in : ∀ w ∈ wsL_law_r35, w ∈ lw_tbl := fun w h => (goodIn_r wsL_law_r35 [46, 1359, 839, 840, 841, 842, 236, 843, 845, 15, 846, 847, 849, 16, 850, 1360, 1361, 1362, 1363, 1364, 1366, 47, 1367, 1368] (by decide +kernel) (by decide +kernel) w h).1
set_option maxRecDepth 20000 in
theorem wsL_law_r36_in : ∀ w ∈ wsL_law_r36, w ∈ lw_tbl := fun w h => (goodIn_r wsL_law_r36 [1370, 48, 1371, 851, 852, 853, 854, 238, 1372, 1373, 1374, 1375, 855, 856, 857, 858, 859, 860, 861, 862, 863, 1376, 1377, 1378] (by decide +kernel) (by decide +kernel) w h).1
set_option maxRecDepth 20000 in
theorem wsL_law_r37_in : ∀ w ∈ wsL_law_r37, w ∈ lw_tbl := fun w h => (goodIn_r wsL_law_r37 [1379, 864, 865, 866, 867, 1380, 1381, 1382, 1383, 868, 869, 870, 871, 872, 874, 17, 875, 876, 877, 878, 879, 168, 259, 883] (by decide +kernel) (by decide +kernel) w h).1
set_option maxRecDepth 20000 in
theorem wsL_law_r38_in : ∀ w ∈ wsL_law_r38, w ∈ lw_tbl := fun w h => (goodIn_r wsL_law_r38 [880, 881, 882, 884, 885, 887, 18, 888, 170, 889, 890, 891, 893, 19, 894, 895, 896, 898, 20, 899, 900, 901, 903, 21] (by decide +kernel) (by decide +kernel) w h).1
set_option maxRecDepth 20000 in
theorem wsL_law_r39_in : ∀ w ∈ wsL_law_r39, w ∈ lw_tbl := fun w h => (goodIn_r wsL_law_r39 [904, 905, 906, 907, 908, 909, 910, 912, 913, 914, 915, 916, 917, 918, 919, 920, 921, 922, 923, 1384, 1385, 1386, 1387, 1388] (by decide +kernel) (by decide +kernel) w h).1
set_option maxRecDepth 20000 in
theorem wsL_law_r40_in : ∀ w ∈ wsL_law_r40, w ∈ lw_tbl := fun w h => (goodIn_r wsL_law_r40 [1390, 49, 1391, 1392, 1394, 50, 1395, 1396, 1398, 51, 1399, 924, 925, 926, 927, 928, 929, 930, 931, 1400, 1401, 1402, 1403, 932] (by decide +kernel) (by decide +kernel) w h).1
set_option maxRecDepth 20000 in
theorem wsL_law_r41_in : ∀ w ∈ wsL_law_r41, w ∈ lw_tbl := fun w h => (goodIn_r wsL_law_r41 [933, 934, 935, 936, 938, 22, 939, 940, 941, 1404, 1405, 1406, 1407, 1408, 1410, 52, 1411, 942, 943, 944, 945, 1412, 1413, 1414] (by decide +kernel) (by decide +kernel) w h).1
set_option maxRecDepth 20000 in
theorem wsL_law_r42_in : ∀ w ∈ wsL_law_r42, w ∈ lw_tbl := fun w h => (goodIn_r wsL_law_r42 [1415, 946, 947, 948, 949, 1416, 1417, 1418, 1419, 950, 951, 952, 953, 954, 955, 956, 957, 166, 958, 959, 960, 961, 962, 963] (by decide +kernel) (by decide +kernel) w h).1
set_option maxRecDepth 20000 in
theorem wsL_law_r43_in : ∀ w ∈ wsL_law_r43, w ∈ lw_tbl := fun w h => (goodIn_r wsL_law_r43 [964, 965, 1420, 1421, 1422, 1423, 966, 967, 968, 969, 286, 970, 971, 972, 973, 974, 975, 976, 977, 978, 979, 980, 981, 982] (by decide +kernel) (by decide +kernel) w h).1
set_option maxRecDepth 20000 in
theorem wsL_law_r44_in : ∀ w ∈ wsL_law_r44, w ∈ lw_tbl := fun w h => (goodIn_r wsL_law_r44 [983, 984, 1424, 1425, 1426, 1427, 1428, 1429, 1430, 1431, 1432, 1433, 1434, 985, 986, 987, 988, 283, 289, 292, 294, 1435, 1436, 1437] (by decide +kernel) (by decide +kernel) w h).1
set_option maxRecDepth 20000 in
theorem wsL_law_r45_in : ∀ w ∈ wsL_law_r45, w ∈ lw_tbl := fun w h => (goodIn_r wsL_law_r45 [1438, 989, 990, 991, 992, 993, 995, 23, 996, 997, 999, 24, 1000, 1001, 1002, 1003, 1004, 1439, 1440, 1441, 1442, 1005, 1006, 1007] (by decide +kernel) (by decide +kernel) w h).1
set_option maxRecDepth 20000 in
theorem wsL_law_r46_in : ∀ w ∈ wsL_law_r46, w ∈ lw_tbl := fun w h => (goodIn_r wsL_law_r46 [1008, 1443, 1444, 1445, 1446, 1009, 1010, 1011, 1012, 319, 1013, 1014, 1015, 1016, 318, 1447, 1448, 1449, 1450, 1451, 1115, 1017, 1018, 1019] (by decide +kernel) (by decide +kernel) w h).1
set_option maxRecDepth 20000 in
theorem wsL_law_r47_in : ∀ w ∈ wsL_law_r47, w ∈ lw_tbl := fun w h => (goodIn_r wsL_law_r47 [1020, 1452, 1453, 1454, 1455, 1021, 1022, 1023, 1024, 323, 1025, 1026, 1027, 1028, 322, 324, 326, 327, 329, 1029, 1030, 1032, 25, 1033] (by decide +kernel) (by decide +kernel) w h).1
set_option maxRecDepth 20000 in
theorem wsL_law_r48_in : ∀ w ∈ wsL_law_r48, w ∈ lw_tbl := fun w h => (goodIn_r wsL_law_r48 [282, 285, 1037, 288, 182, 1034, 1035, 1036, 1038, 1039, 1040, 1042, 26, 1043, 1044, 1456, 1457, 1458, 1459, 1460, 1462, 53, 1463, 1118] (by decide +kernel) (by decide +kernel) w h).1
set_option maxRecDepth 20000 in
theorem wsL_law_r49_in : ∀ w ∈ wsL_law_r49, w ∈ lw_tbl := fun w h => (goodIn_r wsL_law_r49 [1119, 1120, 1121, 1045, 1046, 1047, 1048, 321, 1464, 1465, 1466, 1467, 1049, 1050, 1051, 1052, 1053, 328, 330, 1468, 1469, 1470, 1471, 1472] (by decide +kernel) (by decide +kernel) w h).1
set_option maxRecDepth 20000 in
theorem wsL_law_r50_in : ∀ w ∈ wsL_law_r50, w ∈ lw_tbl := fun w h => (goodIn_r wsL_law_r50 [1054, 1055, 1056, 1057, 325, 1473, 1474, 1475, 1476, 1058, 1059, 1060, 1061, 1062, 1063, 1064, 1065, 1477, 1478, 1479, 1480] (by decide +kernel) (by decide +kernel) w h).1
set_option maxRecDepth 20000 in
theorem wsX110_in : ∀ w ∈ wsX110, w ∈ lw_tbl := fun w h => (goodIn_r wsX110 [406, 408, 410, 412, 414, 416, 418, 420, 422, 424, 426, 428, 430, 432, 434, 436, 438] (by decide +kernel) (by decide +kernel) w h).1
set_option maxRecDepth 20000 in
theorem wsX120_in : ∀ w ∈ wsX120, w ∈ lw_tbl := fun w h => (goodIn_r wsX120 [1122, 1124, 1126, 1128, 1130, 1132, 1134, 1136, 1138, 1140, 1142, 1144, 1146, 1148, 1150, 1152, 1154, 1156, 1158, 1160, 1162, 1164, 1166, 1168, 1170, 1172, 1174, 1176, 1178, 1180, 1182, 1184, 1186] (by decide +kernel) (by decide +kernel) w h).1
set_option maxRecDepth 20000 in
theorem wsX100_in : ∀ w ∈ wsX100, w ∈ lw_tbl := fun w h => (goodIn_r wsX100 [94, 96] (by decide +kernel) (by decide +kernel) w h).1
set_option maxRecDepth 20000 in
theorem wsX50_in : ∀ w ∈ wsX50, w ∈ lw_tbl := fun w h => (goodIn_r wsX50 [125, 127] (by decide +kernel) (by decide +kernel) w h).1
set_option maxRecDepth 20000 in
theorem wsX80_in : ∀ w ∈ wsX80, w ∈ lw_tbl := fun w h => (goodIn_r wsX80 [142, 144, 146, 148] (by decide +kernel) (by decide +kernel) w h).1
set_option maxRecDepth 20000 in
theorem wsX40_in : ∀ w ∈ wsX40, w ∈ lw_tbl := fun w h => (goodIn_r wsX40 [194, 196, 198, 200, 202, 204, 206, 208, 210, 212, 214, 216, 218, 220] (by decide +kernel) (by decide +kernel) w h).1
set_option maxRecDepth 20000 in
theorem wsX10_in : ∀ w ∈ wsX10, w ∈ lw_tbl := fun w h => (goodIn_r wsX10 [239, 241, 243, 245, 247, 249] (by decide +kernel) (by decide +kernel) w h).1
set_option maxRecDepth 20000 in
theorem wsX60_in : ∀ w ∈ wsX60, w ∈ lw_tbl := fun w h => (goodIn_r wsX60 [264, 266, 268, 270, 272] (by decide +kernel) (by decide +kernel) w h).1
set_option maxRecDepth 20000 in
theorem wsX90_in : ∀ w ∈ wsX90, w ∈ lw_tbl := fun w h => (goodIn_r wsX90 [295, 297, 299, 301, 303, 305] (by decide +kernel) (by decide +kernel) w h).1
set_option maxRecDepth 20000 in
theorem wsX70_in : ∀ w ∈ wsX70, w ∈ lw_tbl := fun w h => (goodIn_r wsX70 [331, 333, 335, 337, 339, 341, 343, 345, 347] (by decide +kernel) (by decide +kernel) w h).1
set_option maxRecDepth 20000 in
theorem wsX20_in : ∀ w ∈ wsX20, w ∈ lw_tbl := fun w h => (goodIn_r wsX20 [115, 117, 119] (by decide +kernel) (by decide +kernel) w h).1
theorem wsL_law_in : ∀ w ∈ wsL_law, w ∈ lw_tbl := (List.forall_mem_append.mpr ⟨(List.forall_mem_append.mpr ⟨(List.forall_mem_append.mpr ⟨(List.forall_mem_append.mpr ⟨(List.forall_mem_append.mpr ⟨(List.forall_mem_append.mpr ⟨(List.forall_mem_append.mpr ⟨(List.forall_mem_append.mpr ⟨(List.forall_mem_append.mpr ⟨(List.forall_mem_append.mpr ⟨(List.forall_mem_append.mpr ⟨(List.forall_mem_append.mpr ⟨(List.forall_mem_append.mpr ⟨wsL_law_r1_in, (List.forall_mem_append.mpr ⟨wsL_law_r2_in, (List.forall_mem_append.mpr ⟨wsL_law_r3_in, (List.forall_mem_append.mpr ⟨wsL_law_r4_in, (List.forall_mem_append.mpr ⟨wsL_law_r5_in, (List.forall_mem_append.mpr ⟨wsL_law_r6_in, (List.forall_mem_append.mpr ⟨wsL_law_r7_in, (List.forall_mem_append.mpr ⟨wsL_law_r8_in, (List.forall_mem_append.mpr ⟨wsL_law_r9_in, (List.forall_mem_append.mpr ⟨wsL_law_r10_in, (List.forall_mem_append.mpr ⟨wsL_law_r11_in, (List.forall_mem_append.mpr ⟨wsL_law_r12_in, (List.forall_mem_append.mpr ⟨wsL_law_r13_in, (List.forall_mem_append.mpr ⟨wsL_law_r14_in, (List.forall_mem_append.mpr ⟨wsL_law_r15_in, (List.forall_mem_append.mpr ⟨wsL_law_r16_in, (List.forall_mem_append.mpr ⟨wsL_law_r17_in, (List.forall_mem_append.mpr ⟨wsL_law_r18_in, (List.forall_mem_append.mpr ⟨wsL_law_r19_in, (List.forall_mem_append.mpr ⟨wsL_law_r20_in, (List.forall_mem_append.mpr ⟨wsL_law_r21_in, (List.forall_mem_append.mpr ⟨wsL_law_r22_in, (List.forall_mem_append.mpr ⟨wsL_law_r23_in, (List.forall_mem_append.mpr ⟨wsL_law_r24_in, (List.forall_mem_append.mpr ⟨wsL_law_r25_in, (List.forall_mem_append.mpr ⟨wsL_law_r26_in, (List.forall_mem_append.mpr ⟨wsL_law_r27_in, (List.forall_mem_append.mpr ⟨wsL_law_r28_in, (List.forall_mem_append.mpr ⟨wsL_law_r29_in, (List.forall_mem_append.mpr ⟨wsL_law_r30_in, (List.forall_mem_append.mpr ⟨wsL_law_r31_in, (List.forall_mem_append.mpr ⟨wsL_law_r32_in, (List.forall_mem_append.mpr ⟨wsL_law_r33_in, (List.forall_mem_append.mpr ⟨wsL_law_r34_in, (List.forall_mem_append.mpr ⟨wsL_law_r35_in, (List.forall_mem_append.mpr ⟨wsL_law_r36_in, (List.forall_mem_append.mpr ⟨wsL_law_r37_in, (List.forall_mem_append.mpr ⟨wsL_law_r38_in, (List.forall_mem_append.mpr ⟨wsL_law_r39_in, (List.forall_mem_append.mpr ⟨wsL_law_r40_in, (List.forall_mem_append.mpr ⟨wsL_law_r41_in, (List.forall_mem_append.mpr ⟨wsL_law_r42_in, (List.forall_mem_append.mpr ⟨wsL_law_r43_in, (List.forall_mem_append.mpr ⟨wsL_law_r44_in, (List.forall_mem_append.mpr ⟨wsL_law_r45_in, (List.forall_mem_append.mpr ⟨wsL_law_r46_in, (List.forall_mem_append.mpr ⟨wsL_law_r47_in, (List.forall_mem_append.mpr ⟨wsL_law_r48_in, (List.forall_mem_append.mpr ⟨wsL_law_r49_in, wsL_law_r50_in⟩)⟩)⟩)⟩)⟩)⟩)⟩)⟩)⟩)⟩)⟩)⟩)⟩)⟩)⟩)⟩)⟩)⟩)⟩)⟩)⟩)⟩)⟩)⟩)⟩)⟩)⟩)⟩)⟩)⟩)⟩)⟩)⟩)⟩)⟩)⟩)⟩)⟩)⟩)⟩)⟩)⟩)⟩)⟩)⟩)⟩)⟩)⟩)⟩), wsX110_in⟩), wsX120_in⟩), wsX100_in⟩), wsX50_in⟩), wsX80_in⟩), wsX40_in⟩), wsX10_in⟩), wsX60_in⟩), wsX90_in⟩), wsX70_in⟩), wsX20_in⟩), fun _ h => absurd h List.not_mem_nil⟩)
theorem inX0 : ∀ w ∈ wsX00, w ∈ lw_tbl := by decide +kernel
theorem inlX1 : ∀ w ∈ wsX10, w ∈ wsL_law := fun _ h => List.mem_append_left _ (List.mem_append_left _ (List.mem_append_left _ (List.mem_append_left _ (List.mem_append_left _ (List.mem_append_right _ h)))))
theorem inX1 : ∀ w ∈ wsX10, w ∈ lw_tbl := fun w h => wsL_law_in w (inlX1 w h)
theorem inlX2 : ∀ w ∈ wsX20, w ∈ wsL_law := fun _ h => List.mem_append_left _ (List.mem_append_right _ h)
theorem inX2 : ∀ w ∈ wsX20, w ∈ lw_tbl := fun w h => wsL_law_in w (inlX2 w h)
theorem inX3 : ∀ w ∈ wsX30, w ∈ lw_tbl := by decide +kernel
theorem inlX4 : ∀ w ∈ wsX40, w ∈ wsL_law := fun _ h => List.mem_append_left _ (List.mem_append_left _ (List.mem_append_left _ (List.mem_append_left _ (List.mem_append_left _ (List.mem_append_left _ (List.mem_append_right _ h))))))
theorem inX4 : ∀ w ∈ wsX40, w ∈ lw_tbl := fun w h => wsL_law_in w (inlX4 w h)
theorem inlX5 : ∀ w ∈ wsX50, w ∈ wsL_law := fun _ h => List.mem_append_left _ (List.mem_append_left _ (List.mem_append_left _ (List.mem_append_left _ (List.mem_append_left _ (List.mem_append_left _ (List.mem_append_left _ (List.mem_append_left _ (List.mem_append_right _ h))))))))
theorem inX5 : ∀ w ∈ wsX50, w ∈ lw_tbl := fun w h => wsL_law_in w (inlX5 w h)
theorem inlX6 : ∀ w ∈ wsX60, w ∈ wsL_law := fun _ h => List.mem_append_left _ (List.mem_append_left _ (List.mem_append_left _ (List.mem_append_left _ (List.mem_append_right _ h))))
theorem inX6 : ∀ w ∈ wsX60, w ∈ lw_tbl := fun w h => wsL_law_in w (inlX6 w h)
theorem inlX7 : ∀ w ∈ wsX70, w ∈ wsL_law := fun _ h => List.mem_append_left _ (List.mem_append_left _ (List.mem_append_right _ h))
theorem inX7 : ∀ w ∈ wsX70, w ∈ lw_tbl := fun w h => wsL_law_in w (inlX7 w h)
theorem inlX8 : ∀ w ∈ wsX80, w ∈ wsL_law := fun _ h => List.mem_append_left _ (List.mem_append_left _ (List.mem_append_left _ (List.mem_append_left _ (List.mem_append_left _ (List.mem_append_left _ (List.mem_append_left _ (List.mem_append_right _ h)))))))
theorem inX8 : ∀ w ∈ wsX80, w ∈ lw_tbl := fun w h => wsL_law_in w (inlX8 w h)
theorem inlX9 : ∀ w ∈ wsX90, w ∈ wsL_law := fun _ h => List.mem_append_left _ (List.mem_append_left _ (List.mem_append_left _ (List.mem_append_right _ h)))
theorem inX9 : ∀ w ∈ wsX90, w ∈ lw_tbl := fun w h => wsL_law_in w (inlX9 w h)
theorem inlX10 : ∀ w ∈ wsX100, w ∈ wsL_law := fun _ h => List.mem_append_left _ (List.mem_append_left _ (List.mem_append_left _ (List.mem_append_left _ (List.mem_append_left _ (List.mem_append_left _ (List.mem_append_left _ (List.mem_append_left _ (List.mem_append_left _ (List.mem_append_right _ h)))))))))
theorem inX10 : ∀ w ∈ wsX100, w ∈ lw_tbl := fun w h => wsL_law_in w (inlX10 w h)
theorem inlX11 : ∀ w ∈ wsX110, w ∈ wsL_law := fun _ h => List.mem_append_left _ (List.mem_append_left _ (List.mem_append_left _ (List.mem_append_left _ (List.mem_append_left _ (List.mem_append_left _ (List.mem_append_left _ (List.mem_append_left _ (List.mem_append_left _ (List.mem_append_left _ (List.mem_append_left _ (List.mem_append_right _ h)))))))))))
theorem inX11 : ∀ w ∈ wsX110, w ∈ lw_tbl := fun w h => wsL_law_in w (inlX11 w h)
theorem inlX12 : ∀ w ∈ wsX120, w ∈ wsL_law := fun _ h => List.mem_append_left _ (List.mem_append_left _ (List.mem_append_left _ (List.mem_append_left _ (List.mem_append_left _ (List.mem_append_left _ (List.mem_append_left _ (List.mem_append_left _ (List.mem_append_left _ (List.mem_append_left _ (List.mem_append_right _ h))))))))))
theorem inX12 : ∀ w ∈ wsX120, w ∈ lw_tbl := fun w h => wsL_law_in w (inlX12 w h)
theorem inJx145de : ∀ w ∈ wsJx145de0, w ∈ lw_tbl := by decide +kernel
theorem inJx9f9b0 : ∀ w ∈ wsJx9f9b00, w ∈ lw_tbl := by decide +kernel
theorem inJxb160c : ∀ w ∈ wsJxb160c0, w ∈ lw_tbl := by decide +kernel
theorem inJ6 : ∀ w ∈ wsJ60, w ∈ lw_tbl := by decide +kernel
theorem inJ9 : ∀ w ∈ wsJ90, w ∈ lw_tbl := by decide +kernel
theorem inJ0 : ∀ w ∈ wsJ00, w ∈ lw_tbl := by decide +kernel
theorem inJ1 : ∀ w ∈ wsJ10, w ∈ lw_tbl := by decide +kernel
theorem inJ2 : ∀ w ∈ wsJ20, w ∈ lw_tbl := by decide +kernel
theorem inJ10 : ∀ w ∈ wsJ100, w ∈ lw_tbl := by decide +kernel
theorem inJxfd54e : ∀ w ∈ wsJxfd54e0, w ∈ lw_tbl := by decide +kernel
theorem inJx3cf43 : ∀ w ∈ wsJx3cf430, w ∈ lw_tbl := by decide +kernel
theorem inJ7 : ∀ w ∈ wsJ70, w ∈ lw_tbl := by decide +kernel
theorem inJ3 : ∀ w ∈ wsJ30, w ∈ lw_tbl := by decide +kernel
