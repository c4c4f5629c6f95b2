/-! all words of the names are the tables' -/
set_option maxRecDepth 20000 in
theorem tb_r1 : ∀ w ∈ wsL_law_r1, w ∈ lw_tbl := tb_by [94, 95, 77, 1116, 1117, 89, 1587, 96, 97, 98, 99, 100, 101, 102, 495, 104, 496, 106, 107, 78, 497, 290, 291, 83] (by decide +kernel)
set_option maxRecDepth 20000 in
theorem tb_r2 : ∀ w ∈ wsL_law_r2, w ∈ lw_tbl := tb_by [498, 423, 424, 86, 499, 500, 297, 84, 463, 88, 109, 110, 111, 112, 113, 79, 249, 195, 196, 81, 250, 219, 220, 82] (by decide +kernel)
set_option maxRecDepth 20000 in
theorem tb_r3 : ∀ w ∈ wsL_law_r3, w ∈ lw_tbl := tb_by [251, 170, 253, 254, 255, 256, 257, 258, 259, 115, 116, 117, 171, 172, 173, 174, 175, 118, 119, 80, 176, 121, 122, 123] (by decide +kernel)
set_option maxRecDepth 20000 in
theorem tb_r4 : ∀ w ∈ wsL_law_r4, w ∈ lw_tbl := tb_by [124, 125, 127, 129, 131, 132, 133, 134, 135, 198, 199, 200, 218, 201, 202, 203, 204, 222, 223, 224, 225, 226, 293, 294] (by decide +kernel)
set_option maxRecDepth 20000 in
theorem tb_r5 : ∀ w ∈ wsL_law_r5, w ∈ lw_tbl := tb_by [295, 296, 391, 393, 394, 395, 396, 397, 299, 300, 301, 346, 347, 302, 303, 85, 348, 368, 305, 306, 307, 308, 309, 310] (by decide +kernel)
set_option maxRecDepth 20000 in
theorem tb_r6 : ∀ w ∈ wsL_law_r6, w ∈ lw_tbl := tb_by [345, 311, 312, 313, 322, 324, 426, 427, 428, 446, 447, 429, 430, 87, 448, 449, 432, 433, 434, 438, 465, 466, 467, 470] (by decide +kernel)
set_option maxRecDepth 20000 in
theorem tb_r7 : ∀ w ∈ wsL_law_r7, w ∈ lw_tbl := tb_by [471, 472, 473, 474, 468, 475, 476, 1118, 1119, 1120, 1121, 1124, 1125, 1126, 1127, 1128, 1129, 1130, 1131, 1132, 1133, 1134, 1138, 1139] (by decide +kernel)
set_option maxRecDepth 20000 in
theorem tb_r8 : ∀ w ∈ wsL_law_r8, w ∈ lw_tbl := tb_by [1140, 1141, 1142, 1151, 1152, 1153, 1154, 1155, 1122, 1157, 1158, 1159, 1160, 1161, 1165, 1168, 1169, 1171, 1172, 1173, 1175, 1164, 520, 521] (by decide +kernel)
set_option maxRecDepth 20000 in
theorem tb_r9 : ∀ w ∈ wsL_law_r9, w ∈ lw_tbl := tb_by [522, 523, 501, 524, 525, 526, 527, 355, 357, 528, 529, 530, 531, 1285, 1286, 1287, 1288, 1289, 1123, 1290, 1291, 1292, 532, 533] (by decide +kernel)
set_option maxRecDepth 20000 in
theorem tb_r10 : ∀ w ∈ wsL_law_r10, w ∈ lw_tbl := tb_by [534, 535, 536, 538, 0, 539, 540, 541, 542, 543, 544, 545, 546, 547, 548, 549, 320, 550, 551, 552, 553, 314, 554, 555] (by decide +kernel)
set_option maxRecDepth 20000 in
theorem tb_r11 : ∀ w ∈ wsL_law_r11, w ∈ lw_tbl := tb_by [556, 557, 558, 560, 1, 561, 366, 1293, 1294, 1295, 1296, 1301, 1302, 1303, 1297, 1299, 35, 1300, 1304, 1306, 36, 1307, 1308, 1310] (by decide +kernel)
set_option maxRecDepth 20000 in
theorem tb_r12 : ∀ w ∈ wsL_law_r12, w ∈ lw_tbl := tb_by [37, 1311, 562, 563, 564, 565, 1312, 1313, 1314, 1315, 566, 567, 568, 569, 353, 319, 570, 571, 572, 573, 1316, 1317, 1318, 1319] (by decide +kernel)
set_option maxRecDepth 20000 in
theorem tb_r13 : ∀ w ∈ wsL_law_r13, w ∈ lw_tbl := tb_by [574, 575, 576, 577, 578, 579, 580, 581, 582, 583, 584, 585, 586, 587, 588, 589, 590, 591, 592, 593, 1320, 1321, 1322, 1323] (by decide +kernel)
set_option maxRecDepth 20000 in
theorem tb_r14 : ∀ w ∈ wsL_law_r14, w ∈ lw_tbl := tb_by [1324, 1325, 1326, 1327, 1328, 1329, 1330, 1331, 594, 595, 596, 597, 598, 599, 600, 601, 602, 603, 604, 1332, 1333, 1334, 1335, 1336] (by decide +kernel)
set_option maxRecDepth 20000 in
theorem tb_r15 : ∀ w ∈ wsL_law_r15, w ∈ lw_tbl := tb_by [1337, 1338, 1339, 605, 606, 607, 608, 609, 610, 611, 612, 1340, 1341, 1342, 1343, 613, 614, 615, 616, 356, 359, 323, 325, 367] (by decide +kernel)
set_option maxRecDepth 20000 in
theorem tb_r16 : ∀ w ∈ wsL_law_r16, w ∈ lw_tbl := tb_by [617, 618, 619, 620, 1344, 1345, 1346, 1347, 1348, 1349, 1350, 1351, 1352, 1353, 1354, 1355, 1356, 622, 623, 624, 625, 626, 627, 628] (by decide +kernel)
set_option maxRecDepth 20000 in
theorem tb_r17 : ∀ w ∈ wsL_law_r17, w ∈ lw_tbl := tb_by [629, 630, 631, 632, 633, 634, 635, 636, 637, 1357, 1358, 1359, 1360, 1361, 638, 639, 640, 641, 371, 363, 642, 643, 644, 645] (by decide +kernel)
set_option maxRecDepth 20000 in
theorem tb_r18 : ∀ w ∈ wsL_law_r18, w ∈ lw_tbl := tb_by [177, 352, 318, 779, 260, 233, 262, 206, 141, 646, 647, 648, 649, 350, 316, 138, 358, 650, 652, 2, 653, 136, 654, 655] (by decide +kernel)
set_option maxRecDepth 20000 in
theorem tb_r19 : ∀ w ∈ wsL_law_r19, w ∈ lw_tbl := tb_by [90, 656, 657, 659, 3, 660, 661, 662, 664, 665, 667, 4, 668, 669, 671, 5, 672, 673, 675, 6, 676, 677, 679, 7] (by decide +kernel)
set_option maxRecDepth 20000 in
theorem tb_r20 : ∀ w ∈ wsL_law_r20, w ∈ lw_tbl := tb_by [680, 681, 682, 683, 684, 686, 8, 687, 688, 690, 9, 691, 692, 693, 694, 695, 696, 697, 699, 10, 700, 701, 703, 11] (by decide +kernel)
set_option maxRecDepth 20000 in
theorem tb_r21 : ∀ w ∈ wsL_law_r21, w ∈ lw_tbl := tb_by [704, 705, 706, 707, 708, 709, 710, 711, 712, 713, 715, 12, 716, 717, 719, 13, 720, 140, 142, 721, 723, 14, 724, 725] (by decide +kernel)
set_option maxRecDepth 20000 in
theorem tb_r22 : ∀ w ∈ wsL_law_r22, w ∈ lw_tbl := tb_by [726, 727, 728, 205, 729, 731, 15, 732, 733, 734, 735, 736, 178, 139, 737, 739, 16, 740, 741, 742, 743, 744, 227, 229] (by decide +kernel)
set_option maxRecDepth 20000 in
theorem tb_r23 : ∀ w ∈ wsL_law_r23, w ∈ lw_tbl := tb_by [232, 234, 745, 747, 17, 748, 369, 230, 261, 235, 749, 750, 751, 752, 753, 754, 755, 756, 757, 758, 759, 760, 765, 766] (by decide +kernel)
set_option maxRecDepth 20000 in
theorem tb_r24 : ∀ w ∈ wsL_law_r24, w ∈ lw_tbl := tb_by [91, 767, 768, 769, 770, 761, 762, 763, 764, 771, 773, 18, 774, 775, 777, 19, 778, 179, 228, 780, 781, 783, 20, 784] (by decide +kernel)
set_option maxRecDepth 20000 in
theorem tb_r25 : ∀ w ∈ wsL_law_r25, w ∈ lw_tbl := tb_by [797, 785, 786, 787, 788, 789, 790, 791, 792, 793, 794, 795, 796, 798, 800, 21, 801, 360, 802, 803, 804, 805, 806, 807] (by decide +kernel)
set_option maxRecDepth 20000 in
theorem tb_r26 : ∀ w ∈ wsL_law_r26, w ∈ lw_tbl := tb_by [808, 809, 810, 811, 812, 813, 814, 815, 817, 22, 818, 819, 821, 23, 822, 823, 824, 825, 826, 827, 829, 24, 830, 831] (by decide +kernel)
set_option maxRecDepth 20000 in
theorem tb_r27 : ∀ w ∈ wsL_law_r27, w ∈ lw_tbl := tb_by [832, 833, 834, 835, 836, 137, 837, 838, 839, 840, 841, 842, 843, 844, 845, 846, 847, 848, 849, 850, 126, 851, 852, 853] (by decide +kernel)
set_option maxRecDepth 20000 in
theorem tb_r28 : ∀ w ∈ wsL_law_r28, w ∈ lw_tbl := tb_by [854, 855, 856, 857, 858, 128, 859, 860, 861, 862, 863, 864, 865, 867, 25, 868, 869, 870, 871, 872, 873, 874, 875, 876] (by decide +kernel)
set_option maxRecDepth 20000 in
theorem tb_r29 : ∀ w ∈ wsL_law_r29, w ∈ lw_tbl := tb_by [877, 130, 878, 880, 26, 881, 882, 883, 884, 885, 886, 888, 27, 889, 890, 891, 892, 893, 894, 895, 896, 897, 92, 898] (by decide +kernel)
set_option maxRecDepth 20000 in
theorem tb_r30 : ∀ w ∈ wsL_law_r30, w ∈ lw_tbl := tb_by [899, 900, 901, 902, 903, 362, 364, 904, 905, 906, 907, 1362, 1363, 1364, 1365, 1366, 1368, 38, 1369, 1135, 1136, 1137, 1162, 1370] (by decide +kernel)
set_option maxRecDepth 20000 in
theorem tb_r31 : ∀ w ∈ wsL_law_r31, w ∈ lw_tbl := tb_by [1372, 39, 1373, 1163, 1374, 1376, 40, 1377, 1143, 1378, 1380, 41, 1381, 1144, 1145, 1382, 1384, 42, 1385, 1386, 1388, 43, 1389, 1390] (by decide +kernel)
set_option maxRecDepth 20000 in
theorem tb_r32 : ∀ w ∈ wsL_law_r32, w ∈ lw_tbl := tb_by [1392, 44, 1393, 1146, 1147, 1148, 1149, 1150, 1394, 1395, 1396, 1397, 1398, 1400, 45, 1401, 1402, 1404, 46, 1405, 1406, 1408, 47, 1409] (by decide +kernel)
set_option maxRecDepth 20000 in
theorem tb_r33 : ∀ w ∈ wsL_law_r33, w ∈ lw_tbl := tb_by [1410, 1412, 48, 1413, 1414, 1416, 49, 1417, 1418, 1420, 50, 1421, 1422, 1424, 51, 1425, 1426, 1428, 52, 1429, 1430, 1432, 53, 1433] (by decide +kernel)
set_option maxRecDepth 20000 in
theorem tb_r34 : ∀ w ∈ wsL_law_r34, w ∈ lw_tbl := tb_by [1434, 1436, 54, 1437, 1438, 1440, 55, 1441, 1442, 1444, 56, 1445, 1446, 1448, 57, 1449, 1156, 1450, 1452, 58, 1453, 1454, 1456, 59] (by decide +kernel)
set_option maxRecDepth 20000 in
theorem tb_r35 : ∀ w ∈ wsL_law_r35, w ∈ lw_tbl := tb_by [1457, 1458, 1460, 60, 1461, 1462, 1464, 61, 1465, 1466, 1468, 62, 1469, 1470, 1472, 63, 1473, 1474, 1476, 64, 1477, 1478, 1480, 65] (by decide +kernel)
set_option maxRecDepth 20000 in
theorem tb_r36 : ∀ w ∈ wsL_law_r36, w ∈ lw_tbl := tb_by [1481, 1482, 1484, 66, 1485, 1486, 1488, 67, 1489, 1490, 1492, 68, 1493, 1494, 1496, 69, 1497, 1498, 1500, 70, 1501, 908, 909, 910] (by decide +kernel)
set_option maxRecDepth 20000 in
theorem tb_r37 : ∀ w ∈ wsL_law_r37, w ∈ lw_tbl := tb_by [911, 365, 1502, 1503, 1504, 1505, 912, 913, 914, 915, 252, 231, 916, 918, 28, 919, 920, 921, 922, 923, 924, 925, 926, 927] (by decide +kernel)
set_option maxRecDepth 20000 in
theorem tb_r38 : ∀ w ∈ wsL_law_r38, w ∈ lw_tbl := tb_by [928, 1506, 1507, 1508, 1509, 1510, 1512, 71, 1513, 929, 930, 931, 932, 933, 934, 935, 936, 1514, 1515, 1516, 1517, 937, 938, 939] (by decide +kernel)
set_option maxRecDepth 20000 in
theorem tb_r39 : ∀ w ∈ wsL_law_r39, w ∈ lw_tbl := tb_by [940, 941, 1518, 1519, 1520, 1521, 942, 943, 944, 945, 946, 1522, 1523, 1524, 1525, 947, 948, 949, 950, 951, 952, 953, 954, 955] (by decide +kernel)
set_option maxRecDepth 20000 in
theorem tb_r40 : ∀ w ∈ wsL_law_r40, w ∈ lw_tbl := tb_by [956, 349, 315, 957, 958, 450, 435, 439, 959, 960, 961, 962, 436, 963, 964, 965, 966, 967, 968, 969, 970, 971, 972, 973] (by decide +kernel)
set_option maxRecDepth 20000 in
theorem tb_r41 : ∀ w ∈ wsL_law_r41, w ∈ lw_tbl := tb_by [974, 975, 976, 977, 978, 979, 980, 981, 982, 983, 984, 985, 986, 987, 988, 989, 1526, 1527, 1528, 1529, 1530, 1531, 1166, 1167] (by decide +kernel)
set_option maxRecDepth 20000 in
theorem tb_r42 : ∀ w ∈ wsL_law_r42, w ∈ lw_tbl := tb_by [1532, 1534, 72, 1535, 1536, 1538, 73, 1539, 990, 991, 992, 993, 994, 995, 996, 997, 998, 999, 1000, 1001, 1002, 1003, 1004, 93] (by decide +kernel)
set_option maxRecDepth 20000 in
theorem tb_r43 : ∀ w ∈ wsL_law_r43, w ∈ lw_tbl := tb_by [1005, 1540, 1541, 1542, 1543, 1544, 1545, 1546, 1006, 1007, 1008, 1009, 1010, 1011, 1012, 1013, 1547, 1548, 1549, 1550, 1014, 1015, 1016, 1017] (by decide +kernel)
set_option maxRecDepth 20000 in
theorem tb_r44 : ∀ w ∈ wsL_law_r44, w ∈ lw_tbl := tb_by [1018, 1020, 29, 1021, 1022, 1023, 1024, 1025, 1026, 1027, 1551, 1552, 1553, 1554, 1028, 1029, 1030, 1031, 1032, 502, 1033, 1034, 1035, 1036] (by decide +kernel)
set_option maxRecDepth 20000 in
theorem tb_r45 : ∀ w ∈ wsL_law_r45, w ∈ lw_tbl := tb_by [351, 317, 1037, 1038, 1039, 1040, 1041, 1042, 1043, 1045, 30, 1046, 477, 437, 440, 1047, 1555, 1556, 1557, 1558, 1559, 1560, 1170, 1561] (by decide +kernel)
set_option maxRecDepth 20000 in
theorem tb_r46 : ∀ w ∈ wsL_law_r46, w ∈ lw_tbl := tb_by [1048, 1049, 1050, 1051, 1052, 1053, 1054, 1055, 1056, 1057, 1562, 1563, 1564, 1565, 1566, 1058, 1059, 1060, 1061, 392, 1062, 1063, 1064, 1065] (by decide +kernel)
set_option maxRecDepth 20000 in
theorem tb_r47 : ∀ w ∈ wsL_law_r47, w ∈ lw_tbl := tb_by [1067, 1068, 398, 399, 400, 1066, 1069, 1071, 31, 1072, 1073, 1074, 1075, 1076, 1077, 1078, 1079, 1081, 32, 1082, 1083, 1085, 33, 1086] (by decide +kernel)
set_option maxRecDepth 20000 in
theorem tb_r48 : ∀ w ∈ wsL_law_r48, w ∈ lw_tbl := tb_by [354, 321, 370, 1087, 1088, 1089, 1090, 1091, 361, 1092, 1093, 1094, 1095, 1096, 1097, 1098, 401, 1099, 1567, 1568, 1569, 1570, 1174, 1571] (by decide +kernel)
set_option maxRecDepth 20000 in
theorem tb_r49 : ∀ w ∈ wsL_law_r49, w ∈ lw_tbl := tb_by [1573, 74, 1574, 1575, 1577, 75, 1578, 1100, 1101, 1102, 1103, 1104, 1105, 1106, 1107, 1579, 1580, 1581, 1582, 1108, 1109, 1110, 1111, 1112] (by decide +kernel)
set_option maxRecDepth 20000 in
theorem tb_r50 : ∀ w ∈ wsL_law_r50, w ∈ lw_tbl := tb_by [1114, 34, 1115, 1583, 1584, 1585, 1586] (by decide +kernel)
set_option maxRecDepth 20000 in
theorem tb_wsX110 : ∀ w ∈ wsX110, w ∈ lw_tbl := tb_by [503, 505, 507, 509, 511, 513, 515, 517] (by decide +kernel)
set_option maxRecDepth 20000 in
theorem tb_wsX120 : ∀ w ∈ wsX120, w ∈ lw_tbl := tb_by [1176, 1178, 1180, 1182, 1184, 1186, 1188, 1190, 1192, 1194, 1196, 1198, 1200, 1202, 1204, 1206, 1208, 1210, 1212, 1214, 1216, 1218, 1220, 1222, 1224, 1226, 1228, 1230, 1232, 1234, 1236, 1238, 1240, 1242, 1244, 1246, 1248, 1250, 1252, 1254, 1256, 1258, 1260, 1262, 1264, 1266, 1268, 1270, 1272, 1274, 1276, 1278, 1280, 1282] (by decide +kernel)
set_option maxRecDepth 20000 in
theorem tb_wsX50 : ∀ w ∈ wsX50, w ∈ lw_tbl := tb_by [263, 265, 267, 269, 271, 273, 275, 277, 279, 281, 283, 285, 287] (by decide +kernel)
set_option maxRecDepth 20000 in
theorem tb_wsX100 : ∀ w ∈ wsX100, w ∈ lw_tbl := tb_by [402, 404, 406, 408, 410, 412, 414, 416, 418, 420] (by decide +kernel)
set_option maxRecDepth 20000 in
theorem tb_wsX80 : ∀ w ∈ wsX80, w ∈ lw_tbl := tb_by [451, 453, 455, 457, 459] (by decide +kernel)
set_option maxRecDepth 20000 in
theorem tb_wsX90 : ∀ w ∈ wsX90, w ∈ lw_tbl := tb_by [372, 374, 376, 378, 380, 382, 384, 386, 388] (by decide +kernel)
set_option maxRecDepth 20000 in
theorem tb_wsX20 : ∀ w ∈ wsX20, w ∈ lw_tbl := tb_by [478, 480, 482, 484, 486, 488, 490, 492] (by decide +kernel)
set_option maxRecDepth 20000 in
theorem tb_wsX00 : ∀ w ∈ wsX00, w ∈ lw_tbl := tb_by [180, 182, 184, 186, 188, 190, 192] (by decide +kernel)
set_option maxRecDepth 20000 in
theorem tb_wsX30 : ∀ w ∈ wsX30, w ∈ lw_tbl := tb_by [207, 209, 211, 213, 215] (by decide +kernel)
set_option maxRecDepth 20000 in
theorem tb_wsX10 : ∀ w ∈ wsX10, w ∈ lw_tbl := tb_by [236, 238, 240, 242, 244, 246] (by decide +kernel)
set_option maxRecDepth 20000 in
theorem tb_wsX70 : ∀ w ∈ wsX70, w ∈ lw_tbl := tb_by [143, 145, 147, 149, 151, 153, 155, 157, 159, 161, 163, 165, 167] (by decide +kernel)
set_option maxRecDepth 20000 in
theorem tb_wsX60 : ∀ w ∈ wsX60, w ∈ lw_tbl := tb_by [326, 328, 330, 332, 334, 336, 338, 340, 342] (by decide +kernel)
set_option maxRecDepth 20000 in
theorem tb_wsX40 : ∀ w ∈ wsX40, w ∈ lw_tbl := tb_by [441, 443] (by decide +kernel)
theorem wsL_law_in : ∀ w ∈ wsL_law, w ∈ lw_tbl := (List.forall_mem_append.mpr ⟨(List.forall_mem_append.mpr ⟨(List.forall_mem_append.mpr ⟨(List.forall_mem_append.mpr ⟨(List.forall_mem_append.mpr ⟨(List.forall_mem_append.mpr ⟨(List.forall_mem_append.mpr ⟨(List.forall_mem_append.mpr ⟨(List.forall_mem_append.mpr ⟨(List.forall_mem_append.mpr ⟨(List.forall_mem_append.mpr ⟨(List.forall_mem_append.mpr ⟨(List.forall_mem_append.mpr ⟨(List.forall_mem_append.mpr ⟨(List.forall_mem_append.mpr ⟨tb_r1, List.forall_mem_append.mpr ⟨tb_r2, List.forall_mem_append.mpr ⟨tb_r3, List.forall_mem_append.mpr ⟨tb_r4, List.forall_mem_append.mpr ⟨tb_r5, List.forall_mem_append.mpr ⟨tb_r6, List.forall_mem_append.mpr ⟨tb_r7, List.forall_mem_append.mpr ⟨tb_r8, List.forall_mem_append.mpr ⟨tb_r9, List.forall_mem_append.mpr ⟨tb_r10, List.forall_mem_append.mpr ⟨tb_r11, List.forall_mem_append.mpr ⟨tb_r12, List.forall_mem_append.mpr ⟨tb_r13, List.forall_mem_append.mpr ⟨tb_r14, List.forall_mem_append.mpr ⟨tb_r15, List.forall_mem_append.mpr ⟨tb_r16, List.forall_mem_append.mpr ⟨tb_r17, List.forall_mem_append.mpr ⟨tb_r18, List.forall_mem_append.mpr ⟨tb_r19, List.forall_mem_append.mpr ⟨tb_r20, List.forall_mem_append.mpr ⟨tb_r21, List.forall_mem_append.mpr ⟨tb_r22, List.forall_mem_append.mpr ⟨tb_r23, List.forall_mem_append.mpr ⟨tb_r24, List.forall_mem_append.mpr ⟨tb_r25, List.forall_mem_append.mpr ⟨tb_r26, List.forall_mem_append.mpr ⟨tb_r27, List.forall_mem_append.mpr ⟨tb_r28, List.forall_mem_append.mpr ⟨tb_r29, List.forall_mem_append.mpr ⟨tb_r30, List.forall_mem_append.mpr ⟨tb_r31, List.forall_mem_append.mpr ⟨tb_r32, List.forall_mem_append.mpr ⟨tb_r33, List.forall_mem_append.mpr ⟨tb_r34, List.forall_mem_append.mpr ⟨tb_r35, List.forall_mem_append.mpr ⟨tb_r36, List.forall_mem_append.mpr ⟨tb_r37, List.forall_mem_append.mpr ⟨tb_r38, List.forall_mem_append.mpr ⟨tb_r39, List.forall_mem_append.mpr ⟨tb_r40, List.forall_mem_append.mpr ⟨tb_r41, List.forall_mem_append.mpr ⟨tb_r42, List.forall_mem_append.mpr ⟨tb_r43, List.forall_mem_append.mpr ⟨tb_r44, List.forall_mem_append.mpr ⟨tb_r45, List.forall_mem_append.mpr ⟨tb_r46, List.forall_mem_append.mpr ⟨tb_r47, List.forall_mem_append.mpr ⟨tb_r48, List.forall_mem_append.mpr ⟨tb_r49, tb_r50⟩⟩⟩⟩⟩⟩⟩⟩⟩⟩⟩⟩⟩⟩⟩⟩⟩⟩⟩⟩⟩⟩⟩⟩⟩⟩⟩⟩⟩⟩⟩⟩⟩⟩⟩⟩⟩⟩⟩⟩⟩⟩⟩⟩⟩⟩⟩⟩⟩), tb_wsX110⟩), tb_wsX120⟩), tb_wsX50⟩), tb_wsX100⟩), tb_wsX80⟩), tb_wsX90⟩), tb_wsX20⟩), tb_wsX00⟩), tb_wsX30⟩), tb_wsX10⟩), tb_wsX70⟩), tb_wsX60⟩), tb_wsX40⟩), fun _ h => absurd h List.not_mem_nil⟩)
theorem mm_N_in : ∀ w ∈ mm_N, w ∈ lw_tbl := tb_by [108, 114, 120, 197, 221, 292, 298, 304, 425, 431, 462, 464, 469, 621, 663, 103, 105] (by decide +kernel)
