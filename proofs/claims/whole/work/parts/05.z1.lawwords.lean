set_option maxRecDepth 20000 in
theorem wsL_law0_r27_in : ∀ w ∈ wsL_law0_r27, w ∈ lw_tbl := fun w h => (goodIn_r wsL_law0_r27 [1304, 1305, 251, 252, 253, 254, 255, 256, 257, 258, 259, 260, 1306, 1307, 1308, 1309, 1310, 261, 262, 263, 264, 265, 1311, 1312] rfl (by decide +kernel) w h).1
set_option maxRecDepth 20000 in
theorem wsL_law0_r28_in : ∀ w ∈ wsL_law0_r28, w ∈ lw_tbl := fun w h => (goodIn_r wsL_law0_r28 [1313, 1314, 750, 751, 752, 753, 754, 755, 756, 757, 759, 760, 761, 763, 764, 765, 766, 767, 768, 769, 1315, 1316, 1317, 1318] rfl (by decide +kernel) w h).1
set_option maxRecDepth 20000 in
theorem wsL_law0_r29_in : ∀ w ∈ wsL_law0_r29, w ∈ lw_tbl := fun w h => (goodIn_r wsL_law0_r29 [1319, 1321, 52, 1322, 1323, 770, 771, 772, 773, 774, 775, 776, 777, 778, 779, 780, 1324, 1325, 1326, 1327, 782, 783, 784, 785] rfl (by decide +kernel) w h).1
set_option maxRecDepth 20000 in
theorem wsL_law0_r30_in : ∀ w ∈ wsL_law0_r30, w ∈ lw_tbl := fun w h => (goodIn_r wsL_law0_r30 [786, 787, 788, 789, 1328, 1329, 1330, 1331, 790, 791, 792, 793, 794, 795, 796, 797, 1332, 1333, 1334, 1335, 799, 800, 801, 802] rfl (by decide +kernel) w h).1
set_option maxRecDepth 20000 in
theorem wsL_law0_r31_in : ∀ w ∈ wsL_law0_r31, w ∈ lw_tbl := fun w h => (goodIn_r wsL_law0_r31 [803, 804, 805, 807, 808, 83, 809, 810, 811, 812, 813, 814, 815, 816, 817, 818, 1336, 1337, 1338, 1339, 1340, 1342, 53, 1343] rfl (by decide +kernel) w h).1
set_option maxRecDepth 20000 in
theorem wsL_law0_r32_in : ∀ w ∈ wsL_law0_r32, w ∈ lw_tbl := fun w h => (goodIn_r wsL_law0_r32 [820, 821, 822, 823, 824, 825, 826, 1344, 1345, 1346, 1347, 274, 275, 276, 277, 278, 279, 280, 281, 1348, 1349, 1350, 1351, 828] rfl (by decide +kernel) w h).1
set_option maxRecDepth 20000 in
theorem wsL_law0_r33_in : ∀ w ∈ wsL_law0_r33, w ∈ lw_tbl := fun w h => (goodIn_r wsL_law0_r33 [829, 830, 831, 832, 833, 834, 835, 840, 84, 836, 837, 838, 839, 856, 857, 858, 859, 860, 861, 862, 863, 1352, 1353, 1354] rfl (by decide +kernel) w h).1
set_option maxRecDepth 20000 in
theorem wsL_law0_r34_in : ∀ w ∈ wsL_law0_r34, w ∈ lw_tbl := fun w h => (goodIn_r wsL_law0_r34 [1355, 1074, 864, 865, 866, 867, 868, 869, 870, 871, 872, 873, 874, 875, 877, 17, 878, 879, 881, 18, 882, 883, 884, 885] rfl (by decide +kernel) w h).1
set_option maxRecDepth 20000 in
theorem wsL_law0_r35_in : ∀ w ∈ wsL_law0_r35, w ∈ lw_tbl := fun w h => (goodIn_r wsL_law0_r35 [886, 888, 19, 889, 890, 892, 20, 893, 894, 895, 896, 897, 899, 21, 900, 901, 903, 22, 904, 905, 907, 23, 908, 909] rfl (by decide +kernel) w h).1
set_option maxRecDepth 20000 in
theorem wsL_law0_r36_in : ∀ w ∈ wsL_law0_r36, w ∈ lw_tbl := fun w h => (goodIn_r wsL_law0_r36 [910, 911, 912, 914, 24, 915, 916, 917, 918, 919, 921, 922, 923, 924, 925, 926, 927, 928, 929, 930, 931, 932, 933, 934] rfl (by decide +kernel) w h).1
set_option maxRecDepth 20000 in
theorem wsL_law0_r37_in : ∀ w ∈ wsL_law0_r37, w ∈ lw_tbl := fun w h => (goodIn_r wsL_law0_r37 [935, 936, 937, 938, 939, 940, 941, 1356, 1357, 1358, 1359, 1075, 1360, 1362, 54, 1363, 1076, 1365, 1366, 1367, 80, 1368, 1369, 1370] rfl (by decide +kernel) w h).1
set_option maxRecDepth 20000 in
theorem wsL_law0_r38_in : ∀ w ∈ wsL_law0_r38, w ∈ lw_tbl := fun w h => (goodIn_r wsL_law0_r38 [1371, 1372, 1540, 1373, 1374, 1375, 1376, 1377, 1539, 1379, 1380, 1381, 1382, 1383, 1384, 1385, 1386, 1387, 1388, 85, 1389, 1393, 1394, 1390] rfl (by decide +kernel) w h).1
set_option maxRecDepth 20000 in
theorem wsL_law0_r39_in : ∀ w ∈ wsL_law0_r39, w ∈ lw_tbl := fun w h => (goodIn_r wsL_law0_r39 [1391, 1392, 1395, 1396, 1397, 1398, 1399, 86, 1400, 1401, 1402, 1403, 1404, 1405, 1406, 1407, 1408, 1409, 1410, 1411, 1412, 1413, 1414, 1415] rfl (by decide +kernel) w h).1
set_option maxRecDepth 20000 in
theorem wsL_law0_r40_in : ∀ w ∈ wsL_law0_r40, w ∈ lw_tbl := fun w h => (goodIn_r wsL_law0_r40 [1416, 1418, 1419, 87, 1420, 1421, 1422, 1423, 1424, 1425, 1426, 1427, 1429, 1431, 1433, 1434, 1435, 1436, 1437, 88, 1438, 1439, 1440, 1441] rfl (by decide +kernel) w h).1
set_option maxRecDepth 20000 in
theorem wsL_law0_r41_in : ∀ w ∈ wsL_law0_r41, w ∈ lw_tbl := fun w h => (goodIn_r wsL_law0_r41 [1442, 1443, 1444, 1445, 1446, 1447, 1449, 55, 1450, 1451, 1453, 56, 1454, 1455, 1457, 57, 1458, 1459, 1461, 58, 1462, 282, 283, 284] rfl (by decide +kernel) w h).1
set_option maxRecDepth 20000 in
theorem wsL_law0_r42_in : ∀ w ∈ wsL_law0_r42, w ∈ lw_tbl := fun w h => (goodIn_r wsL_law0_r42 [285, 1463, 1464, 1465, 1466, 943, 944, 945, 946, 947, 948, 949, 1467, 1468, 1469, 1470, 952, 953, 954, 955, 956, 957, 958, 959] rfl (by decide +kernel) w h).1
set_option maxRecDepth 20000 in
theorem wsL_law0_r43_in : ∀ w ∈ wsL_law0_r43, w ∈ lw_tbl := fun w h => (goodIn_r wsL_law0_r43 [960, 961, 962, 963, 964, 966, 25, 967, 298, 299, 300, 301, 303, 0, 304, 968, 969, 305, 306, 307, 308, 1471, 1472, 1473] rfl (by decide +kernel) w h).1
set_option maxRecDepth 20000 in
theorem wsL_law0_r44_in : ∀ w ∈ wsL_law0_r44, w ∈ lw_tbl := fun w h => (goodIn_r wsL_law0_r44 [1474, 1072, 1475, 1477, 59, 1478, 1479, 1481, 60, 1482, 286, 287, 288, 289, 290, 291, 292, 293, 294, 1483, 1484, 1485, 1486, 970] rfl (by decide +kernel) w h).1
set_option maxRecDepth 20000 in
theorem wsL_law0_r45_in : ∀ w ∈ wsL_law0_r45, w ∈ lw_tbl := fun w h => (goodIn_r wsL_law0_r45 [971, 972, 973, 974, 975, 976, 978, 979, 980, 981, 1487, 1488, 1489, 1490, 982, 983, 984, 985, 999, 1000, 1001, 1002, 1003, 89] rfl (by decide +kernel) w h).1
set_option maxRecDepth 20000 in
theorem wsL_law0_r46_in : ∀ w ∈ wsL_law0_r46, w ∈ lw_tbl := fun w h => (goodIn_r wsL_law0_r46 [1491, 1492, 1493, 1494, 1495, 1497, 61, 1498, 1006, 1007, 1008, 1009, 1010, 1011, 1012, 1013, 1015, 1016, 1017, 1018, 1019, 1499, 1500, 1501] rfl (by decide +kernel) w h).1
set_option maxRecDepth 20000 in
theorem wsL_law0_r47_in : ∀ w ∈ wsL_law0_r47, w ∈ lw_tbl := fun w h => (goodIn_r wsL_law0_r47 [1502, 1020, 1021, 1022, 1023, 1024, 1025, 1026, 1027, 1028, 1029, 1030, 1503, 1504, 1505, 1506, 1032, 1033, 1034, 1035, 1036, 1037, 1038, 1040] rfl (by decide +kernel) w h).1
set_option maxRecDepth 20000 in
theorem wsL_law0_r48_in : ∀ w ∈ wsL_law0_r48, w ∈ lw_tbl := fun w h => (goodIn_r wsL_law0_r48 [1041, 1042, 1043, 1044, 1045, 1507, 1508, 1509, 1510, 309, 310, 311, 312, 313, 1511, 1512, 1513, 1514, 1070, 1046, 1047, 1048, 1049, 1050] rfl (by decide +kernel) w h).1
set_option maxRecDepth 20000 in
theorem wsL_law0_r49_in : ∀ w ∈ wsL_law0_r49, w ∈ lw_tbl := fun w h => (goodIn_r wsL_law0_r49 [1051, 1052, 1054, 1055, 1056, 1057, 1058, 1515, 1516, 1517, 1518] rfl (by decide +kernel) w h).1
theorem wsX70_inT : ∀ w ∈ wsX70, w ∈ lw_tbl := by decide +kernel
theorem wsX80_inT : ∀ w ∈ wsX80, w ∈ lw_tbl := by decide +kernel
theorem wsX00_inT : ∀ w ∈ wsX00, w ∈ lw_tbl := by decide +kernel
theorem wsX60_inT : ∀ w ∈ wsX60, w ∈ lw_tbl := by decide +kernel
theorem wsX20_inT : ∀ w ∈ wsX20, w ∈ lw_tbl := by decide +kernel
theorem wsX10_inT : ∀ w ∈ wsX10, w ∈ lw_tbl := by decide +kernel
theorem wsX40_inT : ∀ w ∈ wsX40, w ∈ lw_tbl := by decide +kernel
theorem wsJ00_inT : ∀ w ∈ wsJ00, w ∈ lw_tbl := by decide +kernel
