set_option maxRecDepth 20000 in
theorem wsL_law0_r27_in : ∀ w ∈ wsL_law0_r27, w ∈ lw_tbl := fun w h => (goodIn_r wsL_law0_r27 [249, 250, 251, 252, 253, 254, 255, 256, 257, 1303, 1304, 1305, 1306, 1307, 258, 259, 260, 261, 262, 1308, 1309, 1310, 1311, 747] rfl (by decide +kernel) w h).1
set_option maxRecDepth 20000 in
theorem wsL_law0_r28_in : ∀ w ∈ wsL_law0_r28, w ∈ lw_tbl := fun w h => (goodIn_r wsL_law0_r28 [748, 749, 750, 751, 752, 753, 754, 756, 757, 758, 760, 761, 762, 763, 764, 765, 766, 1312, 1313, 1314, 1315, 1316, 1318, 52] rfl (by decide +kernel) w h).1
set_option maxRecDepth 20000 in
theorem wsL_law0_r29_in : ∀ w ∈ wsL_law0_r29, w ∈ lw_tbl := fun w h => (goodIn_r wsL_law0_r29 [1319, 1320, 767, 768, 769, 770, 771, 772, 773, 774, 775, 776, 777, 1321, 1322, 1323, 1324, 779, 780, 781, 782, 783, 784, 785] rfl (by decide +kernel) w h).1
set_option maxRecDepth 20000 in
theorem wsL_law0_r30_in : ∀ w ∈ wsL_law0_r30, w ∈ lw_tbl := fun w h => (goodIn_r wsL_law0_r30 [786, 1325, 1326, 1327, 1328, 787, 788, 789, 790, 791, 792, 793, 794, 1329, 1330, 1331, 1332, 796, 797, 798, 799, 800, 801, 802] rfl (by decide +kernel) w h).1
set_option maxRecDepth 20000 in
theorem wsL_law0_r31_in : ∀ w ∈ wsL_law0_r31, w ∈ lw_tbl := fun w h => (goodIn_r wsL_law0_r31 [804, 805, 83, 806, 807, 808, 809, 810, 811, 812, 813, 814, 815, 1333, 1334, 1335, 1336, 1337, 1339, 53, 1340, 817, 818, 819] rfl (by decide +kernel) w h).1
set_option maxRecDepth 20000 in
theorem wsL_law0_r32_in : ∀ w ∈ wsL_law0_r32, w ∈ lw_tbl := fun w h => (goodIn_r wsL_law0_r32 [820, 821, 822, 823, 1341, 1342, 1343, 1344, 271, 272, 273, 274, 275, 276, 277, 278, 1345, 1346, 1347, 1348, 825, 826, 827, 828] rfl (by decide +kernel) w h).1
set_option maxRecDepth 20000 in
theorem wsL_law0_r33_in : ∀ w ∈ wsL_law0_r33, w ∈ lw_tbl := fun w h => (goodIn_r wsL_law0_r33 [829, 830, 831, 832, 837, 84, 833, 834, 835, 836, 853, 854, 855, 856, 857, 858, 859, 860, 1349, 1350, 1351, 1352, 1071, 861] rfl (by decide +kernel) w h).1
set_option maxRecDepth 20000 in
theorem wsL_law0_r34_in : ∀ w ∈ wsL_law0_r34, w ∈ lw_tbl := fun w h => (goodIn_r wsL_law0_r34 [862, 863, 864, 865, 866, 867, 868, 869, 870, 871, 872, 874, 17, 875, 876, 878, 18, 879, 880, 881, 882, 883, 885, 19] rfl (by decide +kernel) w h).1
set_option maxRecDepth 20000 in
theorem wsL_law0_r35_in : ∀ w ∈ wsL_law0_r35, w ∈ lw_tbl := fun w h => (goodIn_r wsL_law0_r35 [886, 887, 889, 20, 890, 891, 892, 893, 894, 896, 21, 897, 898, 900, 22, 901, 902, 904, 23, 905, 906, 907, 908, 909] rfl (by decide +kernel) w h).1
set_option maxRecDepth 20000 in
theorem wsL_law0_r36_in : ∀ w ∈ wsL_law0_r36, w ∈ lw_tbl := fun w h => (goodIn_r wsL_law0_r36 [911, 24, 912, 913, 914, 915, 916, 918, 919, 920, 921, 922, 923, 924, 925, 926, 927, 928, 929, 930, 931, 932, 933, 934] rfl (by decide +kernel) w h).1
set_option maxRecDepth 20000 in
theorem wsL_law0_r37_in : ∀ w ∈ wsL_law0_r37, w ∈ lw_tbl := fun w h => (goodIn_r wsL_law0_r37 [935, 936, 937, 938, 1353, 1354, 1355, 1356, 1072, 1357, 1359, 54, 1360, 1073, 1362, 1363, 1364, 80, 1365, 1366, 1367, 1368, 1369, 1537] rfl (by decide +kernel) w h).1
set_option maxRecDepth 20000 in
theorem wsL_law0_r38_in : ∀ w ∈ wsL_law0_r38, w ∈ lw_tbl := fun w h => (goodIn_r wsL_law0_r38 [1370, 1371, 1372, 1373, 1374, 1536, 1376, 1377, 1378, 1379, 1380, 1381, 1382, 1383, 1384, 1385, 85, 1386, 1390, 1391, 1387, 1388, 1389, 1392] rfl (by decide +kernel) w h).1
set_option maxRecDepth 20000 in
theorem wsL_law0_r39_in : ∀ w ∈ wsL_law0_r39, w ∈ lw_tbl := fun w h => (goodIn_r wsL_law0_r39 [1393, 1394, 1395, 1396, 86, 1397, 1398, 1399, 1400, 1401, 1402, 1403, 1404, 1405, 1406, 1407, 1408, 1409, 1410, 1411, 1412, 1413, 1415, 1416] rfl (by decide +kernel) w h).1
set_option maxRecDepth 20000 in
theorem wsL_law0_r40_in : ∀ w ∈ wsL_law0_r40, w ∈ lw_tbl := fun w h => (goodIn_r wsL_law0_r40 [87, 1417, 1418, 1419, 1420, 1421, 1422, 1423, 1424, 1426, 1428, 1430, 1431, 1432, 1433, 1434, 88, 1435, 1436, 1437, 1438, 1439, 1440, 1441] rfl (by decide +kernel) w h).1
set_option maxRecDepth 20000 in
theorem wsL_law0_r41_in : ∀ w ∈ wsL_law0_r41, w ∈ lw_tbl := fun w h => (goodIn_r wsL_law0_r41 [1442, 1443, 1444, 1446, 55, 1447, 1448, 1450, 56, 1451, 1452, 1454, 57, 1455, 1456, 1458, 58, 1459, 279, 280, 281, 282, 1460, 1461] rfl (by decide +kernel) w h).1
set_option maxRecDepth 20000 in
theorem wsL_law0_r42_in : ∀ w ∈ wsL_law0_r42, w ∈ lw_tbl := fun w h => (goodIn_r wsL_law0_r42 [1462, 1463, 940, 941, 942, 943, 944, 945, 946, 1464, 1465, 1466, 1467, 949, 950, 951, 952, 953, 954, 955, 956, 957, 958, 959] rfl (by decide +kernel) w h).1
set_option maxRecDepth 20000 in
theorem wsL_law0_r43_in : ∀ w ∈ wsL_law0_r43, w ∈ lw_tbl := fun w h => (goodIn_r wsL_law0_r43 [960, 961, 963, 25, 964, 295, 296, 297, 298, 300, 0, 301, 965, 966, 302, 303, 304, 305, 1468, 1469, 1470, 1471, 1069, 1472] rfl (by decide +kernel) w h).1
set_option maxRecDepth 20000 in
theorem wsL_law0_r44_in : ∀ w ∈ wsL_law0_r44, w ∈ lw_tbl := fun w h => (goodIn_r wsL_law0_r44 [1474, 59, 1475, 1476, 1478, 60, 1479, 283, 284, 285, 286, 287, 288, 289, 290, 291, 1480, 1481, 1482, 1483, 967, 968, 969, 970] rfl (by decide +kernel) w h).1
set_option maxRecDepth 20000 in
theorem wsL_law0_r45_in : ∀ w ∈ wsL_law0_r45, w ∈ lw_tbl := fun w h => (goodIn_r wsL_law0_r45 [971, 972, 973, 975, 976, 977, 978, 1484, 1485, 1486, 1487, 979, 980, 981, 982, 996, 997, 998, 999, 1000, 89, 1488, 1489, 1490] rfl (by decide +kernel) w h).1
set_option maxRecDepth 20000 in
theorem wsL_law0_r46_in : ∀ w ∈ wsL_law0_r46, w ∈ lw_tbl := fun w h => (goodIn_r wsL_law0_r46 [1491, 1492, 1494, 61, 1495, 1003, 1004, 1005, 1006, 1007, 1008, 1009, 1010, 1012, 1013, 1014, 1015, 1016, 1496, 1497, 1498, 1499, 1017, 1018] rfl (by decide +kernel) w h).1
set_option maxRecDepth 20000 in
theorem wsL_law0_r47_in : ∀ w ∈ wsL_law0_r47, w ∈ lw_tbl := fun w h => (goodIn_r wsL_law0_r47 [1019, 1020, 1021, 1022, 1023, 1024, 1025, 1026, 1027, 1500, 1501, 1502, 1503, 1029, 1030, 1031, 1032, 1033, 1034, 1035, 1037, 1038, 1039, 1040] rfl (by decide +kernel) w h).1
set_option maxRecDepth 20000 in
theorem wsL_law0_r48_in : ∀ w ∈ wsL_law0_r48, w ∈ lw_tbl := fun w h => (goodIn_r wsL_law0_r48 [1041, 1042, 1504, 1505, 1506, 1507, 306, 307, 308, 309, 310, 1508, 1509, 1510, 1511, 1067, 1043, 1044, 1045, 1046, 1047, 1048, 1049, 1051] rfl (by decide +kernel) w h).1
set_option maxRecDepth 20000 in
theorem wsL_law0_r49_in : ∀ w ∈ wsL_law0_r49, w ∈ lw_tbl := fun w h => (goodIn_r wsL_law0_r49 [1052, 1053, 1054, 1055, 1512, 1513, 1514, 1515] rfl (by decide +kernel) w h).1
theorem wsX70_inT : ∀ w ∈ wsX70, w ∈ lw_tbl := by decide +kernel
theorem wsX80_inT : ∀ w ∈ wsX80, w ∈ lw_tbl := by decide +kernel
theorem wsX00_inT : ∀ w ∈ wsX00, w ∈ lw_tbl := by decide +kernel
theorem wsX60_inT : ∀ w ∈ wsX60, w ∈ lw_tbl := by decide +kernel
theorem wsX20_inT : ∀ w ∈ wsX20, w ∈ lw_tbl := by decide +kernel
theorem wsX10_inT : ∀ w ∈ wsX10, w ∈ lw_tbl := by decide +kernel
theorem wsX40_inT : ∀ w ∈ wsX40, w ∈ lw_tbl := by decide +kernel
theorem wsJ00_inT : ∀ w ∈ wsJ00, w ∈ lw_tbl := by decide +kernel
