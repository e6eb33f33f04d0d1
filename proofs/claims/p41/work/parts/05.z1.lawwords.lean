set_option maxRecDepth 20000 in
theorem wsL_law0_r25_in : ∀ w ∈ wsL_law0_r25, w ∈ lw_tblX := fun w h => (goodIn_r wsL_law0_r25 [861, 862, 863, 874, 864, 865, 866, 867, 869, 870, 871, 872, 873, 875, 876, 56, 877, 881, 883, 882, 56, 884, 878, 879] rfl (by decide +kernel) w h).1
set_option maxRecDepth 20000 in
theorem wsL_law0_r26_in : ∀ w ∈ wsL_law0_r26, w ∈ lw_tblX := fun w h => (goodIn_r wsL_law0_r26 [880, 885, 886, 887, 888, 889, 890, 891, 892, 893, 894, 895, 896, 897, 898, 899, 901, 902, 903, 904, 905, 906, 907, 908] rfl (by decide +kernel) w h).1
set_option maxRecDepth 20000 in
theorem wsL_law0_r27_in : ∀ w ∈ wsL_law0_r27, w ∈ lw_tblX := fun w h => (goodIn_r wsL_law0_r27 [909, 910, 911, 912, 913, 914, 916, 918, 919, 920, 921, 922, 923, 924, 925, 927, 928, 929, 930, 931, 932, 933, 935, 936] rfl (by decide +kernel) w h).1
set_option maxRecDepth 20000 in
theorem wsL_law0_r28_in : ∀ w ∈ wsL_law0_r28, w ∈ lw_tblX := fun w h => (goodIn_r wsL_law0_r28 [57, 937, 938, 939, 940, 941, 942, 943, 944, 945, 946, 948, 949, 950, 951, 952, 953, 954, 955, 956, 957, 958, 959, 960] rfl (by decide +kernel) w h).1
set_option maxRecDepth 20000 in
theorem wsL_law0_r29_in : ∀ w ∈ wsL_law0_r29, w ∈ lw_tblX := fun w h => (goodIn_r wsL_law0_r29 [962, 30, 963, 964, 965, 966, 967, 969, 31, 970, 971, 972, 973, 974, 975, 976, 977, 978, 979, 980, 981, 982, 983, 985] rfl (by decide +kernel) w h).1
set_option maxRecDepth 20000 in
theorem wsL_law0_r30_in : ∀ w ∈ wsL_law0_r30, w ∈ lw_tblX := fun w h => (goodIn_r wsL_law0_r30 [986, 987, 988, 989, 990, 991, 992, 993, 994, 995, 996, 997, 998, 999, 1000, 1001, 1002, 1003, 1004, 1005, 1006, 1007, 1008, 1009] rfl (by decide +kernel) w h).1
set_option maxRecDepth 20000 in
theorem wsL_law0_r31_in : ∀ w ∈ wsL_law0_r31, w ∈ lw_tblX := fun w h => (goodIn_r wsL_law0_r31 [1010, 1011, 1012, 1013, 1014, 1015, 1016, 1017, 1018, 1019, 1020, 1022, 1326, 1327, 1328, 1026, 1027, 1028, 1029, 1030, 1031, 1032, 1033, 1034] rfl (by decide +kernel) w h).1
set_option maxRecDepth 20000 in
theorem wsL_law0_r32_in : ∀ w ∈ wsL_law0_r32, w ∈ lw_tblX := fun w h => (goodIn_r wsL_law0_r32 [1035, 1036, 1037, 1038, 1039, 1040, 1041, 1042, 1043, 1044, 1045, 1046, 1047, 1048, 1049, 1050, 1051, 1052, 1053, 1054, 1055, 1056, 1057, 1058] rfl (by decide +kernel) w h).1
set_option maxRecDepth 20000 in
theorem wsL_law0_r33_in : ∀ w ∈ wsL_law0_r33, w ∈ lw_tblX := fun w h => (goodIn_r wsL_law0_r33 [1059, 1060, 1329, 1330, 1331, 1332, 1333, 1334, 1335, 1336, 1337, 1338, 1298, 1299, 1300, 1301, 1165, 1166, 53, 1167, 1289, 1168, 1169, 1170] rfl (by decide +kernel) w h).1
set_option maxRecDepth 20000 in
theorem wsL_law0_r34_in : ∀ w ∈ wsL_law0_r34, w ∈ lw_tblX := fun w h => (goodIn_r wsL_law0_r34 [1171, 1172, 1290, 1302, 1303, 1304, 1305, 1306, 1307, 1308, 1309, 1310, 1311, 58, 1312, 1313, 1314, 1315, 1150, 1316, 1317, 59, 1318, 1319] rfl (by decide +kernel) w h).1
set_option maxRecDepth 20000 in
theorem wsL_law0_r35_in : ∀ w ∈ wsL_law0_r35, w ∈ lw_tblX := fun w h => (goodIn_r wsL_law0_r35 [1320, 60, 1321, 1322, 1323, 1324, 1144, 1145, 1146, 1325, 1282, 1283, 1284, 1158, 1160, 1162, 1023, 1024, 1025, 1061, 1062, 62, 1063, 1064] rfl (by decide +kernel) w h).1
set_option maxRecDepth 20000 in
theorem wsL_law0_r36_in : ∀ w ∈ wsL_law0_r36, w ∈ lw_tblX := fun w h => (goodIn_r wsL_law0_r36 [1065, 1066, 1067, 61, 1068, 1069, 1070, 489, 1079, 1080, 1072, 1073, 1074, 1075, 1076, 1077, 1078, 1093, 1094, 1095, 1096, 1097, 1344, 1091] rfl (by decide +kernel) w h).1
set_option maxRecDepth 20000 in
theorem wsL_law0_r37_in : ∀ w ∈ wsL_law0_r37, w ∈ lw_tblX := fun w h => (goodIn_r wsL_law0_r37 [1098, 1099, 1082, 1100, 1345, 3, 1102, 1103, 1104, 1346, 0, 1106, 1107, 1108, 1347, 1, 1110, 1111, 1120, 1112, 1113, 63, 1114, 1115] rfl (by decide +kernel) w h).1
set_option maxRecDepth 20000 in
theorem wsL_law0_r38_in : ∀ w ∈ wsL_law0_r38, w ∈ lw_tblX := fun w h => (goodIn_r wsL_law0_r38 [1116, 1117, 1118, 1119, 1121, 1122, 64, 1123, 1124, 1125, 1126, 1127, 1128, 1130, 1131, 1132, 1133, 1135, 1136, 1134, 1137, 1138, 1139, 1140] rfl (by decide +kernel) w h).1
set_option maxRecDepth 20000 in
theorem wsL_law0_r39_in : ∀ w ∈ wsL_law0_r39, w ∈ lw_tblX := fun w h => (goodIn_r wsL_law0_r39 [1141, 1142, 1143, 1147, 1148, 1149, 1152, 1153, 1154, 1155, 1156, 1157, 1164, 1173, 1348, 5, 1175, 1176, 1177, 1349, 4, 1179, 1180, 1181] rfl (by decide +kernel) w h).1
set_option maxRecDepth 20000 in
theorem wsL_law0_r40_in : ∀ w ∈ wsL_law0_r40, w ∈ lw_tblX := fun w h => (goodIn_r wsL_law0_r40 [1182, 1350, 2, 1184, 1185, 1186, 1187, 1188, 1189, 1190, 1191, 1192, 1193, 1194, 1195, 1196, 1197, 1198, 1199, 1200, 1201, 1202, 1203, 1204] rfl (by decide +kernel) w h).1
set_option maxRecDepth 20000 in
theorem wsL_law0_r41_in : ∀ w ∈ wsL_law0_r41, w ∈ lw_tblX := fun w h => (goodIn_r wsL_law0_r41 [1205, 1206, 1207, 1208, 1209, 1210, 1211, 1351, 1212, 1213, 1214, 1215, 1216, 1217, 1218, 1219, 1220, 1222, 1224, 1225, 1226, 1227, 1228, 1229] rfl (by decide +kernel) w h).1
set_option maxRecDepth 20000 in
theorem wsL_law0_r42_in : ∀ w ∈ wsL_law0_r42, w ∈ lw_tblX := fun w h => (goodIn_r wsL_law0_r42 [1230, 1231, 1233, 1234, 1235, 1236, 1237, 540, 1238, 1239, 1240, 1241, 1242, 1243, 1244, 1081, 1245, 1247, 1248, 1246, 1249, 1250, 1252, 1251] rfl (by decide +kernel) w h).1
set_option maxRecDepth 20000 in
theorem wsL_law0_r43_in : ∀ w ∈ wsL_law0_r43, w ∈ lw_tblX := fun w h => (goodIn_r wsL_law0_r43 [1253, 1254, 1255, 1256, 1251, 1257, 1258, 1259, 1260, 1261, 1262, 1263, 1264, 1265, 1266, 1267, 1269, 1276, 1277, 1278, 1279, 1280, 1281, 1285] rfl (by decide +kernel) w h).1
set_option maxRecDepth 20000 in
theorem wsL_law0_r44_in : ∀ w ∈ wsL_law0_r44, w ∈ lw_tblX := fun w h => (goodIn_r wsL_law0_r44 [1286, 1287, 1288] rfl (by decide +kernel) w h).1
theorem wsX70_inT : ∀ w ∈ wsX70, w ∈ lw_tblX := by decide +kernel
theorem wsX00_inT : ∀ w ∈ wsX00, w ∈ lw_tblX := by decide +kernel
theorem wsX60_inT : ∀ w ∈ wsX60, w ∈ lw_tblX := by decide +kernel
theorem wsX20_inT : ∀ w ∈ wsX20, w ∈ lw_tblX := by decide +kernel
theorem wsX10_inT : ∀ w ∈ wsX10, w ∈ lw_tblX := by decide +kernel
theorem wsX40_inT : ∀ w ∈ wsX40, w ∈ lw_tblX := by decide +kernel
theorem wsJ00_inT : ∀ w ∈ wsJ00, w ∈ lw_tblX := by decide +kernel
theorem wsJ40_inT : ∀ w ∈ wsJ40, w ∈ lw_tblX := by decide +kernel
