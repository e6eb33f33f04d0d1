set_option maxRecDepth 20000 in
theorem wsL_law0_r1_in : ∀ w ∈ wsL_law0_r1, w ∈ lw_tbl := fun w h => (goodIn_r wsL_law0_r1 [90, 91, 63, 1059, 1060, 69, 1519, 1520, 92, 93, 94, 95, 96, 97, 98, 99, 64, 177, 109, 110, 65, 178, 122, 123] rfl (by decide +kernel) w h).1
set_option maxRecDepth 20000 in
theorem wsL_law0_r2_in : ∀ w ∈ wsL_law0_r2, w ∈ lw_tbl := fun w h => (goodIn_r wsL_law0_r2 [66, 179, 138, 139, 67, 180, 164, 165, 68, 181, 108, 182, 183, 184, 185, 186, 187, 100, 101, 102, 103, 104, 112, 113] rfl (by decide +kernel) w h).1
set_option maxRecDepth 20000 in
theorem wsL_law0_r3_in : ∀ w ∈ wsL_law0_r3, w ∈ lw_tbl := fun w h => (goodIn_r wsL_law0_r3 [114, 115, 116, 125, 126, 127, 128, 129, 130, 141, 142, 143, 163, 144, 145, 146, 147, 148, 149, 167, 168, 169, 170, 171] rfl (by decide +kernel) w h).1
set_option maxRecDepth 20000 in
theorem wsL_law0_r4_in : ∀ w ∈ wsL_law0_r4, w ∈ lw_tbl := fun w h => (goodIn_r wsL_law0_r4 [1061, 1062, 1063, 1064, 1065, 1066, 1067, 1069, 1071, 1073, 1077, 1078, 320, 321, 62, 322, 323, 324, 325, 326, 327, 328, 330, 1] rfl (by decide +kernel) w h).1
set_option maxRecDepth 20000 in
theorem wsL_law0_r5_in : ∀ w ∈ wsL_law0_r5, w ∈ lw_tbl := fun w h => (goodIn_r wsL_law0_r5 [331, 486, 77, 332, 333, 334, 335, 336, 314, 315, 316, 317, 319, 318, 70, 337, 338, 339, 340, 341, 343, 2, 344, 346] rfl (by decide +kernel) w h).1
set_option maxRecDepth 20000 in
theorem wsL_law0_r6_in : ∀ w ∈ wsL_law0_r6, w ∈ lw_tbl := fun w h => (goodIn_r wsL_law0_r6 [347, 348, 350, 3, 351, 352, 216, 217, 218, 353, 354, 355, 356, 358, 295, 296, 297, 230, 231, 232, 233, 234, 235, 236] rfl (by decide +kernel) w h).1
set_option maxRecDepth 20000 in
theorem wsL_law0_r7_in : ∀ w ∈ wsL_law0_r7, w ∈ lw_tbl := fun w h => (goodIn_r wsL_law0_r7 [359, 360, 361, 362, 363, 364, 365, 366, 367, 368, 369, 370, 371, 372, 373, 374, 375, 376, 377, 378, 379, 380, 381, 383] rfl (by decide +kernel) w h).1
set_option maxRecDepth 20000 in
theorem wsL_law0_r8_in : ∀ w ∈ wsL_law0_r8, w ∈ lw_tbl := fun w h => (goodIn_r wsL_law0_r8 [4, 384, 385, 386, 387, 388, 389, 391, 5, 392, 393, 227, 228, 229, 394, 395, 396, 397, 398, 399, 401, 6, 402, 403] rfl (by decide +kernel) w h).1
set_option maxRecDepth 20000 in
theorem wsL_law0_r9_in : ∀ w ∈ wsL_law0_r9, w ∈ lw_tbl := fun w h => (goodIn_r wsL_law0_r9 [249, 71, 250, 404, 405, 406, 407, 408, 409, 410, 411, 412, 413, 414, 416, 7, 417, 418, 420, 8, 421, 422, 424, 9] rfl (by decide +kernel) w h).1
set_option maxRecDepth 20000 in
theorem wsL_law0_r10_in : ∀ w ∈ wsL_law0_r10, w ∈ lw_tbl := fun w h => (goodIn_r wsL_law0_r10 [425, 426, 238, 239, 240, 428, 429, 430, 432, 10, 433, 435, 436, 438, 439, 440, 441, 442, 443, 444, 445, 447, 11, 448] rfl (by decide +kernel) w h).1
set_option maxRecDepth 20000 in
theorem wsL_law0_r11_in : ∀ w ∈ wsL_law0_r11, w ∈ lw_tbl := fun w h => (goodIn_r wsL_law0_r11 [449, 450, 452, 12, 453, 454, 456, 13, 457, 458, 459, 460, 461, 462, 463, 220, 72, 221, 222, 223, 224, 225, 226, 237] rfl (by decide +kernel) w h).1
set_option maxRecDepth 20000 in
theorem wsL_law0_r12_in : ∀ w ∈ wsL_law0_r12, w ∈ lw_tbl := fun w h => (goodIn_r wsL_law0_r12 [241, 242, 243, 248, 244, 245, 246, 247, 464, 266, 267, 268, 269, 73, 270, 271, 272, 273, 465, 466, 467, 468, 469, 470] rfl (by decide +kernel) w h).1
set_option maxRecDepth 20000 in
theorem wsL_law0_r13_in : ∀ w ∈ wsL_law0_r13, w ∈ lw_tbl := fun w h => (goodIn_r wsL_law0_r13 [471, 472, 473, 474, 476, 14, 477, 478, 479, 480, 481, 482, 483, 484, 485, 558, 559, 560, 561, 562, 563, 564, 1127, 1128] rfl (by decide +kernel) w h).1
set_option maxRecDepth 20000 in
theorem wsL_law0_r14_in : ∀ w ∈ wsL_law0_r14, w ∈ lw_tbl := fun w h => (goodIn_r wsL_law0_r14 [1129, 1130, 1131, 1133, 26, 1134, 1083, 1135, 1137, 27, 1138, 1139, 1140, 1141, 1142, 1144, 28, 1145, 1079, 1080, 1081, 1146, 1148, 29] rfl (by decide +kernel) w h).1
set_option maxRecDepth 20000 in
theorem wsL_law0_r15_in : ∀ w ∈ wsL_law0_r15, w ∈ lw_tbl := fun w h => (goodIn_r wsL_law0_r15 [1149, 1150, 1152, 30, 1153, 1154, 1156, 31, 1157, 1158, 1160, 32, 1161, 1082, 1162, 1164, 33, 1165, 1166, 1168, 34, 1169, 1068, 1170] rfl (by decide +kernel) w h).1
set_option maxRecDepth 20000 in
theorem wsL_law0_r16_in : ∀ w ∈ wsL_law0_r16, w ∈ lw_tbl := fun w h => (goodIn_r wsL_law0_r16 [1172, 35, 1173, 1123, 1124, 1125, 1126, 565, 566, 567, 568, 569, 570, 571, 1174, 1175, 1176, 1177, 1178, 1180, 36, 1181, 1182, 1184] rfl (by decide +kernel) w h).1
set_option maxRecDepth 20000 in
theorem wsL_law0_r17_in : ∀ w ∈ wsL_law0_r17, w ∈ lw_tbl := fun w h => (goodIn_r wsL_law0_r17 [37, 1185, 1186, 1188, 38, 1189, 1190, 1192, 39, 1193, 572, 573, 574, 575, 576, 577, 578, 1194, 1195, 1196, 1197, 1198, 1200, 40] rfl (by decide +kernel) w h).1
set_option maxRecDepth 20000 in
theorem wsL_law0_r18_in : ∀ w ∈ wsL_law0_r18, w ∈ lw_tbl := fun w h => (goodIn_r wsL_law0_r18 [1201, 1202, 1203, 1204, 1205, 1206, 1208, 41, 1209, 579, 580, 581, 582, 583, 584, 585, 1210, 1211, 1212, 1213, 1214, 1216, 42, 1217] rfl (by decide +kernel) w h).1
set_option maxRecDepth 20000 in
theorem wsL_law0_r19_in : ∀ w ∈ wsL_law0_r19, w ∈ lw_tbl := fun w h => (goodIn_r wsL_law0_r19 [586, 587, 588, 589, 590, 591, 592, 1218, 1219, 1220, 1221, 1222, 1224, 43, 1225, 593, 594, 595, 596, 597, 598, 599, 1226, 1227] rfl (by decide +kernel) w h).1
set_option maxRecDepth 20000 in
theorem wsL_law0_r20_in : ∀ w ∈ wsL_law0_r20, w ∈ lw_tbl := fun w h => (goodIn_r wsL_law0_r20 [1228, 1229, 1230, 1232, 44, 1233, 600, 601, 602, 603, 604, 605, 606, 1234, 1235, 1236, 1237, 1238, 1240, 45, 1241, 607, 608, 609] rfl (by decide +kernel) w h).1
set_option maxRecDepth 20000 in
theorem wsL_law0_r21_in : ∀ w ∈ wsL_law0_r21, w ∈ lw_tbl := fun w h => (goodIn_r wsL_law0_r21 [610, 611, 612, 613, 1242, 1243, 1244, 1245, 1246, 1248, 46, 1249, 614, 615, 616, 617, 618, 619, 620, 1250, 1251, 1252, 1253, 1254] rfl (by decide +kernel) w h).1
set_option maxRecDepth 20000 in
theorem wsL_law0_r22_in : ∀ w ∈ wsL_law0_r22, w ∈ lw_tbl := fun w h => (goodIn_r wsL_law0_r22 [1256, 47, 1257, 621, 622, 623, 624, 625, 626, 627, 1258, 1259, 1260, 1261, 1262, 1264, 48, 1265, 1266, 1268, 49, 1269, 1270, 1272] rfl (by decide +kernel) w h).1
set_option maxRecDepth 20000 in
theorem wsL_law0_r23_in : ∀ w ∈ wsL_law0_r23, w ∈ lw_tbl := fun w h => (goodIn_r wsL_law0_r23 [50, 1273, 1274, 1279, 1275, 1277, 51, 1278, 1280, 628, 629, 630, 631, 655, 656, 657, 658, 659, 678, 81, 660, 662, 16, 663] rfl (by decide +kernel) w h).1
set_option maxRecDepth 20000 in
theorem wsL_law0_r24_in : ∀ w ∈ wsL_law0_r24, w ∈ lw_tbl := fun w h => (goodIn_r wsL_law0_r24 [665, 78, 664, 694, 1281, 1282, 1283, 1284, 695, 696, 697, 698, 699, 700, 701, 215, 702, 1285, 1286, 1287, 1288, 703, 704, 705] rfl (by decide +kernel) w h).1
set_option maxRecDepth 20000 in
theorem wsL_law0_r25_in : ∀ w ∈ wsL_law0_r25, w ∈ lw_tbl := fun w h => (goodIn_r wsL_law0_r25 [706, 707, 708, 709, 710, 711, 712, 1289, 1290, 1291, 1292, 1293, 713, 714, 715, 716, 717, 718, 719, 720, 722, 82, 721, 738] rfl (by decide +kernel) w h).1
set_option maxRecDepth 20000 in
theorem wsL_law0_r26_in : ∀ w ∈ wsL_law0_r26, w ∈ lw_tbl := fun w h => (goodIn_r wsL_law0_r26 [1294, 1295, 1296, 1297, 739, 740, 741, 742, 743, 744, 745, 746, 748, 1298, 1299, 1300, 1301, 211, 212, 213, 214, 219, 1302, 1303] rfl (by decide +kernel) w h).1
