set_option maxRecDepth 20000 in
theorem wsL_law0_r1_in : ∀ w ∈ wsL_law0_r1, w ∈ lw_tbl := fun w h => (goodIn_r wsL_law0_r1 [90, 91, 63, 1056, 1057, 69, 1516, 1517, 92, 93, 94, 95, 96, 97, 98, 99, 64, 177, 109, 110, 65, 178, 122, 123] rfl (by decide +kernel) w h).1
set_option maxRecDepth 20000 in
theorem wsL_law0_r2_in : ∀ w ∈ wsL_law0_r2, w ∈ lw_tbl := fun w h => (goodIn_r wsL_law0_r2 [66, 179, 138, 139, 67, 180, 164, 165, 68, 181, 108, 182, 183, 184, 185, 186, 187, 100, 101, 102, 103, 104, 112, 113] rfl (by decide +kernel) w h).1
set_option maxRecDepth 20000 in
theorem wsL_law0_r3_in : ∀ w ∈ wsL_law0_r3, w ∈ lw_tbl := fun w h => (goodIn_r wsL_law0_r3 [114, 115, 116, 125, 126, 127, 128, 129, 130, 141, 142, 143, 163, 144, 145, 146, 147, 148, 149, 167, 168, 169, 170, 171] rfl (by decide +kernel) w h).1
set_option maxRecDepth 20000 in
theorem wsL_law0_r4_in : ∀ w ∈ wsL_law0_r4, w ∈ lw_tbl := fun w h => (goodIn_r wsL_law0_r4 [1058, 1059, 1060, 1061, 1062, 1063, 1064, 1066, 1068, 1070, 1074, 1075, 317, 318, 62, 319, 320, 321, 322, 323, 324, 325, 327, 1] rfl (by decide +kernel) w h).1
set_option maxRecDepth 20000 in
theorem wsL_law0_r5_in : ∀ w ∈ wsL_law0_r5, w ∈ lw_tbl := fun w h => (goodIn_r wsL_law0_r5 [328, 483, 77, 329, 330, 331, 332, 333, 311, 312, 313, 314, 316, 315, 70, 334, 335, 336, 337, 338, 340, 2, 341, 343] rfl (by decide +kernel) w h).1
set_option maxRecDepth 20000 in
theorem wsL_law0_r6_in : ∀ w ∈ wsL_law0_r6, w ∈ lw_tbl := fun w h => (goodIn_r wsL_law0_r6 [344, 345, 347, 3, 348, 349, 216, 217, 218, 350, 351, 352, 353, 355, 292, 293, 294, 230, 231, 232, 233, 356, 357, 358] rfl (by decide +kernel) w h).1
set_option maxRecDepth 20000 in
theorem wsL_law0_r7_in : ∀ w ∈ wsL_law0_r7, w ∈ lw_tbl := fun w h => (goodIn_r wsL_law0_r7 [359, 360, 361, 362, 363, 364, 365, 366, 367, 368, 369, 370, 371, 372, 373, 374, 375, 376, 377, 378, 380, 4, 381, 382] rfl (by decide +kernel) w h).1
set_option maxRecDepth 20000 in
theorem wsL_law0_r8_in : ∀ w ∈ wsL_law0_r8, w ∈ lw_tbl := fun w h => (goodIn_r wsL_law0_r8 [383, 384, 385, 386, 388, 5, 389, 390, 227, 228, 229, 391, 392, 393, 394, 395, 396, 398, 6, 399, 400, 246, 71, 247] rfl (by decide +kernel) w h).1
set_option maxRecDepth 20000 in
theorem wsL_law0_r9_in : ∀ w ∈ wsL_law0_r9, w ∈ lw_tbl := fun w h => (goodIn_r wsL_law0_r9 [401, 402, 403, 404, 405, 406, 407, 408, 409, 410, 411, 413, 7, 414, 415, 417, 8, 418, 419, 421, 9, 422, 423, 235] rfl (by decide +kernel) w h).1
set_option maxRecDepth 20000 in
theorem wsL_law0_r10_in : ∀ w ∈ wsL_law0_r10, w ∈ lw_tbl := fun w h => (goodIn_r wsL_law0_r10 [236, 237, 425, 426, 427, 429, 10, 430, 432, 433, 435, 436, 437, 438, 439, 440, 441, 442, 444, 11, 445, 446, 447, 449] rfl (by decide +kernel) w h).1
set_option maxRecDepth 20000 in
theorem wsL_law0_r11_in : ∀ w ∈ wsL_law0_r11, w ∈ lw_tbl := fun w h => (goodIn_r wsL_law0_r11 [12, 450, 451, 453, 13, 454, 455, 456, 457, 458, 459, 460, 220, 72, 221, 222, 223, 224, 225, 226, 234, 238, 239, 240] rfl (by decide +kernel) w h).1
set_option maxRecDepth 20000 in
theorem wsL_law0_r12_in : ∀ w ∈ wsL_law0_r12, w ∈ lw_tbl := fun w h => (goodIn_r wsL_law0_r12 [245, 241, 242, 243, 244, 461, 263, 264, 265, 266, 73, 267, 268, 269, 270, 462, 463, 464, 465, 466, 467, 468, 469, 470] rfl (by decide +kernel) w h).1
set_option maxRecDepth 20000 in
theorem wsL_law0_r13_in : ∀ w ∈ wsL_law0_r13, w ∈ lw_tbl := fun w h => (goodIn_r wsL_law0_r13 [471, 473, 14, 474, 475, 476, 477, 478, 479, 480, 481, 482, 555, 556, 557, 558, 559, 560, 561, 1124, 1125, 1126, 1127, 1128] rfl (by decide +kernel) w h).1
set_option maxRecDepth 20000 in
theorem wsL_law0_r14_in : ∀ w ∈ wsL_law0_r14, w ∈ lw_tbl := fun w h => (goodIn_r wsL_law0_r14 [1130, 26, 1131, 1080, 1132, 1134, 27, 1135, 1136, 1137, 1138, 1139, 1141, 28, 1142, 1076, 1077, 1078, 1143, 1145, 29, 1146, 1147, 1149] rfl (by decide +kernel) w h).1
set_option maxRecDepth 20000 in
theorem wsL_law0_r15_in : ∀ w ∈ wsL_law0_r15, w ∈ lw_tbl := fun w h => (goodIn_r wsL_law0_r15 [30, 1150, 1151, 1153, 31, 1154, 1155, 1157, 32, 1158, 1079, 1159, 1161, 33, 1162, 1163, 1165, 34, 1166, 1065, 1167, 1169, 35, 1170] rfl (by decide +kernel) w h).1
set_option maxRecDepth 20000 in
theorem wsL_law0_r16_in : ∀ w ∈ wsL_law0_r16, w ∈ lw_tbl := fun w h => (goodIn_r wsL_law0_r16 [1120, 1121, 1122, 1123, 562, 563, 564, 565, 566, 567, 568, 1171, 1172, 1173, 1174, 1175, 1177, 36, 1178, 1179, 1181, 37, 1182, 1183] rfl (by decide +kernel) w h).1
set_option maxRecDepth 20000 in
theorem wsL_law0_r17_in : ∀ w ∈ wsL_law0_r17, w ∈ lw_tbl := fun w h => (goodIn_r wsL_law0_r17 [1185, 38, 1186, 1187, 1189, 39, 1190, 569, 570, 571, 572, 573, 574, 575, 1191, 1192, 1193, 1194, 1195, 1197, 40, 1198, 1199, 1200] rfl (by decide +kernel) w h).1
set_option maxRecDepth 20000 in
theorem wsL_law0_r18_in : ∀ w ∈ wsL_law0_r18, w ∈ lw_tbl := fun w h => (goodIn_r wsL_law0_r18 [1201, 1202, 1203, 1205, 41, 1206, 576, 577, 578, 579, 580, 581, 582, 1207, 1208, 1209, 1210, 1211, 1213, 42, 1214, 583, 584, 585] rfl (by decide +kernel) w h).1
set_option maxRecDepth 20000 in
theorem wsL_law0_r19_in : ∀ w ∈ wsL_law0_r19, w ∈ lw_tbl := fun w h => (goodIn_r wsL_law0_r19 [586, 587, 588, 589, 1215, 1216, 1217, 1218, 1219, 1221, 43, 1222, 590, 591, 592, 593, 594, 595, 596, 1223, 1224, 1225, 1226, 1227] rfl (by decide +kernel) w h).1
set_option maxRecDepth 20000 in
theorem wsL_law0_r20_in : ∀ w ∈ wsL_law0_r20, w ∈ lw_tbl := fun w h => (goodIn_r wsL_law0_r20 [1229, 44, 1230, 597, 598, 599, 600, 601, 602, 603, 1231, 1232, 1233, 1234, 1235, 1237, 45, 1238, 604, 605, 606, 607, 608, 609] rfl (by decide +kernel) w h).1
set_option maxRecDepth 20000 in
theorem wsL_law0_r21_in : ∀ w ∈ wsL_law0_r21, w ∈ lw_tbl := fun w h => (goodIn_r wsL_law0_r21 [610, 1239, 1240, 1241, 1242, 1243, 1245, 46, 1246, 611, 612, 613, 614, 615, 616, 617, 1247, 1248, 1249, 1250, 1251, 1253, 47, 1254] rfl (by decide +kernel) w h).1
set_option maxRecDepth 20000 in
theorem wsL_law0_r22_in : ∀ w ∈ wsL_law0_r22, w ∈ lw_tbl := fun w h => (goodIn_r wsL_law0_r22 [618, 619, 620, 621, 622, 623, 624, 1255, 1256, 1257, 1258, 1259, 1261, 48, 1262, 1263, 1265, 49, 1266, 1267, 1269, 50, 1270, 1271] rfl (by decide +kernel) w h).1
set_option maxRecDepth 20000 in
theorem wsL_law0_r23_in : ∀ w ∈ wsL_law0_r23, w ∈ lw_tbl := fun w h => (goodIn_r wsL_law0_r23 [1276, 1272, 1274, 51, 1275, 1277, 625, 626, 627, 628, 652, 653, 654, 655, 656, 675, 81, 657, 659, 16, 660, 662, 78, 661] rfl (by decide +kernel) w h).1
set_option maxRecDepth 20000 in
theorem wsL_law0_r24_in : ∀ w ∈ wsL_law0_r24, w ∈ lw_tbl := fun w h => (goodIn_r wsL_law0_r24 [691, 1278, 1279, 1280, 1281, 692, 693, 694, 695, 696, 697, 698, 215, 699, 1282, 1283, 1284, 1285, 700, 701, 702, 703, 704, 705] rfl (by decide +kernel) w h).1
set_option maxRecDepth 20000 in
theorem wsL_law0_r25_in : ∀ w ∈ wsL_law0_r25, w ∈ lw_tbl := fun w h => (goodIn_r wsL_law0_r25 [706, 707, 708, 709, 1286, 1287, 1288, 1289, 1290, 710, 711, 712, 713, 714, 715, 716, 717, 719, 82, 718, 735, 1291, 1292, 1293] rfl (by decide +kernel) w h).1
set_option maxRecDepth 20000 in
theorem wsL_law0_r26_in : ∀ w ∈ wsL_law0_r26, w ∈ lw_tbl := fun w h => (goodIn_r wsL_law0_r26 [1294, 736, 737, 738, 739, 740, 741, 742, 743, 745, 1295, 1296, 1297, 1298, 211, 212, 213, 214, 219, 1299, 1300, 1301, 1302, 248] rfl (by decide +kernel) w h).1
