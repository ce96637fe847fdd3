set_option maxRecDepth 20000 in
theorem ggL_law_X6_apart : GoodIn wsL_R wsX6_apart := goodIn_r _ [1138, 365, 366, 5, 367, 147, 148, 149, 150, 151, 152, 153, 154, 155, 156, 157, 158, 1139, 1140, 1141, 1142, 1086, 1087, 1088, 1089, 372, 373, 374, 375, 80, 77, 79, 376, 377, 378, 1329, 1330, 1331, 1332, 1333, 1334, 1335, 1336, 1337, 1338] (by decide +kernel) (by decide +kernel)
set_option maxRecDepth 20000 in
theorem gL_law_X6_apart : GoodIn wsL_R (wsV RL 271 RX6 yX6_apart wsX6_apart) := goodIn_app (goodIn_r _ [1135, 1136, 1137, 5] (by decide +kernel) (by decide +kernel)) ggL_law_X6_apart
set_option maxRecDepth 20000 in
theorem ggL_law_L_classes : GoodIn wsL_R wsL_classes := goodIn_ca (goodIn_r _ [1145, 88, 1146, 1147, 1148, 2, 1149, 310, 311, 312, 313, 98, 99, 18, 918, 350, 351, 31, 352, 68, 1339, 1340, 1320, 1321, 1322, 1323, 1324, 1325, 1326, 1327, 1328, 1349, 1350, 1351, 1352, 1353, 1354] (by decide +kernel) (by decide +kernel)) (goodIn_sub (fun w9 h => law_R w9 (List.mem_append_left _ (List.mem_append_right _ h))) (by decide +kernel))
set_option maxRecDepth 20000 in
theorem gL_law_L_classes : GoodIn wsL_R (va_wsS RL 272 yL_classes wsL_classes) := goodIn_app (goodIn_r _ [1143, 1144, 86] (by decide +kernel) (by decide +kernel)) ggL_law_L_classes
set_option maxRecDepth 20000 in
theorem ggL_law_X6_classes : GoodIn wsL_R wsX6_classes := goodIn_r _ [1153, 365, 366, 5, 367, 147, 148, 149, 150, 151, 152, 153, 154, 155, 156, 157, 158, 927, 928, 929, 930, 745, 746, 747, 748, 372, 373, 374, 375, 80, 77, 79, 376, 377, 378, 1329, 1330, 1331, 1332, 1333, 1334, 1335, 1336, 1337, 1338] (by decide +kernel) (by decide +kernel)
set_option maxRecDepth 20000 in
theorem gL_law_X6_classes : GoodIn wsL_R (wsV RL 274 RX6 yX6_classes wsX6_classes) := goodIn_app (goodIn_r _ [1150, 1151, 1152, 5] (by decide +kernel) (by decide +kernel)) ggL_law_X6_classes
set_option maxRecDepth 20000 in
theorem ggL_law_L_rank : GoodIn wsL_R wsL_rank := goodIn_ca (goodIn_ca (goodIn_r _ [1156, 88, 89, 1157, 1158, 1159, 2, 1160, 310, 311, 312, 313, 98, 99, 18, 100, 101, 102, 103, 104, 105, 106, 107, 736, 354, 355, 31, 356, 66, 1339, 1340, 1320, 1321, 1322, 1323, 1324, 1325, 1326, 1327, 1328, 1349, 1350, 1351, 1352, 1353, 1354] (by decide +kernel) (by decide +kernel)) (goodIn_sub (fun w9 h => law_R w9 (List.mem_append_left _ (List.mem_append_right _ h))) (by decide +kernel))) (goodIn_sub (fun w9 h => law_R w9 (List.mem_append_right _ h)) (by decide +kernel))
set_option maxRecDepth 20000 in
theorem gL_law_L_rank : GoodIn wsL_R (va_wsS RL 275 yL_rank wsL_rank) := goodIn_app (goodIn_r _ [1154, 1155, 86] (by decide +kernel) (by decide +kernel)) ggL_law_L_rank
set_option maxRecDepth 20000 in
theorem ggL_law_X6_rank : GoodIn wsL_R wsX6_rank := goodIn_r _ [1164, 365, 366, 5, 367, 147, 148, 149, 150, 151, 152, 153, 154, 155, 156, 157, 158, 159, 160, 161, 741, 742, 743, 744, 745, 746, 747, 748, 372, 373, 374, 375, 80, 77, 79, 376, 377, 378, 1329, 1330, 1331, 1332, 1333, 1334, 1335, 1336, 1337, 1338] (by decide +kernel) (by decide +kernel)
set_option maxRecDepth 20000 in
theorem gL_law_X6_rank : GoodIn wsL_R (wsV RL 277 RX6 yX6_rank wsX6_rank) := goodIn_app (goodIn_r _ [1161, 1162, 1163, 5] (by decide +kernel) (by decide +kernel)) ggL_law_X6_rank
set_option maxRecDepth 20000 in
theorem ggL_law_L_keyOf : GoodIn wsL_R wsL_keyOf := goodIn_ca (goodIn_r _ [1167, 89, 1168, 1169, 1170, 2, 1171, 103, 104, 105, 106, 107, 100, 101, 102, 1036, 898, 31, 899, 900, 901, 598, 902, 903, 904, 905, 1339, 1340] (by decide +kernel) (by decide +kernel)) (goodIn_sub (fun w9 h => law_R w9 (List.mem_append_right _ h)) (by decide +kernel))
set_option maxRecDepth 20000 in
theorem gL_law_L_keyOf : GoodIn wsL_R (va_wsS RL 278 yL_keyOf wsL_keyOf) := goodIn_app (goodIn_r _ [1165, 1166, 86] (by decide +kernel) (by decide +kernel)) ggL_law_L_keyOf
set_option maxRecDepth 20000 in
theorem ggL_law_X6_keyOf : GoodIn wsL_R wsX6_keyOf := goodIn_r _ [1175, 147, 148, 5, 149, 159, 160, 161, 150, 151, 152, 153, 154, 155, 156, 157, 158, 376, 377, 378, 1329, 1330, 1331, 1332, 1333, 1334, 1335, 1336, 1337, 1338] (by decide +kernel) (by decide +kernel)
set_option maxRecDepth 20000 in
theorem gL_law_X6_keyOf : GoodIn wsL_R (wsV RL 280 RX6 yX6_keyOf wsX6_keyOf) := goodIn_app (goodIn_r _ [1172, 1173, 1174, 5] (by decide +kernel) (by decide +kernel)) ggL_law_X6_keyOf
set_option maxRecDepth 20000 in
theorem ggL_law_X4_knock : GoodIn wsL_R wsX4_knock := goodIn_r _ [1179, 35, 1320, 1321, 1322, 1323, 1324, 1325, 1326, 1327, 1328] (by decide +kernel) (by decide +kernel)
set_option maxRecDepth 20000 in
theorem gL_law_X4_knock : GoodIn wsL_R (wsV RL 281 RX4 yX4_knock wsX4_knock) := goodIn_app (goodIn_r _ [1176, 1177, 1178, 2] (by decide +kernel) (by decide +kernel)) ggL_law_X4_knock
set_option maxRecDepth 20000 in
theorem ggL_law_X6_knock : GoodIn wsL_R wsX6_knock := goodIn_r _ [1183, 154, 1184, 1329, 1330, 1331, 1332, 1333, 1334, 1335, 1336, 1337, 1338] (by decide +kernel) (by decide +kernel)
set_option maxRecDepth 20000 in
theorem gL_law_X6_knock : GoodIn wsL_R (wsV RL 285 RX6 yX6_knock wsX6_knock) := goodIn_app (goodIn_r _ [1180, 1181, 1182, 5] (by decide +kernel) (by decide +kernel)) ggL_law_X6_knock
set_option maxRecDepth 20000 in
theorem ggL_law_L_house : GoodIn wsL_R wsL_house := goodIn_ca (goodIn_ca (goodIn_r _ [1187, 89, 1188, 1189, 1190, 2, 1191, 103, 104, 105, 106, 107, 1192, 1193, 1194, 1195, 33, 34, 35, 1196, 1197, 1198, 1199, 94, 95, 96, 97, 98, 99, 16, 108, 109, 110, 28, 111, 47, 1200, 1201, 1202, 1203, 310, 311, 312, 313, 18, 880, 881, 882, 31, 883, 67, 1339, 1340, 1320, 1321, 1322, 1323, 1324, 1325, 1326, 1327, 1328, 1346, 1347, 1348, 1349, 1350, 1351, 1352, 1353, 1354] (by decide +kernel) (by decide +kernel)) (goodIn_sub (fun w9 h => law_R w9 (List.mem_append_right _ h)) (by decide +kernel))) (goodIn_sub (fun w9 h => law_R w9 (List.mem_append_left _ (List.mem_append_right _ h))) (by decide +kernel))
set_option maxRecDepth 20000 in
theorem gL_law_L_house : GoodIn wsL_R (va_wsS RL 286 yL_house wsL_house) := goodIn_app (goodIn_r _ [1185, 1186, 86] (by decide +kernel) (by decide +kernel)) ggL_law_L_house
set_option maxRecDepth 20000 in
theorem ggL_law_X6_house : GoodIn wsL_R wsX6_house := goodIn_r _ [1207, 147, 148, 5, 149, 150, 151, 152, 153, 154, 155, 156, 157, 158, 1208, 1209, 1210, 1211, 76, 80, 171, 166, 1184, 1329, 1330, 1331, 1332, 1333, 1334, 1335, 1336, 1337, 1338] (by decide +kernel) (by decide +kernel)
set_option maxRecDepth 20000 in
theorem gL_law_X6_house : GoodIn wsL_R (wsV RL 288 RX6 yX6_house wsX6_house) := goodIn_app (goodIn_r _ [1204, 1205, 1206, 5] (by decide +kernel) (by decide +kernel)) ggL_law_X6_house
set_option maxRecDepth 20000 in
theorem ggL_law_X4_isSound : GoodIn wsL_R wsX4_isSound := goodIn_ca (goodIn_r _ [1215, 26, 310, 311, 312, 2, 313, 98, 99, 18, 1216, 1217, 1218, 25, 1219, 1220, 325, 326, 31, 327, 65, 1221, 1222, 1223, 1224, 1225, 1226, 1227, 1228, 354, 355, 356, 66, 1229, 350, 351, 352, 68, 94, 95, 96, 97, 16, 1230, 1231, 1232, 1233, 54, 52, 55, 1234, 243, 244, 28, 245, 47, 246, 109, 110, 111, 128, 129, 130, 131, 45, 132, 133, 134, 135, 46, 136, 137, 138, 139, 1235, 315, 316, 21, 317, 318, 319, 320, 321, 322, 323, 324, 328, 263, 264, 265, 329, 330, 331, 332, 40, 333, 334, 335, 336, 337, 228, 229, 230, 338, 339, 340, 341, 342, 343, 194, 195, 196, 344, 345, 346, 347, 348, 349, 353, 1236, 1237, 1238, 1239, 1240, 1241, 1242, 1243, 1244, 399, 400, 401, 402, 1245, 1246, 1247, 1248, 57, 1249, 259, 260, 261, 262, 1250, 973, 974, 975, 67, 976, 881, 882, 883, 977, 978, 979, 980, 981, 939, 940, 941, 61, 982, 983, 984, 985, 63, 888, 889, 890, 891, 892, 893, 894, 895, 896, 897, 898, 899, 900, 901, 598, 902, 903, 904, 905, 906, 907, 908, 909, 910, 911, 912, 913, 914, 915, 916, 917, 1251, 998, 999, 1000, 1252, 1253, 1254, 1255, 1256, 1257, 733, 734, 735, 1258, 1259, 213, 214, 215, 1260, 1261, 1262, 1263, 1264, 1098, 1099, 1100, 1101, 1265, 1017, 1018, 1019, 1266, 1267, 1268, 1269, 1270, 1271, 1272, 1273, 1274, 1275, 1276, 1277, 1278, 1279, 1280, 1281, 1282, 1320, 1321, 1322, 1323, 1324, 1325, 1326, 1327, 1328, 1349, 1350, 1351, 1352, 1353, 1354, 1342, 1343, 1344, 1345, 1346, 1347, 1348, 1341] (by decide +kernel) (by decide +kernel)) (goodIn_sub (fun w9 h => law_R w9 (List.mem_append_left _ (List.mem_append_right _ h))) (by decide +kernel))
set_option maxRecDepth 20000 in
theorem gL_law_X4_isSound : GoodIn wsL_R (wsV RL 289 RX4 yX4_isSound wsX4_isSound) := goodIn_app (goodIn_r _ [1212, 1213, 1214, 2] (by decide +kernel) (by decide +kernel)) ggL_law_X4_isSound
set_option maxRecDepth 20000 in
theorem ggL_law_X6_isSound : GoodIn wsL_R wsX6_isSound := goodIn_r _ [1286, 154, 1329, 1330, 1331, 1332, 1333, 1334, 1335, 1336, 1337, 1338] (by decide +kernel) (by decide +kernel)
set_option maxRecDepth 20000 in
theorem gL_law_X6_isSound : GoodIn wsL_R (wsV RL 293 RX6 yX6_isSound wsX6_isSound) := goodIn_app (goodIn_r _ [1283, 1284, 1285, 5] (by decide +kernel) (by decide +kernel)) ggL_law_X6_isSound
set_option maxRecDepth 20000 in
theorem gdg_h : GoodIn wsL_R [.code yX4_digest cX4_digest 4 (some .long)] := goodIn_r _ [1290] (by decide +kernel) (by decide +kernel)
set_option maxRecDepth 20000 in
theorem gdg_0 : GoodIn wsL_R wsX4_digest_r1 := goodIn_r _ [1291, 1192, 1193, 1194, 2, 1195, 33, 34, 35, 1196, 1197, 1198, 1199, 94, 95, 96, 97, 98, 99, 16, 108, 109, 110, 28] (by decide +kernel) (by decide +kernel)
set_option maxRecDepth 20000 in
theorem gdg_1 : GoodIn wsL_R wsX4_digest_r2 := goodIn_r _ [111, 47, 1200, 1201, 1202, 1203, 310, 311, 312, 313, 18, 880, 881, 882, 31, 883, 67, 1292, 1293, 1294, 1295, 1296, 1297, 1298] (by decide +kernel) (by decide +kernel)
set_option maxRecDepth 20000 in
theorem gdg_2 : GoodIn wsL_R wsX4_digest_r3 := goodIn_r _ [1299, 285, 129, 130, 131, 45, 211, 133, 134, 135, 46, 1300, 1301, 1302, 1303, 938, 939, 940, 941, 61, 1304, 983, 984, 985] (by decide +kernel) (by decide +kernel)
set_option maxRecDepth 20000 in
theorem gdg_3 : GoodIn wsL_R wsX4_digest_r4 := goodIn_r _ [63, 918, 350, 351, 352, 68, 736, 354, 355, 356, 66, 1305, 1306, 1307, 1308, 1132, 1133, 1134, 1079, 1080, 1081, 1031, 325, 326] (by decide +kernel) (by decide +kernel)
set_option maxRecDepth 20000 in
theorem gdg_4 : GoodIn wsL_R wsX4_digest_r5 := goodIn_r _ [327, 65, 1097, 1098, 1099, 1100, 1101, 1309, 1310, 1311, 1312, 797, 798, 799, 800, 801, 802, 803, 804, 128, 402, 398, 399, 400] (by decide +kernel) (by decide +kernel)
set_option maxRecDepth 20000 in
theorem gdg_5 : GoodIn wsL_R wsX4_digest_r6 := goodIn_r _ [401, 1313, 1213, 1214, 1215, 26, 1216, 1217, 1218, 25, 1219, 1220, 1221, 1222, 1223, 1224, 1225, 1226, 1227, 1228, 1229, 1230, 1231, 1232] (by decide +kernel) (by decide +kernel)
set_option maxRecDepth 20000 in
theorem gdg_6 : GoodIn wsL_R wsX4_digest_r7 := goodIn_r _ [1233, 54, 52, 55, 1234, 243, 244, 245, 246, 132, 136, 137, 138, 139, 1235, 315, 316, 21, 317, 318, 319, 320, 321, 322] (by decide +kernel) (by decide +kernel)
set_option maxRecDepth 20000 in
theorem gdg_7 : GoodIn wsL_R wsX4_digest_r8 := goodIn_r _ [323, 324, 328, 263, 264, 265, 329, 330, 331, 332, 40, 333, 334, 335, 336, 337, 228, 229, 230, 338, 339, 340, 341, 342] (by decide +kernel) (by decide +kernel)
set_option maxRecDepth 20000 in
theorem gdg_8 : GoodIn wsL_R wsX4_digest_r9 := goodIn_r _ [343, 194, 195, 196, 344, 345, 346, 347, 348, 349, 353, 1236, 1237, 1238, 1239, 1240, 1241, 1242, 1243, 1244, 1245, 1246, 1247, 1248] (by decide +kernel) (by decide +kernel)
set_option maxRecDepth 20000 in
theorem gdg_9 : GoodIn wsL_R wsX4_digest_r10 := goodIn_r _ [57, 1249, 259, 260, 261, 262, 1250, 973, 974, 975, 976, 977, 978, 979, 980, 981, 982, 888, 889, 890, 891, 892, 893, 894] (by decide +kernel) (by decide +kernel)
set_option maxRecDepth 20000 in
theorem gdg_10 : GoodIn wsL_R wsX4_digest_r11 := goodIn_r _ [895, 896, 897, 898, 899, 900, 901, 598, 902, 903, 904, 905, 906, 907, 908, 909, 910, 911, 912, 913, 914, 915, 916, 917] (by decide +kernel) (by decide +kernel)
set_option maxRecDepth 20000 in
theorem gdg_11 : GoodIn wsL_R wsX4_digest_r12 := goodIn_r _ [1251, 998, 999, 1000, 1252, 1253, 1254, 1255, 1256, 1257, 733, 734, 735, 1258, 1259, 213, 214, 215, 1260, 1261, 1262, 1263, 1264, 1265] (by decide +kernel) (by decide +kernel)
set_option maxRecDepth 20000 in
theorem gdg_12 : GoodIn wsL_R wsX4_digest_r13 := goodIn_r _ [1017, 1018, 1019, 1266, 1267, 1268, 1269, 1270, 1271, 1272, 1273, 1274, 1275, 1276, 1277, 1278, 1279, 1280, 1281, 1282] (by decide +kernel) (by decide +kernel)
set_option maxRecDepth 20000 in
theorem gdg_13 : GoodIn wsL_R wsX40 := goodIn_r _ [1320, 1321, 1322, 1323, 1324, 1325, 1326, 1327, 1328] (by decide +kernel) (by decide +kernel)
set_option maxRecDepth 20000 in
theorem gdg_14 : GoodIn wsL_R wsX20 := goodIn_r _ [1346, 1347, 1348] (by decide +kernel) (by decide +kernel)
set_option maxRecDepth 20000 in
theorem gdg_15 : GoodIn wsL_R wsX10 := goodIn_r _ [1349, 1350, 1351, 1352, 1353, 1354] (by decide +kernel) (by decide +kernel)
set_option maxRecDepth 20000 in
theorem gdg_16 : GoodIn wsL_R wsX00 := goodIn_r _ [1342, 1343, 1344, 1345] (by decide +kernel) (by decide +kernel)
set_option maxRecDepth 20000 in
theorem gdg_17 : GoodIn wsL_R wsX30 := goodIn_r _ [1341] (by decide +kernel) (by decide +kernel)
theorem ggL_law_X4_digest : GoodIn wsL_R wsX4_digest := goodIn_app (a := [.code yX4_digest cX4_digest 4 (some .long)]) gdg_h (goodIn_app (goodIn_app (goodIn_app (goodIn_app (goodIn_app (goodIn_app (goodIn_app (gdg_0) (goodIn_app (gdg_1) (goodIn_app (gdg_2) (goodIn_app (gdg_3) (goodIn_app (gdg_4) (goodIn_app (gdg_5) (goodIn_app (gdg_6) (goodIn_app (gdg_7) (goodIn_app (gdg_8) (goodIn_app (gdg_9) (goodIn_app (gdg_10) (goodIn_app (gdg_11) (gdg_12))))))))))))) (gdg_13)) (gdg_14)) (gdg_15)) (gdg_16)) (gdg_17)) (goodIn_sub (fun w9 h => law_R w9 (List.mem_append_left _ (List.mem_append_right _ h))) (by decide +kernel)))
set_option maxRecDepth 20000 in
theorem gL_law_X4_digest : GoodIn wsL_R (wsV RL 294 RX4 yX4_digest wsX4_digest) := goodIn_app (goodIn_r _ [1287, 1288, 1289, 2] (by decide +kernel) (by decide +kernel)) ggL_law_X4_digest
set_option maxRecDepth 20000 in
theorem ggL_law_X6_digest : GoodIn wsL_R wsX6_digest := goodIn_r _ [1317, 154, 1318, 1319, 76, 74, 75, 80, 77, 79, 1208, 1209, 1210, 5, 1211, 171, 166, 1184, 927, 928, 929, 930, 745, 746, 747, 748, 372, 373, 374, 375, 376, 377, 378, 741, 742, 743, 744, 1139, 1140, 1141, 1142, 1086, 1087, 1088, 1089, 1106, 1107, 1108, 1109, 809, 810, 811, 812, 813, 814, 815, 816, 407, 408, 409, 410, 1329, 1330, 1331, 1332, 1333, 1334, 1335, 1336, 1337, 1338] (by decide +kernel) (by decide +kernel)
set_option maxRecDepth 20000 in
theorem gL_law_X6_digest : GoodIn wsL_R (wsV RL 298 RX6 yX6_digest wsX6_digest) := goodIn_app (goodIn_r _ [1314, 1315, 1316, 5] (by decide +kernel) (by decide +kernel)) ggL_law_X6_digest
