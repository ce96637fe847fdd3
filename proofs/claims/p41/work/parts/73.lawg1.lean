set_option maxRecDepth 20000 in
theorem ggL_law_X4_init : GoodIn wsL_R wsX4_init := goodIn_r _ [11, 12, 13, 14, 15, 16, 17, 18, 19, 20, 21, 22, 23, 24, 25, 26, 27, 28, 29, 30, 31, 32, 33, 34, 35, 36, 37, 38, 39, 40, 41, 42, 43, 44, 45, 46, 47, 48, 49, 50, 51, 52, 53, 54, 55, 56, 57, 58, 59, 60, 61, 62, 63, 64, 65, 66, 67, 68, 1320, 1321, 1322, 1323, 1324, 1325, 1326, 1327, 1328, 1341, 1342, 1343, 1344, 1345, 1346, 1347, 1348, 1349, 1350, 1351, 1352, 1353, 1354] (by decide +kernel) (by decide +kernel)
set_option maxRecDepth 20000 in
theorem gL_law_X4_init : GoodIn wsL_R (wsX4_init) := ggL_law_X4_init
set_option maxRecDepth 20000 in
theorem ggL_law_X6_init : GoodIn wsL_R wsX6_init := goodIn_r _ [71, 72, 13, 14, 73, 44, 74, 75, 76, 77, 78, 62, 79, 80, 1329, 1330, 1331, 1332, 1333, 1334, 1335, 1336, 1337, 1338] (by decide +kernel) (by decide +kernel)
set_option maxRecDepth 20000 in
theorem gL_law_X6_init : GoodIn wsL_R (wsX6_init) := ggL_law_X6_init
set_option maxRecDepth 20000 in
theorem ggL_law_X5_init : GoodIn wsL_R wsX5_init := goodIn_r _ [82, 83, 13, 14] (by decide +kernel) (by decide +kernel)
set_option maxRecDepth 20000 in
theorem gL_law_X5_init_n156 : GoodIn wsL_R (wsX5_init) := ggL_law_X5_init
set_option maxRecDepth 20000 in
theorem ggL_law_L_put : GoodIn wsL_R wsL_put := goodIn_ca (goodIn_ca (goodIn_r _ [87, 88, 89, 90, 91, 92, 2, 93, 94, 95, 96, 97, 98, 99, 16, 100, 101, 102, 103, 104, 105, 106, 107, 108, 109, 110, 28, 111, 47, 112, 113, 114, 115, 116, 117, 118, 119, 34, 120, 121, 122, 123, 33, 124, 125, 126, 127, 128, 129, 130, 131, 45, 132, 133, 134, 135, 46, 136, 137, 138, 139, 1339, 1340, 1320, 1321, 1322, 1323, 1324, 1325, 1326, 1327, 1328, 1346, 1347, 1348] (by decide +kernel) (by decide +kernel)) (goodIn_sub (fun w9 h => law_R w9 (List.mem_append_left _ (List.mem_append_right _ h))) (by decide +kernel))) (goodIn_sub (fun w9 h => law_R w9 (List.mem_append_right _ h)) (by decide +kernel))
set_option maxRecDepth 20000 in
theorem gL_law_L_put : GoodIn wsL_R (va_wsS RL 157 yL_put wsL_put) := goodIn_app (goodIn_r _ [84, 85, 86] (by decide +kernel) (by decide +kernel)) ggL_law_L_put
set_option maxRecDepth 20000 in
theorem ggL_law_X6_put : GoodIn wsL_R wsX6_put := goodIn_r _ [143, 76, 144, 145, 5, 146, 147, 148, 149, 150, 151, 152, 153, 154, 155, 156, 157, 158, 159, 160, 161, 162, 163, 164, 165, 166, 167, 168, 169, 170, 74, 75, 171, 1329, 1330, 1331, 1332, 1333, 1334, 1335, 1336, 1337, 1338] (by decide +kernel) (by decide +kernel)
set_option maxRecDepth 20000 in
theorem gL_law_X6_put : GoodIn wsL_R (wsV RL 162 RX6 yX6_put wsX6_put) := goodIn_app (goodIn_r _ [140, 141, 142, 5] (by decide +kernel) (by decide +kernel)) ggL_law_X6_put
set_option maxRecDepth 20000 in
theorem ggL_law_L_putAt : GoodIn wsL_R wsL_putAt := goodIn_ca (goodIn_ca (goodIn_r _ [174, 88, 89, 175, 176, 177, 2, 178, 94, 95, 96, 97, 98, 99, 16, 179, 180, 181, 108, 109, 110, 28, 111, 47, 100, 101, 102, 103, 104, 105, 106, 107, 112, 113, 114, 115, 116, 117, 118, 119, 34, 120, 121, 122, 123, 33, 124, 125, 126, 127, 128, 129, 130, 131, 45, 132, 133, 134, 135, 46, 136, 137, 138, 139, 1339, 1340, 1320, 1321, 1322, 1323, 1324, 1325, 1326, 1327, 1328, 1346, 1347, 1348] (by decide +kernel) (by decide +kernel)) (goodIn_sub (fun w9 h => law_R w9 (List.mem_append_left _ (List.mem_append_right _ h))) (by decide +kernel))) (goodIn_sub (fun w9 h => law_R w9 (List.mem_append_right _ h)) (by decide +kernel))
set_option maxRecDepth 20000 in
theorem gL_law_L_putAt : GoodIn wsL_R (va_wsS RL 163 yL_putAt wsL_putAt) := goodIn_app (goodIn_r _ [172, 173, 86] (by decide +kernel) (by decide +kernel)) ggL_law_L_putAt
set_option maxRecDepth 20000 in
theorem ggL_law_X6_putAt : GoodIn wsL_R wsX6_putAt := goodIn_r _ [185, 76, 144, 145, 5, 146, 147, 148, 149, 150, 151, 152, 153, 154, 155, 156, 157, 158, 159, 160, 161, 162, 163, 164, 165, 166, 167, 168, 169, 170, 74, 75, 171, 1329, 1330, 1331, 1332, 1333, 1334, 1335, 1336, 1337, 1338] (by decide +kernel) (by decide +kernel)
set_option maxRecDepth 20000 in
theorem gL_law_X6_putAt : GoodIn wsL_R (wsV RL 166 RX6 yX6_putAt wsX6_putAt) := goodIn_app (goodIn_r _ [182, 183, 184, 5] (by decide +kernel) (by decide +kernel)) ggL_law_X6_putAt
set_option maxRecDepth 20000 in
theorem ggL_law_L_fill : GoodIn wsL_R wsL_fill := goodIn_ca (goodIn_ca (goodIn_r _ [188, 88, 89, 189, 190, 191, 2, 192, 94, 95, 96, 97, 98, 99, 16, 103, 104, 105, 106, 107, 108, 109, 110, 28, 111, 47, 116, 117, 118, 119, 34, 120, 121, 122, 123, 33, 193, 194, 195, 196, 45, 46, 1339, 1340, 1320, 1321, 1322, 1323, 1324, 1325, 1326, 1327, 1328, 1346, 1347, 1348] (by decide +kernel) (by decide +kernel)) (goodIn_sub (fun w9 h => law_R w9 (List.mem_append_left _ (List.mem_append_right _ h))) (by decide +kernel))) (goodIn_sub (fun w9 h => law_R w9 (List.mem_append_right _ h)) (by decide +kernel))
set_option maxRecDepth 20000 in
theorem gL_law_L_fill : GoodIn wsL_R (va_wsS RL 167 yL_fill wsL_fill) := goodIn_app (goodIn_r _ [186, 187, 86] (by decide +kernel) (by decide +kernel)) ggL_law_L_fill
set_option maxRecDepth 20000 in
theorem ggL_law_X6_fill : GoodIn wsL_R wsX6_fill := goodIn_r _ [200, 76, 144, 145, 5, 146, 147, 148, 149, 150, 151, 152, 153, 154, 155, 156, 157, 158, 162, 163, 164, 165, 166, 167, 168, 169, 170, 74, 75, 171, 1329, 1330, 1331, 1332, 1333, 1334, 1335, 1336, 1337, 1338] (by decide +kernel) (by decide +kernel)
set_option maxRecDepth 20000 in
theorem gL_law_X6_fill : GoodIn wsL_R (wsV RL 170 RX6 yX6_fill wsX6_fill) := goodIn_app (goodIn_r _ [197, 198, 199, 5] (by decide +kernel) (by decide +kernel)) ggL_law_X6_fill
set_option maxRecDepth 20000 in
theorem ggL_law_L_drop : GoodIn wsL_R wsL_drop := goodIn_ca (goodIn_r _ [203, 88, 204, 205, 206, 2, 207, 94, 95, 96, 97, 98, 99, 16, 208, 209, 210, 108, 109, 110, 28, 111, 47, 211, 133, 134, 135, 46, 212, 213, 214, 215, 128, 129, 130, 131, 45, 132, 136, 137, 138, 139, 1339, 1340, 1320, 1321, 1322, 1323, 1324, 1325, 1326, 1327, 1328, 1346, 1347, 1348] (by decide +kernel) (by decide +kernel)) (goodIn_sub (fun w9 h => law_R w9 (List.mem_append_left _ (List.mem_append_right _ h))) (by decide +kernel))
set_option maxRecDepth 20000 in
theorem gL_law_L_drop : GoodIn wsL_R (va_wsS RL 171 yL_drop wsL_drop) := goodIn_app (goodIn_r _ [201, 202, 86] (by decide +kernel) (by decide +kernel)) ggL_law_L_drop
set_option maxRecDepth 20000 in
theorem ggL_law_X6_drop : GoodIn wsL_R wsX6_drop := goodIn_r _ [219, 76, 75, 74, 144, 145, 5, 146, 147, 148, 149, 150, 151, 152, 153, 154, 155, 156, 157, 158, 1329, 1330, 1331, 1332, 1333, 1334, 1335, 1336, 1337, 1338] (by decide +kernel) (by decide +kernel)
set_option maxRecDepth 20000 in
theorem gL_law_X6_drop : GoodIn wsL_R (wsV RL 173 RX6 yX6_drop wsX6_drop) := goodIn_app (goodIn_r _ [216, 217, 218, 5] (by decide +kernel) (by decide +kernel)) ggL_law_X6_drop
set_option maxRecDepth 20000 in
theorem ggL_law_L_clear : GoodIn wsL_R wsL_clear := goodIn_ca (goodIn_r _ [222, 88, 223, 224, 225, 2, 226, 94, 95, 96, 97, 98, 99, 16, 108, 109, 110, 28, 111, 47, 227, 228, 229, 230, 1339, 1340, 1320, 1321, 1322, 1323, 1324, 1325, 1326, 1327, 1328, 1346, 1347, 1348] (by decide +kernel) (by decide +kernel)) (goodIn_sub (fun w9 h => law_R w9 (List.mem_append_left _ (List.mem_append_right _ h))) (by decide +kernel))
set_option maxRecDepth 20000 in
theorem gL_law_L_clear : GoodIn wsL_R (va_wsS RL 174 yL_clear wsL_clear) := goodIn_app (goodIn_r _ [220, 221, 86] (by decide +kernel) (by decide +kernel)) ggL_law_L_clear
set_option maxRecDepth 20000 in
theorem ggL_law_X6_clear : GoodIn wsL_R wsX6_clear := goodIn_r _ [234, 76, 144, 145, 5, 146, 147, 148, 149, 150, 151, 152, 153, 154, 155, 156, 157, 158, 1329, 1330, 1331, 1332, 1333, 1334, 1335, 1336, 1337, 1338] (by decide +kernel) (by decide +kernel)
set_option maxRecDepth 20000 in
theorem gL_law_X6_clear : GoodIn wsL_R (wsV RL 177 RX6 yX6_clear wsX6_clear) := goodIn_app (goodIn_r _ [231, 232, 233, 5] (by decide +kernel) (by decide +kernel)) ggL_law_X6_clear
set_option maxRecDepth 20000 in
theorem ggL_law_L_copyRow : GoodIn wsL_R wsL_copyRow := goodIn_ca (goodIn_r _ [237, 88, 238, 239, 240, 2, 241, 94, 95, 96, 97, 98, 99, 16, 242, 243, 244, 28, 245, 47, 246, 109, 110, 111, 128, 129, 130, 131, 45, 132, 133, 134, 135, 46, 136, 137, 138, 139, 108, 1339, 1340, 1320, 1321, 1322, 1323, 1324, 1325, 1326, 1327, 1328, 1346, 1347, 1348] (by decide +kernel) (by decide +kernel)) (goodIn_sub (fun w9 h => law_R w9 (List.mem_append_left _ (List.mem_append_right _ h))) (by decide +kernel))
set_option maxRecDepth 20000 in
theorem gL_law_L_copyRow : GoodIn wsL_R (va_wsS RL 178 yL_copyRow wsL_copyRow) := goodIn_app (goodIn_r _ [235, 236, 86] (by decide +kernel) (by decide +kernel)) ggL_law_L_copyRow
set_option maxRecDepth 20000 in
theorem ggL_law_X6_copyRow : GoodIn wsL_R wsX6_copyRow := goodIn_r _ [250, 76, 74, 75, 144, 145, 5, 146, 147, 148, 149, 150, 151, 152, 153, 154, 155, 156, 157, 158, 1329, 1330, 1331, 1332, 1333, 1334, 1335, 1336, 1337, 1338] (by decide +kernel) (by decide +kernel)
set_option maxRecDepth 20000 in
theorem gL_law_X6_copyRow : GoodIn wsL_R (wsV RL 180 RX6 yX6_copyRow wsX6_copyRow) := goodIn_app (goodIn_r _ [247, 248, 249, 5] (by decide +kernel) (by decide +kernel)) ggL_law_X6_copyRow
set_option maxRecDepth 20000 in
theorem ggL_law_L_turnRow : GoodIn wsL_R wsL_turnRow := goodIn_ca (goodIn_r _ [253, 88, 254, 255, 256, 2, 257, 94, 95, 96, 97, 98, 99, 16, 258, 259, 260, 28, 261, 47, 262, 263, 264, 265, 128, 129, 130, 131, 45, 132, 133, 134, 135, 46, 136, 137, 138, 139, 108, 109, 110, 111, 1339, 1340, 1320, 1321, 1322, 1323, 1324, 1325, 1326, 1327, 1328, 1346, 1347, 1348] (by decide +kernel) (by decide +kernel)) (goodIn_sub (fun w9 h => law_R w9 (List.mem_append_left _ (List.mem_append_right _ h))) (by decide +kernel))
set_option maxRecDepth 20000 in
theorem gL_law_L_turnRow : GoodIn wsL_R (va_wsS RL 181 yL_turnRow wsL_turnRow) := goodIn_app (goodIn_r _ [251, 252, 86] (by decide +kernel) (by decide +kernel)) ggL_law_L_turnRow
set_option maxRecDepth 20000 in
theorem ggL_law_X6_turnRow : GoodIn wsL_R wsX6_turnRow := goodIn_r _ [269, 76, 144, 145, 5, 146, 147, 148, 149, 150, 151, 152, 153, 154, 155, 156, 157, 158, 270, 271, 272, 273, 74, 75, 1329, 1330, 1331, 1332, 1333, 1334, 1335, 1336, 1337, 1338] (by decide +kernel) (by decide +kernel)
set_option maxRecDepth 20000 in
theorem gL_law_X6_turnRow : GoodIn wsL_R (wsV RL 183 RX6 yX6_turnRow wsX6_turnRow) := goodIn_app (goodIn_r _ [266, 267, 268, 5] (by decide +kernel) (by decide +kernel)) ggL_law_X6_turnRow
set_option maxRecDepth 20000 in
theorem ggL_law_L_wheel : GoodIn wsL_R wsL_wheel := goodIn_ca (goodIn_r _ [276, 88, 277, 278, 279, 2, 280, 29, 94, 95, 96, 97, 98, 99, 16, 108, 109, 110, 28, 111, 47, 281, 282, 283, 284, 242, 243, 244, 245, 246, 128, 129, 130, 131, 45, 132, 133, 134, 135, 46, 136, 137, 138, 139, 285, 211, 286, 1339, 1340, 1320, 1321, 1322, 1323, 1324, 1325, 1326, 1327, 1328, 1346, 1347, 1348] (by decide +kernel) (by decide +kernel)) (goodIn_sub (fun w9 h => law_R w9 (List.mem_append_left _ (List.mem_append_right _ h))) (by decide +kernel))
set_option maxRecDepth 20000 in
theorem gL_law_L_wheel : GoodIn wsL_R (va_wsS RL 184 yL_wheel wsL_wheel) := goodIn_app (goodIn_r _ [274, 275, 86] (by decide +kernel) (by decide +kernel)) ggL_law_L_wheel
set_option maxRecDepth 20000 in
theorem ggL_law_X6_wheel : GoodIn wsL_R wsX6_wheel := goodIn_r _ [290, 76, 75, 144, 145, 5, 146, 147, 148, 149, 150, 151, 152, 153, 154, 155, 156, 157, 158, 270, 271, 272, 273, 74, 1329, 1330, 1331, 1332, 1333, 1334, 1335, 1336, 1337, 1338] (by decide +kernel) (by decide +kernel)
set_option maxRecDepth 20000 in
theorem gL_law_X6_wheel : GoodIn wsL_R (wsV RL 186 RX6 yX6_wheel wsX6_wheel) := goodIn_app (goodIn_r _ [287, 288, 289, 5] (by decide +kernel) (by decide +kernel)) ggL_law_X6_wheel
set_option maxRecDepth 20000 in
theorem ggL_law_L_swap : GoodIn wsL_R wsL_swap := goodIn_ca (goodIn_r _ [293, 88, 294, 295, 296, 2, 297, 94, 95, 96, 97, 98, 99, 16, 208, 209, 210, 108, 109, 110, 28, 111, 47, 298, 263, 264, 265, 128, 129, 130, 131, 45, 132, 133, 134, 135, 46, 136, 137, 138, 139, 285, 1339, 1340, 1320, 1321, 1322, 1323, 1324, 1325, 1326, 1327, 1328, 1346, 1347, 1348] (by decide +kernel) (by decide +kernel)) (goodIn_sub (fun w9 h => law_R w9 (List.mem_append_left _ (List.mem_append_right _ h))) (by decide +kernel))
set_option maxRecDepth 20000 in
theorem gL_law_L_swap : GoodIn wsL_R (va_wsS RL 187 yL_swap wsL_swap) := goodIn_app (goodIn_r _ [291, 292, 86] (by decide +kernel) (by decide +kernel)) ggL_law_L_swap
set_option maxRecDepth 20000 in
theorem ggL_law_X6_swap : GoodIn wsL_R wsX6_swap := goodIn_r _ [302, 76, 74, 144, 145, 5, 146, 147, 148, 149, 150, 151, 152, 153, 154, 155, 156, 157, 158, 270, 271, 272, 273, 75, 1329, 1330, 1331, 1332, 1333, 1334, 1335, 1336, 1337, 1338] (by decide +kernel) (by decide +kernel)
set_option maxRecDepth 20000 in
theorem gL_law_X6_swap : GoodIn wsL_R (wsV RL 189 RX6 yX6_swap wsX6_swap) := goodIn_app (goodIn_r _ [299, 300, 301, 5] (by decide +kernel) (by decide +kernel)) ggL_law_X6_swap
set_option maxRecDepth 20000 in
theorem ggL_law_L_sort : GoodIn wsL_R wsL_sort := goodIn_ca (goodIn_ca (goodIn_r _ [305, 88, 89, 306, 307, 308, 2, 309, 29, 22, 94, 95, 96, 97, 98, 99, 16, 310, 311, 312, 313, 18, 103, 104, 105, 106, 107, 242, 243, 244, 28, 245, 47, 246, 109, 110, 111, 128, 129, 130, 131, 45, 132, 133, 134, 135, 46, 136, 137, 138, 139, 314, 315, 316, 21, 317, 318, 319, 320, 321, 322, 323, 324, 325, 326, 31, 327, 65, 328, 263, 264, 265, 329, 330, 331, 332, 40, 333, 334, 335, 336, 337, 228, 229, 230, 338, 339, 340, 341, 342, 343, 194, 195, 196, 344, 345, 346, 347, 348, 349, 350, 351, 352, 68, 353, 354, 355, 356, 66, 357, 358, 359, 360, 1339, 1340, 1320, 1321, 1322, 1323, 1324, 1325, 1326, 1327, 1328, 1346, 1347, 1348, 1349, 1350, 1351, 1352, 1353, 1354, 1341] (by decide +kernel) (by decide +kernel)) (goodIn_sub (fun w9 h => law_R w9 (List.mem_append_left _ (List.mem_append_right _ h))) (by decide +kernel))) (goodIn_sub (fun w9 h => law_R w9 (List.mem_append_right _ h)) (by decide +kernel))
set_option maxRecDepth 20000 in
theorem gL_law_L_sort : GoodIn wsL_R (va_wsS RL 190 yL_sort wsL_sort) := goodIn_app (goodIn_r _ [303, 304, 86] (by decide +kernel) (by decide +kernel)) ggL_law_L_sort
set_option maxRecDepth 20000 in
theorem ggL_law_X6_sort : GoodIn wsL_R wsX6_sort := goodIn_r _ [364, 76, 144, 145, 5, 146, 147, 148, 149, 365, 366, 367, 150, 151, 152, 153, 154, 155, 156, 157, 158, 368, 369, 370, 371, 44, 75, 74, 372, 373, 374, 375, 80, 77, 79, 376, 377, 378, 270, 271, 272, 273, 1329, 1330, 1331, 1332, 1333, 1334, 1335, 1336, 1337, 1338] (by decide +kernel) (by decide +kernel)
set_option maxRecDepth 20000 in
theorem gL_law_X6_sort : GoodIn wsL_R (wsV RL 192 RX6 yX6_sort wsX6_sort) := goodIn_app (goodIn_r _ [361, 362, 363, 5] (by decide +kernel) (by decide +kernel)) ggL_law_X6_sort
set_option maxRecDepth 20000 in
theorem ggL_law_L_sortPart : GoodIn wsL_R wsL_sortPart := goodIn_ca (goodIn_ca (goodIn_r _ [381, 88, 89, 382, 383, 384, 2, 385, 106, 107, 29, 22, 94, 95, 96, 97, 98, 99, 16, 310, 311, 312, 313, 18, 179, 180, 181, 108, 109, 110, 28, 111, 47, 242, 243, 244, 245, 246, 128, 129, 130, 131, 45, 132, 133, 134, 135, 46, 136, 137, 138, 139, 386, 320, 321, 21, 322, 323, 324, 325, 326, 31, 327, 65, 328, 263, 264, 265, 357, 358, 359, 360, 1339, 1340, 1320, 1321, 1322, 1323, 1324, 1325, 1326, 1327, 1328, 1346, 1347, 1348, 1349, 1350, 1351, 1352, 1353, 1354] (by decide +kernel) (by decide +kernel)) (goodIn_sub (fun w9 h => law_R w9 (List.mem_append_right _ h)) (by decide +kernel))) (goodIn_sub (fun w9 h => law_R w9 (List.mem_append_left _ (List.mem_append_right _ h))) (by decide +kernel))
set_option maxRecDepth 20000 in
theorem gL_law_L_sortPart : GoodIn wsL_R (va_wsS RL 193 yL_sortPart wsL_sortPart) := goodIn_app (goodIn_r _ [379, 380, 86] (by decide +kernel) (by decide +kernel)) ggL_law_L_sortPart
set_option maxRecDepth 20000 in
theorem ggL_law_X6_sortPart : GoodIn wsL_R wsX6_sortPart := goodIn_r _ [390, 76, 144, 145, 5, 146, 147, 148, 149, 365, 366, 367, 150, 151, 152, 153, 154, 155, 156, 157, 158, 368, 369, 370, 371, 44, 75, 74, 372, 373, 374, 375, 80, 77, 79, 376, 377, 378, 270, 271, 272, 273, 1329, 1330, 1331, 1332, 1333, 1334, 1335, 1336, 1337, 1338] (by decide +kernel) (by decide +kernel)
set_option maxRecDepth 20000 in
theorem gL_law_X6_sortPart : GoodIn wsL_R (wsV RL 195 RX6 yX6_sortPart wsX6_sortPart) := goodIn_app (goodIn_r _ [387, 388, 389, 5] (by decide +kernel) (by decide +kernel)) ggL_law_X6_sortPart
set_option maxRecDepth 20000 in
theorem ggL_law_L_isSorted : GoodIn wsL_R wsL_isSorted := goodIn_ca (goodIn_r _ [393, 88, 394, 395, 396, 2, 397, 94, 95, 96, 97, 98, 99, 16, 310, 311, 312, 313, 18, 398, 399, 400, 28, 401, 47, 128, 129, 130, 131, 45, 402, 325, 326, 31, 327, 65, 1339, 1340, 1320, 1321, 1322, 1323, 1324, 1325, 1326, 1327, 1328, 1346, 1347, 1348, 1349, 1350, 1351, 1352, 1353, 1354] (by decide +kernel) (by decide +kernel)) (goodIn_sub (fun w9 h => law_R w9 (List.mem_append_left _ (List.mem_append_right _ h))) (by decide +kernel))
set_option maxRecDepth 20000 in
theorem gL_law_L_isSorted : GoodIn wsL_R (va_wsS RL 196 yL_isSorted wsL_isSorted) := goodIn_app (goodIn_r _ [391, 392, 86] (by decide +kernel) (by decide +kernel)) ggL_law_L_isSorted
set_option maxRecDepth 20000 in
theorem ggL_law_X6_isSorted : GoodIn wsL_R wsX6_isSorted := goodIn_r _ [406, 144, 145, 5, 146, 147, 148, 149, 365, 366, 367, 150, 151, 152, 153, 154, 155, 156, 157, 158, 407, 408, 409, 410, 76, 74, 372, 373, 374, 375, 80, 77, 79, 376, 377, 378, 1329, 1330, 1331, 1332, 1333, 1334, 1335, 1336, 1337, 1338] (by decide +kernel) (by decide +kernel)
set_option maxRecDepth 20000 in
theorem gL_law_X6_isSorted : GoodIn wsL_R (wsV RL 198 RX6 yX6_isSorted wsX6_isSorted) := goodIn_app (goodIn_r _ [403, 404, 405, 5] (by decide +kernel) (by decide +kernel)) ggL_law_X6_isSorted
set_option maxRecDepth 20000 in
theorem ggL_law_L_size : GoodIn wsL_R wsL_size := goodIn_ca (goodIn_r _ [413, 88, 414, 415, 416, 2, 417, 94, 95, 96, 97, 98, 99, 16, 108, 109, 110, 28, 111, 47, 1339, 1340, 1320, 1321, 1322, 1323, 1324, 1325, 1326, 1327, 1328, 1346, 1347, 1348] (by decide +kernel) (by decide +kernel)) (goodIn_sub (fun w9 h => law_R w9 (List.mem_append_left _ (List.mem_append_right _ h))) (by decide +kernel))
set_option maxRecDepth 20000 in
theorem gL_law_L_size : GoodIn wsL_R (va_wsS RL 199 yL_size wsL_size) := goodIn_app (goodIn_r _ [411, 412, 86] (by decide +kernel) (by decide +kernel)) ggL_law_L_size
set_option maxRecDepth 20000 in
theorem ggL_law_X6_size : GoodIn wsL_R wsX6_size := goodIn_r _ [421, 76, 144, 145, 5, 146, 147, 148, 149, 150, 151, 152, 153, 154, 155, 156, 157, 158, 1329, 1330, 1331, 1332, 1333, 1334, 1335, 1336, 1337, 1338] (by decide +kernel) (by decide +kernel)
set_option maxRecDepth 20000 in
theorem gL_law_X6_size : GoodIn wsL_R (wsV RL 201 RX6 yX6_size wsX6_size) := goodIn_app (goodIn_r _ [418, 419, 420, 5] (by decide +kernel) (by decide +kernel)) ggL_law_X6_size
set_option maxRecDepth 20000 in
theorem ggL_law_L_valueAt : GoodIn wsL_R wsL_valueAt := goodIn_ca (goodIn_r _ [424, 88, 425, 426, 427, 2, 428, 94, 95, 96, 97, 98, 99, 16, 208, 209, 210, 108, 109, 110, 28, 111, 47, 285, 129, 130, 131, 45, 1339, 1340, 1320, 1321, 1322, 1323, 1324, 1325, 1326, 1327, 1328, 1346, 1347, 1348] (by decide +kernel) (by decide +kernel)) (goodIn_sub (fun w9 h => law_R w9 (List.mem_append_left _ (List.mem_append_right _ h))) (by decide +kernel))
set_option maxRecDepth 20000 in
theorem gL_law_L_valueAt : GoodIn wsL_R (va_wsS RL 202 yL_valueAt wsL_valueAt) := goodIn_app (goodIn_r _ [422, 423, 86] (by decide +kernel) (by decide +kernel)) ggL_law_L_valueAt
set_option maxRecDepth 20000 in
theorem ggL_law_X6_valueAt : GoodIn wsL_R wsX6_valueAt := goodIn_r _ [432, 76, 74, 144, 145, 5, 146, 147, 148, 149, 150, 151, 152, 153, 154, 155, 156, 157, 158, 1329, 1330, 1331, 1332, 1333, 1334, 1335, 1336, 1337, 1338] (by decide +kernel) (by decide +kernel)
set_option maxRecDepth 20000 in
theorem gL_law_X6_valueAt : GoodIn wsL_R (wsV RL 204 RX6 yX6_valueAt wsX6_valueAt) := goodIn_app (goodIn_r _ [429, 430, 431, 5] (by decide +kernel) (by decide +kernel)) ggL_law_X6_valueAt
set_option maxRecDepth 20000 in
theorem ggL_law_L_markAt : GoodIn wsL_R wsL_markAt := goodIn_ca (goodIn_r _ [435, 88, 436, 437, 438, 2, 439, 94, 95, 96, 97, 98, 99, 16, 208, 209, 210, 108, 109, 110, 28, 111, 47, 211, 133, 134, 135, 46, 1339, 1340, 1320, 1321, 1322, 1323, 1324, 1325, 1326, 1327, 1328, 1346, 1347, 1348] (by decide +kernel) (by decide +kernel)) (goodIn_sub (fun w9 h => law_R w9 (List.mem_append_left _ (List.mem_append_right _ h))) (by decide +kernel))
set_option maxRecDepth 20000 in
theorem gL_law_L_markAt : GoodIn wsL_R (va_wsS RL 205 yL_markAt wsL_markAt) := goodIn_app (goodIn_r _ [433, 434, 86] (by decide +kernel) (by decide +kernel)) ggL_law_L_markAt
set_option maxRecDepth 20000 in
theorem ggL_law_X6_markAt : GoodIn wsL_R wsX6_markAt := goodIn_r _ [443, 76, 75, 144, 145, 5, 146, 147, 148, 149, 150, 151, 152, 153, 154, 155, 156, 157, 158, 1329, 1330, 1331, 1332, 1333, 1334, 1335, 1336, 1337, 1338] (by decide +kernel) (by decide +kernel)
set_option maxRecDepth 20000 in
theorem gL_law_X6_markAt : GoodIn wsL_R (wsV RL 207 RX6 yX6_markAt wsX6_markAt) := goodIn_app (goodIn_r _ [440, 441, 442, 5] (by decide +kernel) (by decide +kernel)) ggL_law_X6_markAt
set_option maxRecDepth 20000 in
theorem ggL_law_L_text : GoodIn wsL_R wsL_text := goodIn_ca (goodIn_r _ [446, 88, 447, 448, 449, 2, 450, 94, 95, 96, 97, 98, 99, 16, 451, 452, 453, 28, 454, 455, 456, 457, 47, 458, 459, 460, 461, 462, 463, 464, 465, 13, 14, 466, 467, 468, 469, 470, 471, 472, 473, 474, 475, 476, 477, 478, 479, 480, 481, 482, 483, 484, 485, 486, 487, 488, 489, 490, 491, 492, 493, 494, 495, 496, 497, 498, 499, 500, 501, 502, 503, 504, 505, 506, 507, 508, 509, 510, 511, 512, 513, 514, 335, 515, 516, 517, 518, 519, 520, 521, 522, 523, 524, 525, 526, 527, 528, 529, 530, 334, 336, 531, 532, 533, 534, 535, 536, 537, 538, 539, 540, 541, 542, 543, 544, 545, 546, 547, 548, 549, 550, 551, 552, 553, 554, 555, 556, 557, 558, 559, 560, 561, 562, 563, 564, 565, 566, 567, 568, 569, 570, 571, 572, 573, 574, 575, 576, 577, 578, 579, 580, 581, 582, 583, 584, 585, 586, 587, 128, 129, 130, 131, 45, 588, 589, 590, 591, 592, 593, 594, 595, 596, 597, 598, 599, 600, 601, 602, 603, 604, 605, 606, 607, 608, 609, 610, 611, 612, 613, 614, 615, 616, 617, 618, 619, 620, 621, 622, 132, 133, 134, 135, 46, 623, 624, 625, 626, 627, 628, 629, 630, 631, 632, 633, 634, 635, 636, 637, 638, 639, 640, 641, 642, 643, 644, 645, 646, 647, 648, 649, 650, 651, 652, 653, 654, 655, 656, 657, 658, 659, 660, 661, 662, 663, 664, 665, 666, 667, 668, 669, 670, 671, 1339, 1340, 1320, 1321, 1322, 1323, 1324, 1325, 1326, 1327, 1328, 1355, 1356, 1357, 1358, 1346, 1347, 1348, 1359, 1360, 1361, 1362] (by decide +kernel) (by decide +kernel)) (goodIn_sub (fun w9 h => law_R w9 (List.mem_append_left _ (List.mem_append_right _ h))) (by decide +kernel))
set_option maxRecDepth 20000 in
theorem gL_law_L_text : GoodIn wsL_R (va_wsS RL 208 yL_text wsL_text) := goodIn_app (goodIn_r _ [444, 445, 86] (by decide +kernel) (by decide +kernel)) ggL_law_L_text
set_option maxRecDepth 20000 in
theorem ggL_law_X6_text : GoodIn wsL_R wsX6_text := goodIn_r _ [675, 76, 676, 456, 457, 74, 75, 144, 145, 5, 146, 147, 148, 149, 150, 151, 152, 153, 154, 155, 156, 157, 158, 677, 459, 460, 461, 462, 463, 464, 465, 13, 14, 466, 467, 468, 469, 470, 471, 472, 473, 474, 475, 476, 477, 678, 679, 680, 681, 682, 683, 486, 684, 685, 489, 686, 687, 688, 689, 690, 498, 499, 500, 501, 502, 503, 504, 505, 506, 507, 508, 509, 510, 511, 512, 513, 514, 335, 515, 516, 517, 518, 519, 520, 521, 522, 523, 524, 525, 526, 527, 528, 529, 530, 334, 336, 531, 532, 533, 534, 535, 536, 537, 538, 539, 691, 692, 693, 573, 608, 609, 610, 558, 559, 560, 611, 612, 563, 613, 565, 614, 615, 568, 616, 570, 571, 572, 574, 575, 694, 695, 696, 697, 637, 698, 699, 700, 701, 638, 636, 702, 703, 704, 705, 706, 707, 708, 709, 710, 711, 712, 544, 545, 546, 547, 548, 549, 550, 542, 551, 552, 553, 554, 555, 556, 557, 561, 562, 564, 566, 567, 569, 713, 714, 715, 716, 717, 718, 719, 589, 590, 591, 592, 593, 594, 595, 596, 597, 598, 599, 600, 601, 602, 603, 604, 605, 606, 607, 617, 618, 619, 620, 621, 720, 624, 625, 626, 627, 628, 629, 630, 631, 632, 633, 634, 635, 639, 640, 641, 642, 643, 644, 645, 485, 646, 647, 481, 483, 484, 487, 488, 648, 649, 650, 651, 652, 653, 654, 655, 656, 657, 658, 659, 660, 661, 662, 663, 664, 665, 666, 667, 668, 669, 670, 671, 1329, 1330, 1331, 1332, 1333, 1334, 1335, 1336, 1337, 1338, 1355, 1356, 1357, 1358, 1359, 1360, 1361, 1362] (by decide +kernel) (by decide +kernel)
set_option maxRecDepth 20000 in
theorem gL_law_X6_text : GoodIn wsL_R (wsV RL 210 RX6 yX6_text wsX6_text) := goodIn_app (goodIn_r _ [672, 673, 674, 5] (by decide +kernel) (by decide +kernel)) ggL_law_X6_text
set_option maxRecDepth 20000 in
theorem ggL_law_L_extreme : GoodIn wsL_R wsL_extreme := goodIn_ca (goodIn_r _ [723, 88, 724, 725, 726, 2, 727, 94, 95, 96, 97, 98, 99, 16, 310, 311, 312, 313, 18, 728, 729, 730, 28, 731, 47, 128, 129, 130, 131, 45, 402, 325, 326, 31, 327, 65, 732, 733, 734, 735, 285, 736, 354, 355, 356, 66, 1339, 1340, 1320, 1321, 1322, 1323, 1324, 1325, 1326, 1327, 1328, 1346, 1347, 1348, 1349, 1350, 1351, 1352, 1353, 1354] (by decide +kernel) (by decide +kernel)) (goodIn_sub (fun w9 h => law_R w9 (List.mem_append_left _ (List.mem_append_right _ h))) (by decide +kernel))
set_option maxRecDepth 20000 in
theorem gL_law_L_extreme : GoodIn wsL_R (va_wsS RL 211 yL_extreme wsL_extreme) := goodIn_app (goodIn_r _ [721, 722, 86] (by decide +kernel) (by decide +kernel)) ggL_law_L_extreme
set_option maxRecDepth 20000 in
theorem ggL_law_X6_extreme : GoodIn wsL_R wsX6_extreme := goodIn_r _ [740, 76, 74, 144, 145, 5, 146, 147, 148, 149, 365, 366, 367, 150, 151, 152, 153, 154, 155, 156, 157, 158, 741, 742, 743, 744, 745, 746, 747, 748, 372, 373, 374, 375, 80, 77, 79, 376, 377, 378, 1329, 1330, 1331, 1332, 1333, 1334, 1335, 1336, 1337, 1338] (by decide +kernel) (by decide +kernel)
set_option maxRecDepth 20000 in
theorem gL_law_X6_extreme : GoodIn wsL_R (wsV RL 214 RX6 yX6_extreme wsX6_extreme) := goodIn_app (goodIn_r _ [737, 738, 739, 5] (by decide +kernel) (by decide +kernel)) ggL_law_X6_extreme
set_option maxRecDepth 20000 in
theorem ggL_law_L_search : GoodIn wsL_R wsL_search := goodIn_ca (goodIn_ca (goodIn_r _ [751, 88, 89, 752, 753, 754, 2, 755, 94, 95, 96, 97, 98, 99, 16, 310, 311, 312, 313, 18, 100, 101, 102, 103, 104, 105, 106, 107, 398, 399, 400, 28, 401, 47, 128, 129, 130, 131, 45, 402, 325, 326, 31, 327, 65, 116, 117, 118, 119, 34, 756, 757, 758, 759, 760, 761, 762, 763, 1339, 1340, 1320, 1321, 1322, 1323, 1324, 1325, 1326, 1327, 1328, 1346, 1347, 1348, 1349, 1350, 1351, 1352, 1353, 1354] (by decide +kernel) (by decide +kernel)) (goodIn_sub (fun w9 h => law_R w9 (List.mem_append_left _ (List.mem_append_right _ h))) (by decide +kernel))) (goodIn_sub (fun w9 h => law_R w9 (List.mem_append_right _ h)) (by decide +kernel))
set_option maxRecDepth 20000 in
theorem gL_law_L_search : GoodIn wsL_R (va_wsS RL 215 yL_search wsL_search) := goodIn_app (goodIn_r _ [749, 750, 86] (by decide +kernel) (by decide +kernel)) ggL_law_L_search
set_option maxRecDepth 20000 in
theorem ggL_law_X6_search : GoodIn wsL_R wsX6_search := goodIn_r _ [767, 76, 74, 144, 145, 5, 146, 147, 148, 149, 365, 366, 367, 150, 151, 152, 153, 154, 155, 156, 157, 158, 159, 160, 161, 407, 408, 409, 410, 372, 373, 374, 375, 80, 77, 79, 376, 377, 378, 162, 163, 164, 165, 166, 1329, 1330, 1331, 1332, 1333, 1334, 1335, 1336, 1337, 1338] (by decide +kernel) (by decide +kernel)
set_option maxRecDepth 20000 in
theorem gL_law_X6_search : GoodIn wsL_R (wsV RL 217 RX6 yX6_search wsX6_search) := goodIn_app (goodIn_r _ [764, 765, 766, 5] (by decide +kernel) (by decide +kernel)) ggL_law_X6_search
set_option maxRecDepth 20000 in
theorem ggL_law_L_near : GoodIn wsL_R wsL_near := goodIn_ca (goodIn_ca (goodIn_r _ [770, 88, 89, 771, 772, 773, 2, 774, 94, 95, 96, 97, 98, 99, 16, 310, 311, 312, 313, 18, 100, 101, 102, 103, 104, 105, 106, 107, 775, 776, 777, 28, 778, 47, 128, 129, 130, 131, 45, 402, 325, 326, 31, 327, 65, 779, 780, 781, 782, 783, 784, 785, 211, 133, 134, 135, 46, 1339, 1340, 1320, 1321, 1322, 1323, 1324, 1325, 1326, 1327, 1328, 1346, 1347, 1348, 1349, 1350, 1351, 1352, 1353, 1354] (by decide +kernel) (by decide +kernel)) (goodIn_sub (fun w9 h => law_R w9 (List.mem_append_left _ (List.mem_append_right _ h))) (by decide +kernel))) (goodIn_sub (fun w9 h => law_R w9 (List.mem_append_right _ h)) (by decide +kernel))
set_option maxRecDepth 20000 in
theorem gL_law_L_near : GoodIn wsL_R (va_wsS RL 218 yL_near wsL_near) := goodIn_app (goodIn_r _ [768, 769, 86] (by decide +kernel) (by decide +kernel)) ggL_law_L_near
set_option maxRecDepth 20000 in
theorem ggL_law_X6_near : GoodIn wsL_R wsX6_near := goodIn_r _ [789, 76, 74, 75, 144, 145, 5, 146, 147, 148, 149, 365, 366, 367, 150, 151, 152, 153, 154, 155, 156, 157, 158, 159, 160, 161, 372, 373, 374, 375, 80, 77, 79, 376, 377, 378, 1329, 1330, 1331, 1332, 1333, 1334, 1335, 1336, 1337, 1338] (by decide +kernel) (by decide +kernel)
set_option maxRecDepth 20000 in
theorem gL_law_X6_near : GoodIn wsL_R (wsV RL 220 RX6 yX6_near wsX6_near) := goodIn_app (goodIn_r _ [786, 787, 788, 5] (by decide +kernel) (by decide +kernel)) ggL_law_X6_near
set_option maxRecDepth 20000 in
theorem ggL_law_L_kinds : GoodIn wsL_R wsL_kinds := goodIn_ca (goodIn_r _ [792, 88, 793, 794, 795, 2, 796, 94, 95, 96, 97, 98, 99, 16, 310, 311, 312, 313, 18, 797, 798, 799, 28, 800, 47, 801, 802, 803, 804, 128, 129, 130, 131, 45, 402, 325, 326, 31, 327, 65, 1339, 1340, 1320, 1321, 1322, 1323, 1324, 1325, 1326, 1327, 1328, 1346, 1347, 1348, 1349, 1350, 1351, 1352, 1353, 1354] (by decide +kernel) (by decide +kernel)) (goodIn_sub (fun w9 h => law_R w9 (List.mem_append_left _ (List.mem_append_right _ h))) (by decide +kernel))
set_option maxRecDepth 20000 in
theorem gL_law_L_kinds : GoodIn wsL_R (va_wsS RL 221 yL_kinds wsL_kinds) := goodIn_app (goodIn_r _ [790, 791, 86] (by decide +kernel) (by decide +kernel)) ggL_law_L_kinds
set_option maxRecDepth 20000 in
theorem ggL_law_X6_kinds : GoodIn wsL_R wsX6_kinds := goodIn_r _ [808, 144, 145, 5, 146, 147, 148, 149, 365, 366, 367, 150, 151, 152, 153, 154, 155, 156, 157, 158, 809, 810, 811, 812, 76, 813, 814, 815, 816, 74, 372, 373, 374, 375, 80, 77, 79, 376, 377, 378, 1329, 1330, 1331, 1332, 1333, 1334, 1335, 1336, 1337, 1338] (by decide +kernel) (by decide +kernel)
set_option maxRecDepth 20000 in
theorem gL_law_X6_kinds : GoodIn wsL_R (wsV RL 223 RX6 yX6_kinds wsX6_kinds) := goodIn_app (goodIn_r _ [805, 806, 807, 5] (by decide +kernel) (by decide +kernel)) ggL_law_X6_kinds
set_option maxRecDepth 20000 in
theorem ggL_law_L_ahead : GoodIn wsL_R wsL_ahead := goodIn_ca (goodIn_ca (goodIn_r _ [819, 88, 89, 820, 821, 822, 2, 823, 94, 95, 96, 97, 98, 99, 16, 310, 311, 312, 313, 18, 100, 101, 102, 103, 104, 105, 106, 107, 824, 825, 826, 28, 827, 47, 128, 129, 130, 131, 45, 402, 325, 326, 31, 327, 65, 801, 802, 803, 804, 1339, 1340, 1320, 1321, 1322, 1323, 1324, 1325, 1326, 1327, 1328, 1346, 1347, 1348, 1349, 1350, 1351, 1352, 1353, 1354] (by decide +kernel) (by decide +kernel)) (goodIn_sub (fun w9 h => law_R w9 (List.mem_append_left _ (List.mem_append_right _ h))) (by decide +kernel))) (goodIn_sub (fun w9 h => law_R w9 (List.mem_append_right _ h)) (by decide +kernel))
set_option maxRecDepth 20000 in
theorem gL_law_L_ahead : GoodIn wsL_R (va_wsS RL 224 yL_ahead wsL_ahead) := goodIn_app (goodIn_r _ [817, 818, 86] (by decide +kernel) (by decide +kernel)) ggL_law_L_ahead
set_option maxRecDepth 20000 in
theorem ggL_law_X6_ahead : GoodIn wsL_R wsX6_ahead := goodIn_r _ [831, 76, 74, 144, 145, 5, 146, 147, 148, 149, 365, 366, 367, 150, 151, 152, 153, 154, 155, 156, 157, 158, 159, 160, 161, 813, 814, 815, 816, 372, 373, 374, 375, 80, 77, 79, 376, 377, 378, 1329, 1330, 1331, 1332, 1333, 1334, 1335, 1336, 1337, 1338] (by decide +kernel) (by decide +kernel)
