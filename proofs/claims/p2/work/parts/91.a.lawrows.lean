set_option maxRecDepth 20000 in
theorem ggL_law_X11_init : GoodIn wsL_law wsX11_init := goodIn_r _ [9, 10, 11, 12, 13, 14, 15, 16, 17, 18, 19, 20, 21, 22, 23, 24, 25, 26, 27, 28, 29, 30, 31, 32, 33, 34, 35, 36, 37, 38, 39, 40, 41, 42, 43, 44, 45, 46, 47, 48, 49, 50, 51, 52, 53, 54, 55, 56, 57, 58, 59, 60, 61, 62, 63, 64, 65, 66, 67, 68, 69, 70, 71, 72, 73, 74, 75, 76, 77, 78, 79, 80, 81, 82, 83, 84, 85, 86, 87, 88, 89, 90, 91, 92, 93, 94, 95, 96, 97, 98, 99, 100, 101, 102, 103, 104, 105, 106, 107, 108, 109, 110, 111, 112, 113, 114, 115, 116, 117, 118, 119, 120, 121, 122, 123, 124, 125, 126, 127, 128, 129, 130, 131, 132, 133, 134, 135, 136, 137, 138, 139, 140, 141, 142, 143, 144, 145, 146, 147, 148, 149, 150, 151, 152, 153, 154, 155, 156, 157, 158, 159, 160, 161, 162, 163, 164, 165, 166, 1247, 1248, 1197, 1198, 1199, 1200, 1201, 1202, 1203, 1204, 1205, 1206, 1207, 1208, 1209, 1210, 1211, 1212, 1213, 1249, 1250, 1251, 1252, 1253, 1254, 1255, 1256, 1257, 1258, 1259, 1260, 1261, 1262, 1263, 1264, 1265, 1266, 1267, 1268, 1269, 1270, 1271, 1272, 1273, 1274, 1275, 1276, 1277, 1278, 1279, 1280, 1281, 1282, 1283, 1284, 1285, 1286, 1287, 1288, 1289, 1290, 1291, 1292, 1293, 1294, 1295, 1296, 1297] (by decide +kernel) (by decide +kernel)
set_option maxRecDepth 20000 in
theorem gL_law_X11_init : GoodIn wsL_law (wsX11_init) := ggL_law_X11_init
set_option maxRecDepth 20000 in
theorem ggL_law_X12_init : GoodIn wsL_law wsX12_init := goodIn_r _ [169, 170, 11, 12, 31, 171, 172, 173, 174, 175, 111, 176, 177, 178, 179, 180, 181, 182, 183, 48, 184, 185, 186, 187, 188, 189, 190, 5, 191, 192, 193, 194, 195, 196, 197, 198, 199, 200, 201, 202, 203, 204, 205, 206, 207, 208, 209, 1214, 1215, 1216, 1217, 1218, 1219, 1220, 1221, 1222, 1223, 1224, 1225, 1226, 1227, 1228, 1229, 1230, 1231, 1232, 1233, 1234, 1235, 1236, 1237, 1238, 1239, 1240, 1241, 1242, 1243, 1244, 1245, 1246] (by decide +kernel) (by decide +kernel)
set_option maxRecDepth 20000 in
theorem gL_law_X12_init : GoodIn wsL_law (wsX12_init) := ggL_law_X12_init
set_option maxRecDepth 20000 in
theorem ggL_law_X11_write : GoodIn wsL_law wsX11_write := goodIn_r _ [213, 16, 214, 215, 216, 217, 15, 218, 219, 220, 221, 222, 223, 59, 1197, 1198, 1199, 1200, 1201, 1202, 1203, 1204, 1205, 1206, 1207, 1208, 1209, 1210, 1211, 1212, 1213, 1247, 1248] (by decide +kernel) (by decide +kernel)
set_option maxRecDepth 20000 in
theorem gL_law_X11_write : GoodIn wsL_law (wsV RL 15 RX11 yX11_write wsX11_write) := goodIn_app (goodIn_of _ (by decide +kernel)) ggL_law_X11_write
set_option maxRecDepth 20000 in
theorem ggL_law_X12_write : GoodIn wsL_law wsX12_write := goodIn_r _ [227, 228, 229, 173, 230, 203, 204, 5, 205, 1214, 1215, 1216, 1217, 1218, 1219, 1220, 1221, 1222, 1223, 1224, 1225, 1226, 1227, 1228, 1229, 1230, 1231, 1232, 1233, 1234, 1235, 1236, 1237, 1238, 1239, 1240, 1241, 1242, 1243, 1244, 1245, 1246] (by decide +kernel) (by decide +kernel)
set_option maxRecDepth 20000 in
theorem gL_law_X12_write : GoodIn wsL_law (wsV RL 19 RX12 yX12_write wsX12_write) := goodIn_app (goodIn_of _ (by decide +kernel)) ggL_law_X12_write
set_option maxRecDepth 20000 in
theorem ggL_law_X11_wipe : GoodIn wsL_law wsX11_wipe := goodIn_r _ [234, 16, 214, 1197, 1198, 1199, 1200, 1201, 1202, 1203, 1204, 1205, 1206, 1207, 1208, 1209, 1210, 1211, 1212, 1213, 1247, 1248] (by decide +kernel) (by decide +kernel)
set_option maxRecDepth 20000 in
theorem gL_law_X11_wipe : GoodIn wsL_law (wsV RL 20 RX11 yX11_wipe wsX11_wipe) := goodIn_app (goodIn_of _ (by decide +kernel)) ggL_law_X11_wipe
set_option maxRecDepth 20000 in
theorem ggL_law_X12_wipe : GoodIn wsL_law wsX12_wipe := goodIn_r _ [238, 229, 1214, 1215, 1216, 1217, 1218, 1219, 1220, 1221, 1222, 1223, 1224, 1225, 1226, 1227, 1228, 1229, 1230, 1231, 1232, 1233, 1234, 1235, 1236, 1237, 1238, 1239, 1240, 1241, 1242, 1243, 1244, 1245, 1246] (by decide +kernel) (by decide +kernel)
set_option maxRecDepth 20000 in
theorem gL_law_X12_wipe : GoodIn wsL_law (wsV RL 24 RX12 yX12_wipe wsX12_wipe) := goodIn_app (goodIn_of _ (by decide +kernel)) ggL_law_X12_wipe
set_option maxRecDepth 20000 in
theorem ggL_law_X11_fault : GoodIn wsL_law wsX11_fault := goodIn_r _ [242, 24, 20, 28, 243, 244, 245, 23, 246, 80, 247, 248, 249, 250, 67, 251, 252, 253, 254, 255, 256, 257, 258, 259, 260, 73, 261, 262, 263, 264, 265, 266, 267, 268, 15, 269, 219, 59, 270, 271, 272, 273, 78, 274, 275, 276, 277, 278, 279, 280, 281, 282, 283, 284, 285, 286, 287, 288, 289, 290, 291, 292, 293, 294, 295, 296, 297, 298, 299, 300, 19, 301, 68, 302, 303, 92, 93, 27, 94, 95, 96, 86, 87, 88, 89, 97, 98, 99, 100, 101, 102, 103, 104, 105, 106, 107, 304, 305, 306, 307, 308, 309, 310, 311, 312, 313, 314, 315, 316, 317, 318, 319, 320, 321, 64, 322, 323, 324, 325, 326, 327, 328, 329, 330, 331, 332, 333, 334, 335, 336, 337, 338, 339, 340, 341, 342, 343, 344, 345, 346, 347, 348, 349, 350, 351, 352, 353, 354, 355, 356, 357, 358, 359, 360, 361, 362, 363, 364, 365, 366, 367, 368, 369, 370, 371, 372, 373, 374, 375, 376, 377, 378, 379, 380, 381, 382, 383, 384, 385, 386, 387, 388, 389, 390, 391, 392, 393, 394, 395, 396, 1197, 1198, 1199, 1200, 1201, 1202, 1203, 1204, 1205, 1206, 1207, 1208, 1209, 1210, 1211, 1212, 1213, 1251, 1252, 1253, 1254, 1295, 1296, 1297, 1247, 1248, 1249, 1250, 1255, 1256, 1257, 1258, 1259, 1260, 1261, 1262, 1263, 1264, 1265, 1266, 1267, 1268] (by decide +kernel) (by decide +kernel)
set_option maxRecDepth 20000 in
theorem gL_law_X11_fault : GoodIn wsL_law (wsV RL 25 RX11 yX11_fault wsX11_fault) := goodIn_app (goodIn_of _ (by decide +kernel)) ggL_law_X11_fault
set_option maxRecDepth 20000 in
theorem ggL_law_X12_fault : GoodIn wsL_law wsX12_fault := goodIn_r _ [400, 401, 402, 403, 5, 404, 405, 406, 407, 229, 173, 175, 408, 409, 410, 411, 412, 203, 204, 205, 413, 414, 415, 416, 417, 418, 419, 420, 171, 188, 189, 190, 191, 192, 193, 194, 195, 196, 197, 198, 199, 200, 201, 202, 421, 422, 423, 424, 425, 426, 427, 1214, 1215, 1216, 1217, 1218, 1219, 1220, 1221, 1222, 1223, 1224, 1225, 1226, 1227, 1228, 1229, 1230, 1231, 1232, 1233, 1234, 1235, 1236, 1237, 1238, 1239, 1240, 1241, 1242, 1243, 1244, 1245, 1246] (by decide +kernel) (by decide +kernel)
set_option maxRecDepth 20000 in
theorem gL_law_X12_fault : GoodIn wsL_law (wsV RL 29 RX12 yX12_fault wsX12_fault) := goodIn_app (goodIn_of _ (by decide +kernel)) ggL_law_X12_fault
set_option maxRecDepth 20000 in
theorem ggL_law_X11_make : GoodIn wsL_law wsX11_make := goodIn_r _ [431, 20, 28, 29, 432, 54, 45, 49, 433, 298, 299, 300, 19, 301, 68, 302, 249, 250, 67, 251, 252, 253, 303, 92, 93, 27, 94, 95, 96, 86, 87, 88, 89, 97, 98, 99, 100, 101, 102, 103, 104, 105, 106, 107, 304, 305, 306, 307, 308, 309, 263, 264, 265, 73, 266, 267, 268, 15, 269, 219, 59, 310, 280, 281, 282, 311, 284, 285, 286, 312, 255, 256, 313, 275, 276, 277, 278, 279, 283, 314, 315, 316, 317, 318, 319, 320, 321, 64, 322, 323, 324, 325, 326, 327, 328, 329, 330, 331, 332, 333, 334, 335, 336, 337, 338, 339, 340, 341, 342, 343, 344, 345, 346, 347, 348, 349, 350, 351, 352, 353, 354, 355, 356, 357, 358, 359, 360, 361, 362, 363, 364, 365, 366, 367, 368, 369, 370, 371, 258, 259, 260, 261, 372, 373, 374, 375, 376, 377, 378, 379, 380, 381, 382, 383, 384, 385, 386, 387, 388, 389, 390, 391, 392, 393, 394, 395, 396, 293, 294, 295, 434, 435, 436, 437, 438, 439, 440, 441, 442, 132, 133, 134, 90, 135, 136, 137, 138, 139, 140, 141, 142, 143, 144, 145, 146, 147, 148, 149, 150, 151, 152, 153, 154, 155, 156, 157, 158, 159, 160, 161, 162, 163, 164, 165, 166, 443, 444, 445, 44, 446, 447, 448, 449, 450, 451, 452, 1197, 1198, 1199, 1200, 1201, 1202, 1203, 1204, 1205, 1206, 1207, 1208, 1209, 1210, 1211, 1212, 1213, 1255, 1256, 1257, 1258, 1259, 1260, 1261, 1262, 1263, 1264, 1265, 1266, 1267, 1268, 1249, 1250, 1295, 1296, 1297, 1247, 1248, 1280, 1281, 1282, 1283, 1284, 1285] (by decide +kernel) (by decide +kernel)
set_option maxRecDepth 20000 in
theorem gL_law_X11_make : GoodIn wsL_law (wsV RL 30 RX11 yX11_make wsX11_make) := goodIn_app (goodIn_of _ (by decide +kernel)) ggL_law_X11_make
set_option maxRecDepth 20000 in
theorem ggL_law_X12_make : GoodIn wsL_law wsX12_make := goodIn_r _ [456, 184, 183, 457, 458, 172, 417, 418, 419, 5, 420, 405, 406, 229, 173, 171, 188, 189, 190, 191, 192, 193, 194, 195, 196, 197, 198, 199, 200, 201, 202, 203, 204, 205, 408, 409, 410, 411, 412, 413, 414, 415, 416, 421, 422, 423, 424, 425, 426, 427, 206, 207, 208, 209, 1214, 1215, 1216, 1217, 1218, 1219, 1220, 1221, 1222, 1223, 1224, 1225, 1226, 1227, 1228, 1229, 1230, 1231, 1232, 1233, 1234, 1235, 1236, 1237, 1238, 1239, 1240, 1241, 1242, 1243, 1244, 1245, 1246] (by decide +kernel) (by decide +kernel)
set_option maxRecDepth 20000 in
theorem gL_law_X12_make : GoodIn wsL_law (wsV RL 33 RX12 yX12_make wsX12_make) := goodIn_app (goodIn_of _ (by decide +kernel)) ggL_law_X12_make
set_option maxRecDepth 20000 in
theorem ggL_law_X11_rule : GoodIn wsL_law wsX11_rule := goodIn_r _ [462, 24, 32, 463, 464, 465, 2, 466, 243, 244, 245, 23, 246, 80, 247, 248, 249, 250, 67, 251, 252, 253, 254, 255, 256, 257, 258, 259, 260, 73, 261, 262, 263, 264, 265, 266, 267, 268, 15, 269, 219, 59, 270, 271, 272, 273, 78, 274, 275, 276, 277, 278, 279, 280, 281, 282, 283, 284, 285, 286, 287, 288, 289, 290, 291, 292, 293, 294, 295, 296, 297, 467, 468, 469, 470, 471, 472, 473, 474, 475, 476, 477, 478, 479, 480, 481, 1197, 1198, 1199, 1200, 1201, 1202, 1203, 1204, 1205, 1206, 1207, 1208, 1209, 1210, 1211, 1212, 1213, 1251, 1252, 1253, 1254, 1295, 1296, 1297, 1247, 1248] (by decide +kernel) (by decide +kernel)
set_option maxRecDepth 20000 in
theorem gL_law_X11_rule : GoodIn wsL_law (wsV RL 34 RX11 yX11_rule wsX11_rule) := goodIn_app (goodIn_of _ (by decide +kernel)) ggL_law_X11_rule
set_option maxRecDepth 20000 in
theorem ggL_law_X12_rule : GoodIn wsL_law wsX12_rule := goodIn_r _ [485, 174, 175, 407, 486, 487, 5, 488, 489, 203, 204, 205, 401, 402, 403, 404, 405, 406, 229, 173, 408, 409, 410, 411, 412, 413, 414, 415, 416, 1214, 1215, 1216, 1217, 1218, 1219, 1220, 1221, 1222, 1223, 1224, 1225, 1226, 1227, 1228, 1229, 1230, 1231, 1232, 1233, 1234, 1235, 1236, 1237, 1238, 1239, 1240, 1241, 1242, 1243, 1244, 1245, 1246] (by decide +kernel) (by decide +kernel)
set_option maxRecDepth 20000 in
theorem gL_law_X12_rule : GoodIn wsL_law (wsV RL 38 RX12 yX12_rule wsX12_rule) := goodIn_app (goodIn_of _ (by decide +kernel)) ggL_law_X12_rule
set_option maxRecDepth 20000 in
theorem ggL_law_X11_level : GoodIn wsL_law wsX11_level := goodIn_r _ [493, 463, 464, 465, 2, 466, 494, 495, 496, 497, 32, 1197, 1198, 1199, 1200, 1201, 1202, 1203, 1204, 1205, 1206, 1207, 1208, 1209, 1210, 1211, 1212, 1213] (by decide +kernel) (by decide +kernel)
set_option maxRecDepth 20000 in
theorem gL_law_X11_level : GoodIn wsL_law (wsV RL 39 RX11 yX11_level wsX11_level) := goodIn_app (goodIn_of _ (by decide +kernel)) ggL_law_X11_level
set_option maxRecDepth 20000 in
theorem ggL_law_X12_level : GoodIn wsL_law wsX12_level := goodIn_r _ [501, 192, 174, 486, 487, 5, 488, 489, 203, 204, 205, 1214, 1215, 1216, 1217, 1218, 1219, 1220, 1221, 1222, 1223, 1224, 1225, 1226, 1227, 1228, 1229, 1230, 1231, 1232, 1233, 1234, 1235, 1236, 1237, 1238, 1239, 1240, 1241, 1242, 1243, 1244, 1245, 1246] (by decide +kernel) (by decide +kernel)
set_option maxRecDepth 20000 in
theorem gL_law_X12_level : GoodIn wsL_law (wsV RL 43 RX12 yX12_level wsX12_level) := goodIn_app (goodIn_of _ (by decide +kernel)) ggL_law_X12_level
set_option maxRecDepth 20000 in
theorem ggL_law_X11_week : GoodIn wsL_law wsX11_week := goodIn_r _ [505, 29, 506, 507, 508, 509, 510, 2, 511, 433, 1197, 1198, 1199, 1200, 1201, 1202, 1203, 1204, 1205, 1206, 1207, 1208, 1209, 1210, 1211, 1212, 1213, 1255, 1256, 1257, 1258, 1259, 1260, 1261, 1262, 1263, 1264, 1265, 1266, 1267, 1268] (by decide +kernel) (by decide +kernel)
set_option maxRecDepth 20000 in
theorem gL_law_X11_week : GoodIn wsL_law (wsV RL 44 RX11 yX11_week wsX11_week) := goodIn_app (goodIn_of _ (by decide +kernel)) ggL_law_X11_week
set_option maxRecDepth 20000 in
theorem ggL_law_X12_week : GoodIn wsL_law wsX12_week := goodIn_r _ [515, 172, 516, 517, 518, 5, 519, 203, 204, 205, 1214, 1215, 1216, 1217, 1218, 1219, 1220, 1221, 1222, 1223, 1224, 1225, 1226, 1227, 1228, 1229, 1230, 1231, 1232, 1233, 1234, 1235, 1236, 1237, 1238, 1239, 1240, 1241, 1242, 1243, 1244, 1245, 1246] (by decide +kernel) (by decide +kernel)
set_option maxRecDepth 20000 in
theorem gL_law_X12_week : GoodIn wsL_law (wsV RL 47 RX12 yX12_week wsX12_week) := goodIn_app (goodIn_of _ (by decide +kernel)) ggL_law_X12_week
set_option maxRecDepth 20000 in
theorem ggL_law_X11_aged : GoodIn wsL_law wsX11_aged := goodIn_r _ [523, 29, 524, 525, 160, 161, 27, 162, 88, 103, 163, 164, 165, 166, 1197, 1198, 1199, 1200, 1201, 1202, 1203, 1204, 1205, 1206, 1207, 1208, 1209, 1210, 1211, 1212, 1213, 1255, 1256, 1257, 1258, 1259, 1260, 1261, 1262, 1263, 1264, 1265, 1266, 1267, 1268] (by decide +kernel) (by decide +kernel)
set_option maxRecDepth 20000 in
theorem gL_law_X11_aged : GoodIn wsL_law (wsV RL 48 RX11 yX11_aged wsX11_aged) := goodIn_app (goodIn_of _ (by decide +kernel)) ggL_law_X11_aged
set_option maxRecDepth 20000 in
theorem ggL_law_X12_aged : GoodIn wsL_law wsX12_aged := goodIn_r _ [529, 489, 172, 203, 204, 5, 205, 530, 531, 532, 533, 1214, 1215, 1216, 1217, 1218, 1219, 1220, 1221, 1222, 1223, 1224, 1225, 1226, 1227, 1228, 1229, 1230, 1231, 1232, 1233, 1234, 1235, 1236, 1237, 1238, 1239, 1240, 1241, 1242, 1243, 1244, 1245, 1246] (by decide +kernel) (by decide +kernel)
set_option maxRecDepth 20000 in
theorem gL_law_X12_aged : GoodIn wsL_law (wsV RL 51 RX12 yX12_aged wsX12_aged) := goodIn_app (goodIn_of _ (by decide +kernel)) ggL_law_X12_aged
set_option maxRecDepth 20000 in
theorem ggL_law_X11_about : GoodIn wsL_law wsX11_about := goodIn_r _ [537, 29, 433, 538, 539, 540, 541, 542, 543, 544, 1197, 1198, 1199, 1200, 1201, 1202, 1203, 1204, 1205, 1206, 1207, 1208, 1209, 1210, 1211, 1212, 1213, 1255, 1256, 1257, 1258, 1259, 1260, 1261, 1262, 1263, 1264, 1265, 1266, 1267, 1268] (by decide +kernel) (by decide +kernel)
set_option maxRecDepth 20000 in
theorem gL_law_X11_about : GoodIn wsL_law (wsV RL 52 RX11 yX11_about wsX11_about) := goodIn_app (goodIn_of _ (by decide +kernel)) ggL_law_X11_about
set_option maxRecDepth 20000 in
theorem ggL_law_X12_about : GoodIn wsL_law wsX12_about := goodIn_r _ [548, 193, 172, 203, 204, 5, 205, 1214, 1215, 1216, 1217, 1218, 1219, 1220, 1221, 1222, 1223, 1224, 1225, 1226, 1227, 1228, 1229, 1230, 1231, 1232, 1233, 1234, 1235, 1236, 1237, 1238, 1239, 1240, 1241, 1242, 1243, 1244, 1245, 1246] (by decide +kernel) (by decide +kernel)
set_option maxRecDepth 20000 in
theorem gL_law_X12_about : GoodIn wsL_law (wsV RL 55 RX12 yX12_about wsX12_about) := goodIn_app (goodIn_of _ (by decide +kernel)) ggL_law_X12_about
set_option maxRecDepth 20000 in
theorem ggL_law_X11_may : GoodIn wsL_law wsX11_may := goodIn_r _ [552, 553, 554, 555, 2, 556, 29, 557, 558, 559, 560, 508, 509, 510, 511, 433, 561, 562, 563, 564, 538, 565, 566, 138, 567, 568, 154, 155, 569, 570, 571, 27, 572, 101, 573, 574, 575, 576, 577, 578, 579, 580, 581, 582, 583, 584, 99, 153, 585, 586, 587, 588, 589, 165, 590, 591, 592, 593, 594, 595, 596, 597, 87, 96, 598, 599, 600, 601, 602, 603, 604, 605, 100, 156, 157, 158, 606, 607, 608, 609, 610, 611, 612, 95, 613, 1197, 1198, 1199, 1200, 1201, 1202, 1203, 1204, 1205, 1206, 1207, 1208, 1209, 1210, 1211, 1212, 1213, 1255, 1256, 1257, 1258, 1259, 1260, 1261, 1262, 1263, 1264, 1265, 1266, 1267, 1268] (by decide +kernel) (by decide +kernel)
set_option maxRecDepth 20000 in
theorem gL_law_X11_may : GoodIn wsL_law (wsV RL 56 RX11 yX11_may wsX11_may) := goodIn_app (goodIn_of _ (by decide +kernel)) ggL_law_X11_may
set_option maxRecDepth 20000 in
theorem ggL_law_X12_may : GoodIn wsL_law wsX12_may := goodIn_r _ [617, 516, 517, 518, 5, 519, 172, 203, 204, 205, 618, 619, 620, 621, 622, 623, 624, 625, 626, 627, 628, 629, 630, 631, 632, 1214, 1215, 1216, 1217, 1218, 1219, 1220, 1221, 1222, 1223, 1224, 1225, 1226, 1227, 1228, 1229, 1230, 1231, 1232, 1233, 1234, 1235, 1236, 1237, 1238, 1239, 1240, 1241, 1242, 1243, 1244, 1245, 1246] (by decide +kernel) (by decide +kernel)
set_option maxRecDepth 20000 in
theorem gL_law_X12_may : GoodIn wsL_law (wsV RL 60 RX12 yX12_may wsX12_may) := goodIn_app (goodIn_of _ (by decide +kernel)) ggL_law_X12_may
set_option maxRecDepth 20000 in
theorem ggL_law_X11_then : GoodIn wsL_law wsX11_then := goodIn_r _ [636, 553, 554, 555, 2, 556, 29, 557, 558, 559, 560, 508, 509, 510, 511, 433, 561, 562, 563, 564, 538, 565, 566, 138, 567, 568, 154, 155, 569, 570, 571, 27, 572, 101, 573, 574, 575, 576, 577, 578, 579, 580, 581, 582, 583, 584, 99, 153, 585, 586, 587, 588, 589, 165, 590, 591, 592, 593, 594, 595, 596, 597, 87, 96, 598, 599, 600, 601, 602, 603, 604, 605, 100, 156, 157, 158, 606, 607, 608, 609, 610, 611, 612, 95, 613, 637, 638, 639, 640, 641, 642, 643, 1197, 1198, 1199, 1200, 1201, 1202, 1203, 1204, 1205, 1206, 1207, 1208, 1209, 1210, 1211, 1212, 1213, 1255, 1256, 1257, 1258, 1259, 1260, 1261, 1262, 1263, 1264, 1265, 1266, 1267, 1268] (by decide +kernel) (by decide +kernel)
set_option maxRecDepth 20000 in
theorem gL_law_X11_then : GoodIn wsL_law (wsV RL 61 RX11 yX11_then wsX11_then) := goodIn_app (goodIn_of _ (by decide +kernel)) ggL_law_X11_then
set_option maxRecDepth 20000 in
theorem ggL_law_X12_then : GoodIn wsL_law wsX12_then := goodIn_r _ [647, 516, 517, 518, 5, 519, 172, 203, 204, 205, 618, 619, 620, 621, 622, 623, 624, 625, 626, 627, 628, 629, 630, 631, 632, 1214, 1215, 1216, 1217, 1218, 1219, 1220, 1221, 1222, 1223, 1224, 1225, 1226, 1227, 1228, 1229, 1230, 1231, 1232, 1233, 1234, 1235, 1236, 1237, 1238, 1239, 1240, 1241, 1242, 1243, 1244, 1245, 1246] (by decide +kernel) (by decide +kernel)
set_option maxRecDepth 20000 in
theorem gL_law_X12_then : GoodIn wsL_law (wsV RL 64 RX12 yX12_then wsX12_then) := goodIn_app (goodIn_of _ (by decide +kernel)) ggL_law_X12_then
set_option maxRecDepth 20000 in
theorem ggL_law_X11_costs : GoodIn wsL_law wsX11_costs := goodIn_r _ [651, 29, 553, 554, 555, 2, 556, 557, 558, 559, 560, 508, 509, 510, 511, 433, 561, 562, 563, 564, 538, 565, 566, 138, 567, 568, 154, 155, 569, 570, 571, 27, 572, 101, 573, 574, 575, 576, 577, 578, 579, 580, 581, 582, 583, 584, 99, 153, 585, 586, 587, 588, 589, 165, 590, 591, 592, 593, 594, 595, 596, 597, 87, 96, 598, 599, 600, 601, 602, 603, 604, 605, 100, 156, 157, 158, 606, 607, 608, 609, 610, 611, 612, 95, 613, 637, 638, 639, 640, 641, 642, 643, 652, 653, 654, 655, 97, 98, 163, 164, 166, 656, 657, 658, 659, 86, 89, 1197, 1198, 1199, 1200, 1201, 1202, 1203, 1204, 1205, 1206, 1207, 1208, 1209, 1210, 1211, 1212, 1213, 1255, 1256, 1257, 1258, 1259, 1260, 1261, 1262, 1263, 1264, 1265, 1266, 1267, 1268] (by decide +kernel) (by decide +kernel)
set_option maxRecDepth 20000 in
theorem gL_law_X11_costs : GoodIn wsL_law (wsV RL 65 RX11 yX11_costs wsX11_costs) := goodIn_app (goodIn_of _ (by decide +kernel)) ggL_law_X11_costs
set_option maxRecDepth 20000 in
theorem ggL_law_X12_costs : GoodIn wsL_law wsX12_costs := goodIn_r _ [663, 516, 517, 518, 5, 519, 172, 203, 204, 205, 618, 619, 620, 621, 622, 623, 624, 625, 664, 665, 666, 667, 489, 626, 627, 628, 629, 630, 631, 632, 668, 669, 670, 671, 672, 673, 674, 675, 1214, 1215, 1216, 1217, 1218, 1219, 1220, 1221, 1222, 1223, 1224, 1225, 1226, 1227, 1228, 1229, 1230, 1231, 1232, 1233, 1234, 1235, 1236, 1237, 1238, 1239, 1240, 1241, 1242, 1243, 1244, 1245, 1246] (by decide +kernel) (by decide +kernel)
set_option maxRecDepth 20000 in
theorem gL_law_X12_costs : GoodIn wsL_law (wsV RL 69 RX12 yX12_costs wsX12_costs) := goodIn_app (goodIn_of _ (by decide +kernel)) ggL_law_X12_costs
set_option maxRecDepth 20000 in
theorem ggL_law_X11_work : GoodIn wsL_law wsX11_work := goodIn_r _ [679, 29, 680, 164, 165, 166, 553, 554, 555, 2, 556, 557, 558, 559, 560, 508, 509, 510, 511, 433, 561, 562, 563, 564, 538, 565, 566, 138, 567, 568, 154, 155, 569, 570, 571, 27, 572, 101, 573, 574, 575, 576, 577, 578, 579, 580, 581, 582, 583, 584, 99, 153, 585, 586, 587, 588, 589, 590, 591, 592, 593, 594, 595, 596, 597, 87, 96, 598, 599, 600, 601, 602, 603, 604, 605, 100, 156, 157, 158, 606, 607, 608, 609, 610, 611, 612, 95, 613, 637, 638, 639, 640, 641, 642, 643, 681, 682, 657, 658, 659, 86, 89, 1197, 1198, 1199, 1200, 1201, 1202, 1203, 1204, 1205, 1206, 1207, 1208, 1209, 1210, 1211, 1212, 1213, 1255, 1256, 1257, 1258, 1259, 1260, 1261, 1262, 1263, 1264, 1265, 1266, 1267, 1268] (by decide +kernel) (by decide +kernel)
set_option maxRecDepth 20000 in
theorem gL_law_X11_work : GoodIn wsL_law (wsV RL 70 RX11 yX11_work wsX11_work) := goodIn_app (goodIn_of _ (by decide +kernel)) ggL_law_X11_work
set_option maxRecDepth 20000 in
theorem ggL_law_X12_work : GoodIn wsL_law wsX12_work := goodIn_r _ [686, 516, 517, 518, 5, 519, 172, 203, 204, 205, 618, 619, 620, 621, 622, 623, 624, 625, 664, 665, 666, 667, 489, 626, 627, 628, 629, 630, 631, 632, 672, 673, 674, 675, 1214, 1215, 1216, 1217, 1218, 1219, 1220, 1221, 1222, 1223, 1224, 1225, 1226, 1227, 1228, 1229, 1230, 1231, 1232, 1233, 1234, 1235, 1236, 1237, 1238, 1239, 1240, 1241, 1242, 1243, 1244, 1245, 1246] (by decide +kernel) (by decide +kernel)
set_option maxRecDepth 20000 in
theorem gL_law_X12_work : GoodIn wsL_law (wsV RL 74 RX12 yX12_work wsX12_work) := goodIn_app (goodIn_of _ (by decide +kernel)) ggL_law_X12_work
set_option maxRecDepth 20000 in
theorem ggL_law_X11_sunday : GoodIn wsL_law wsX11_sunday := goodIn_r _ [690, 691, 29, 692, 561, 562, 563, 2, 564, 538, 565, 566, 138, 567, 568, 154, 155, 693, 694, 695, 27, 696, 697, 143, 144, 145, 146, 698, 699, 700, 701, 90, 702, 703, 704, 705, 1197, 1198, 1199, 1200, 1201, 1202, 1203, 1204, 1205, 1206, 1207, 1208, 1209, 1210, 1211, 1212, 1213, 1255, 1256, 1257, 1258, 1259, 1260, 1261, 1262, 1263, 1264, 1265, 1266, 1267, 1268] (by decide +kernel) (by decide +kernel)
set_option maxRecDepth 20000 in
theorem gL_law_X11_sunday : GoodIn wsL_law (wsV RL 75 RX11 yX11_sunday wsX11_sunday) := goodIn_app (goodIn_of _ (by decide +kernel)) ggL_law_X11_sunday
set_option maxRecDepth 20000 in
theorem ggL_law_X12_sunday : GoodIn wsL_law wsX12_sunday := goodIn_r _ [709, 710, 711, 618, 619, 620, 5, 621, 622, 172, 203, 204, 205, 623, 624, 625, 712, 713, 714, 715, 716, 717, 718, 719, 720, 721, 722, 530, 531, 532, 533, 723, 724, 725, 726, 727, 728, 729, 730, 731, 1214, 1215, 1216, 1217, 1218, 1219, 1220, 1221, 1222, 1223, 1224, 1225, 1226, 1227, 1228, 1229, 1230, 1231, 1232, 1233, 1234, 1235, 1236, 1237, 1238, 1239, 1240, 1241, 1242, 1243, 1244, 1245, 1246] (by decide +kernel) (by decide +kernel)
set_option maxRecDepth 20000 in
theorem gL_law_X12_sunday : GoodIn wsL_law (wsV RL 79 RX12 yX12_sunday wsX12_sunday) := goodIn_app (goodIn_of _ (by decide +kernel)) ggL_law_X12_sunday
set_option maxRecDepth 20000 in
theorem ggL_law_X11_takes : GoodIn wsL_law wsX11_takes := goodIn_r _ [735, 29, 463, 464, 465, 2, 466, 508, 509, 510, 511, 433, 561, 562, 563, 564, 538, 565, 566, 138, 567, 568, 154, 155, 494, 495, 496, 497, 32, 736, 737, 738, 27, 739, 163, 164, 165, 166, 598, 589, 590, 594, 595, 596, 597, 87, 96, 153, 1197, 1198, 1199, 1200, 1201, 1202, 1203, 1204, 1205, 1206, 1207, 1208, 1209, 1210, 1211, 1212, 1213, 1255, 1256, 1257, 1258, 1259, 1260, 1261, 1262, 1263, 1264, 1265, 1266, 1267, 1268] (by decide +kernel) (by decide +kernel)
set_option maxRecDepth 20000 in
theorem gL_law_X11_takes : GoodIn wsL_law (wsV RL 80 RX11 yX11_takes wsX11_takes) := goodIn_app (goodIn_of _ (by decide +kernel)) ggL_law_X11_takes
set_option maxRecDepth 20000 in
theorem ggL_law_X12_takes : GoodIn wsL_law wsX12_takes := goodIn_r _ [743, 486, 487, 5, 488, 489, 203, 204, 205, 516, 517, 518, 519, 172, 618, 619, 620, 621, 622, 623, 624, 625, 744, 745, 746, 747, 174, 1214, 1215, 1216, 1217, 1218, 1219, 1220, 1221, 1222, 1223, 1224, 1225, 1226, 1227, 1228, 1229, 1230, 1231, 1232, 1233, 1234, 1235, 1236, 1237, 1238, 1239, 1240, 1241, 1242, 1243, 1244, 1245, 1246] (by decide +kernel) (by decide +kernel)
set_option maxRecDepth 20000 in
theorem gL_law_X12_takes : GoodIn wsL_law (wsV RL 83 RX12 yX12_takes wsX12_takes) := goodIn_app (goodIn_of _ (by decide +kernel)) ggL_law_X12_takes
set_option maxRecDepth 20000 in
theorem ggL_law_X11_mean : GoodIn wsL_law wsX11_mean := goodIn_r _ [751, 752, 36, 753, 754, 463, 464, 465, 2, 466, 557, 558, 559, 560, 29, 508, 509, 510, 511, 433, 561, 562, 563, 564, 538, 565, 566, 138, 567, 568, 154, 155, 569, 570, 571, 27, 572, 101, 755, 756, 757, 758, 759, 760, 761, 35, 762, 112, 763, 764, 765, 766, 106, 767, 768, 144, 145, 146, 494, 495, 496, 497, 32, 769, 770, 771, 772, 113, 773, 774, 775, 776, 737, 738, 739, 163, 164, 165, 166, 598, 589, 590, 594, 595, 596, 597, 87, 96, 153, 777, 778, 779, 780, 781, 782, 657, 658, 659, 86, 89, 783, 653, 654, 655, 97, 98, 99, 100, 599, 600, 579, 601, 656, 577, 578, 580, 784, 785, 786, 787, 788, 789, 699, 700, 701, 90, 790, 791, 792, 793, 794, 795, 796, 797, 102, 702, 703, 704, 705, 1197, 1198, 1199, 1200, 1201, 1202, 1203, 1204, 1205, 1206, 1207, 1208, 1209, 1210, 1211, 1212, 1213, 1269, 1270, 1271, 1272, 1273, 1274, 1255, 1256, 1257, 1258, 1259, 1260, 1261, 1262, 1263, 1264, 1265, 1266, 1267, 1268] (by decide +kernel) (by decide +kernel)
set_option maxRecDepth 20000 in
theorem gL_law_X11_mean : GoodIn wsL_law (wsV RL 84 RX11 yX11_mean wsX11_mean) := goodIn_app (goodIn_of _ (by decide +kernel)) ggL_law_X11_mean
set_option maxRecDepth 20000 in
theorem ggL_law_X12_mean : GoodIn wsL_law wsX12_mean := goodIn_r _ [801, 802, 711, 172, 486, 487, 5, 488, 489, 203, 204, 205, 516, 517, 518, 519, 618, 619, 620, 621, 622, 623, 624, 625, 664, 665, 666, 667, 803, 804, 805, 806, 176, 177, 807, 808, 809, 810, 744, 745, 746, 747, 174, 626, 627, 628, 629, 630, 631, 632, 668, 669, 670, 671, 672, 673, 674, 675, 811, 812, 813, 710, 814, 815, 816, 817, 712, 713, 714, 715, 716, 717, 718, 719, 720, 721, 722, 530, 531, 532, 533, 723, 724, 725, 726, 727, 728, 729, 730, 731, 1214, 1215, 1216, 1217, 1218, 1219, 1220, 1221, 1222, 1223, 1224, 1225, 1226, 1227, 1228, 1229, 1230, 1231, 1232, 1233, 1234, 1235, 1236, 1237, 1238, 1239, 1240, 1241, 1242, 1243, 1244, 1245, 1246] (by decide +kernel) (by decide +kernel)
set_option maxRecDepth 20000 in
theorem gL_law_X12_mean : GoodIn wsL_law (wsV RL 88 RX12 yX12_mean wsX12_mean) := goodIn_app (goodIn_of _ (by decide +kernel)) ggL_law_X12_mean
set_option maxRecDepth 20000 in
theorem ggL_law_X11_shortly : GoodIn wsL_law wsX11_shortly := goodIn_r _ [821, 752, 36, 822, 754, 463, 464, 465, 2, 466, 508, 509, 510, 511, 29, 433, 823, 824, 825, 826, 827, 828, 829, 830, 759, 760, 761, 35, 762, 112, 763, 764, 765, 766, 106, 767, 768, 144, 138, 145, 146, 494, 495, 496, 497, 32, 769, 770, 771, 772, 113, 773, 774, 775, 776, 737, 738, 27, 739, 163, 164, 165, 166, 598, 589, 590, 594, 595, 596, 597, 87, 96, 153, 154, 155, 777, 778, 779, 780, 781, 782, 657, 658, 659, 86, 89, 783, 653, 654, 655, 97, 98, 99, 100, 101, 599, 600, 579, 601, 656, 577, 578, 580, 784, 785, 786, 787, 788, 789, 699, 700, 701, 90, 702, 703, 704, 705, 1197, 1198, 1199, 1200, 1201, 1202, 1203, 1204, 1205, 1206, 1207, 1208, 1209, 1210, 1211, 1212, 1213, 1269, 1270, 1271, 1272, 1273, 1274, 1255, 1256, 1257, 1258, 1259, 1260, 1261, 1262, 1263, 1264, 1265, 1266, 1267, 1268] (by decide +kernel) (by decide +kernel)
set_option maxRecDepth 20000 in
theorem gL_law_X11_shortly : GoodIn wsL_law (wsV RL 89 RX11 yX11_shortly wsX11_shortly) := goodIn_app (goodIn_of _ (by decide +kernel)) ggL_law_X11_shortly
set_option maxRecDepth 20000 in
theorem ggL_law_X12_shortly : GoodIn wsL_law wsX12_shortly := goodIn_r _ [834, 802, 178, 486, 487, 5, 488, 489, 203, 204, 205, 516, 517, 518, 519, 172, 835, 836, 837, 838, 179, 744, 745, 746, 747, 174, 623, 624, 625, 626, 627, 628, 629, 630, 631, 632, 618, 619, 620, 621, 622, 712, 713, 714, 715, 716, 717, 718, 719, 720, 721, 722, 530, 531, 532, 533, 723, 724, 725, 839, 840, 841, 842, 672, 673, 674, 675, 811, 812, 813, 710, 726, 727, 728, 729, 730, 731, 1214, 1215, 1216, 1217, 1218, 1219, 1220, 1221, 1222, 1223, 1224, 1225, 1226, 1227, 1228, 1229, 1230, 1231, 1232, 1233, 1234, 1235, 1236, 1237, 1238, 1239, 1240, 1241, 1242, 1243, 1244, 1245, 1246] (by decide +kernel) (by decide +kernel)
set_option maxRecDepth 20000 in
theorem gL_law_X12_shortly : GoodIn wsL_law (wsV RL 92 RX12 yX12_shortly wsX12_shortly) := goodIn_app (goodIn_of _ (by decide +kernel)) ggL_law_X12_shortly
set_option maxRecDepth 20000 in
theorem ggL_law_X11_idle : GoodIn wsL_law wsX11_idle := goodIn_r _ [846, 752, 36, 847, 754, 463, 464, 465, 2, 466, 508, 509, 510, 511, 29, 433, 823, 824, 825, 826, 827, 828, 829, 830, 759, 760, 761, 35, 762, 112, 763, 764, 765, 766, 106, 767, 768, 144, 138, 145, 146, 494, 495, 496, 497, 32, 769, 770, 771, 772, 113, 773, 774, 775, 776, 737, 738, 27, 739, 163, 164, 165, 166, 598, 589, 590, 594, 595, 596, 597, 87, 96, 153, 154, 155, 777, 778, 779, 780, 781, 782, 657, 658, 659, 86, 89, 783, 653, 654, 655, 97, 98, 99, 100, 101, 599, 600, 579, 601, 656, 577, 578, 580, 784, 785, 786, 787, 788, 789, 699, 700, 701, 90, 702, 703, 704, 705, 1197, 1198, 1199, 1200, 1201, 1202, 1203, 1204, 1205, 1206, 1207, 1208, 1209, 1210, 1211, 1212, 1213, 1269, 1270, 1271, 1272, 1273, 1274, 1255, 1256, 1257, 1258, 1259, 1260, 1261, 1262, 1263, 1264, 1265, 1266, 1267, 1268] (by decide +kernel) (by decide +kernel)
set_option maxRecDepth 20000 in
theorem gL_law_X11_idle : GoodIn wsL_law (wsV RL 93 RX11 yX11_idle wsX11_idle) := goodIn_app (goodIn_of _ (by decide +kernel)) ggL_law_X11_idle
set_option maxRecDepth 20000 in
theorem ggL_law_X12_idle : GoodIn wsL_law wsX12_idle := goodIn_r _ [851, 802, 178, 486, 487, 5, 488, 489, 203, 204, 205, 516, 517, 518, 519, 172, 835, 836, 837, 838, 179, 744, 745, 746, 747, 174, 623, 624, 625, 626, 627, 628, 629, 630, 631, 632, 618, 619, 620, 621, 622, 712, 713, 714, 715, 716, 717, 718, 719, 720, 721, 722, 530, 531, 532, 533, 723, 724, 725, 839, 840, 841, 842, 672, 673, 674, 675, 811, 812, 813, 710, 726, 727, 728, 729, 730, 731, 1214, 1215, 1216, 1217, 1218, 1219, 1220, 1221, 1222, 1223, 1224, 1225, 1226, 1227, 1228, 1229, 1230, 1231, 1232, 1233, 1234, 1235, 1236, 1237, 1238, 1239, 1240, 1241, 1242, 1243, 1244, 1245, 1246] (by decide +kernel) (by decide +kernel)
set_option maxRecDepth 20000 in
theorem gL_law_X12_idle : GoodIn wsL_law (wsV RL 96 RX12 yX12_idle wsX12_idle) := goodIn_app (goodIn_of _ (by decide +kernel)) ggL_law_X12_idle
