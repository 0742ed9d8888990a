set_option maxRecDepth 20000 in
theorem ggL_law_X8_init : GoodIn wsL_law wsX8_init := goodIn_r _ [9, 10, 11, 12, 13, 14, 15, 16, 17, 18, 19, 20, 21, 22, 23, 24, 25, 26, 27, 28, 29, 30, 31, 32, 33, 34, 35, 36, 37, 38, 39, 40, 41, 42, 43, 44, 45, 46, 47, 48, 49, 50, 51, 52, 53, 54, 55, 56, 57, 58, 59, 60, 61, 62, 63, 64, 65, 66, 67, 68, 69, 70, 71, 72, 73, 74, 75, 76, 77, 78, 79, 80, 81, 82, 83, 84, 85, 86, 87, 88, 89, 90, 91, 92, 93, 94, 95, 96, 97, 98, 99, 100, 101, 102, 103, 104, 105, 106, 1137, 1138, 1139, 1106, 1107, 1108, 1109, 1110, 1111, 1112, 1113, 1114, 1115, 1116, 1140, 1141, 1142, 1143, 1144, 1145, 1146, 1147, 1148, 1149, 1150, 1151, 1152, 1153, 1154, 1155, 1156, 1157, 1158, 1159, 1160, 1161, 1162, 1163, 1164, 1165, 1166, 1167, 1168, 1169, 1170] (by decide +kernel) (by decide +kernel)
set_option maxRecDepth 20000 in
theorem gL_law_X8_init : GoodIn wsL_law (wsX8_init) := ggL_law_X8_init
set_option maxRecDepth 20000 in
theorem ggL_law_X9_init : GoodIn wsL_law wsX9_init := goodIn_r _ [109, 110, 11, 12, 47, 111, 112, 113, 114, 115, 116, 117, 105, 118, 119, 120, 121, 122, 123, 124, 5, 125, 1117, 1118, 1119, 1120, 1121, 1122, 1123, 1124, 1125, 1126, 1127, 1128, 1129, 1130, 1131, 1132, 1133, 1134, 1135, 1136] (by decide +kernel) (by decide +kernel)
set_option maxRecDepth 20000 in
theorem gL_law_X9_init : GoodIn wsL_law (wsX9_init) := ggL_law_X9_init
set_option maxRecDepth 20000 in
theorem ggL_law_X8_vatOf : GoodIn wsL_law wsX8_vatOf := goodIn_r _ [129, 130, 16, 131, 132, 133, 134, 2, 135, 136, 137, 138, 139, 140, 141, 142, 48, 143, 144, 145, 29, 146, 147, 148, 149, 150, 1106, 1107, 1108, 1109, 1110, 1111, 1112, 1113, 1114, 1115, 1116, 1137, 1138, 1139, 1140, 1141, 1142, 1143, 1149, 1150, 1151, 1152] (by decide +kernel) (by decide +kernel)
set_option maxRecDepth 20000 in
theorem gL_law_X8_vatOf : GoodIn wsL_law (wsV RL 13 RX8 yX8_vatOf wsX8_vatOf) := goodIn_app (goodIn_of _ (by decide +kernel)) ggL_law_X8_vatOf
set_option maxRecDepth 20000 in
theorem ggL_law_X9_vatOf : GoodIn wsL_law wsX9_vatOf := goodIn_r _ [154, 155, 156, 157, 5, 158, 159, 160, 161, 162, 163, 164, 165, 111, 166, 167, 168, 169, 112, 1117, 1118, 1119, 1120, 1121, 1122, 1123, 1124, 1125, 1126, 1127, 1128, 1129, 1130, 1131, 1132, 1133, 1134, 1135, 1136] (by decide +kernel) (by decide +kernel)
set_option maxRecDepth 20000 in
theorem gL_law_X9_vatOf : GoodIn wsL_law (wsV RL 17 RX9 yX9_vatOf wsX9_vatOf) := goodIn_app (goodIn_of _ (by decide +kernel)) ggL_law_X9_vatOf
set_option maxRecDepth 20000 in
theorem ggL_law_X8_vat : GoodIn wsL_law wsX8_vat := goodIn_r _ [173, 174, 130, 16, 131, 132, 133, 134, 2, 135, 136, 137, 138, 139, 140, 141, 142, 48, 143, 144, 145, 29, 146, 147, 148, 149, 150, 175, 176, 177, 178, 1106, 1107, 1108, 1109, 1110, 1111, 1112, 1113, 1114, 1115, 1116, 1137, 1138, 1139, 1140, 1141, 1142, 1143, 1149, 1150, 1151, 1152] (by decide +kernel) (by decide +kernel)
set_option maxRecDepth 20000 in
theorem gL_law_X8_vat : GoodIn wsL_law (wsV RL 18 RX8 yX8_vat wsX8_vat) := goodIn_app (goodIn_of _ (by decide +kernel)) ggL_law_X8_vat
set_option maxRecDepth 20000 in
theorem ggL_law_X9_vat : GoodIn wsL_law wsX9_vat := goodIn_r _ [182, 155, 156, 157, 5, 158, 159, 160, 161, 183, 184, 185, 186, 166, 167, 168, 169, 112, 162, 163, 164, 165, 111, 122, 123, 124, 125, 1117, 1118, 1119, 1120, 1121, 1122, 1123, 1124, 1125, 1126, 1127, 1128, 1129, 1130, 1131, 1132, 1133, 1134, 1135, 1136] (by decide +kernel) (by decide +kernel)
set_option maxRecDepth 20000 in
theorem gL_law_X9_vat : GoodIn wsL_law (wsV RL 22 RX9 yX9_vat wsX9_vat) := goodIn_app (goodIn_of _ (by decide +kernel)) ggL_law_X9_vat
set_option maxRecDepth 20000 in
theorem ggL_law_X8_let : GoodIn wsL_law wsX8_let := goodIn_r _ [190, 130, 16, 131, 191, 192, 136, 137, 2, 138, 139, 140, 141, 142, 48, 1106, 1107, 1108, 1109, 1110, 1111, 1112, 1113, 1114, 1115, 1116, 1137, 1138, 1139, 1140, 1141, 1142, 1143] (by decide +kernel) (by decide +kernel)
set_option maxRecDepth 20000 in
theorem gL_law_X8_let : GoodIn wsL_law (wsV RL 23 RX8 yX8_let wsX8_let) := goodIn_app (goodIn_of _ (by decide +kernel)) ggL_law_X8_let
set_option maxRecDepth 20000 in
theorem ggL_law_X9_let : GoodIn wsL_law wsX9_let := goodIn_r _ [196, 155, 111, 159, 160, 5, 161, 166, 167, 168, 169, 112, 1117, 1118, 1119, 1120, 1121, 1122, 1123, 1124, 1125, 1126, 1127, 1128, 1129, 1130, 1131, 1132, 1133, 1134, 1135, 1136] (by decide +kernel) (by decide +kernel)
set_option maxRecDepth 20000 in
theorem gL_law_X9_let : GoodIn wsL_law (wsV RL 26 RX9 yX9_let wsX9_let) := goodIn_app (goodIn_of _ (by decide +kernel)) ggL_law_X9_let
set_option maxRecDepth 20000 in
theorem ggL_law_X8_candle : GoodIn wsL_law wsX8_candle := goodIn_r _ [200, 130, 16, 201, 202, 203, 204, 2, 205, 136, 137, 138, 139, 140, 141, 142, 48, 206, 207, 208, 15, 209, 210, 56, 211, 212, 213, 214, 25, 215, 216, 217, 218, 1106, 1107, 1108, 1109, 1110, 1111, 1112, 1113, 1114, 1115, 1116, 1137, 1138, 1139, 1144, 1145, 1146, 1147, 1148] (by decide +kernel) (by decide +kernel)
set_option maxRecDepth 20000 in
theorem gL_law_X8_candle : GoodIn wsL_law (wsV RL 27 RX8 yX8_candle wsX8_candle) := goodIn_app (goodIn_of _ (by decide +kernel)) ggL_law_X8_candle
set_option maxRecDepth 20000 in
theorem ggL_law_X9_candle : GoodIn wsL_law wsX9_candle := goodIn_r _ [222, 155, 111, 223, 224, 225, 5, 226, 159, 160, 161, 166, 167, 168, 169, 112, 227, 228, 229, 230, 231, 232, 233, 1117, 1118, 1119, 1120, 1121, 1122, 1123, 1124, 1125, 1126, 1127, 1128, 1129, 1130, 1131, 1132, 1133, 1134, 1135, 1136] (by decide +kernel) (by decide +kernel)
set_option maxRecDepth 20000 in
theorem gL_law_X9_candle : GoodIn wsL_law (wsV RL 31 RX9 yX9_candle wsX9_candle) := goodIn_app (goodIn_of _ (by decide +kernel)) ggL_law_X9_candle
set_option maxRecDepth 20000 in
theorem ggL_law_X8_of : GoodIn wsL_law wsX8_of := goodIn_r _ [237, 16, 130, 238, 239, 240, 241, 242, 243, 244, 15, 245, 210, 137, 2, 138, 136, 139, 140, 141, 142, 48, 246, 247, 248, 25, 249, 217, 218, 250, 251, 252, 253, 254, 255, 256, 257, 258, 1106, 1107, 1108, 1109, 1110, 1111, 1112, 1113, 1114, 1115, 1116, 1137, 1138, 1139, 1144, 1145, 1146, 1147, 1148] (by decide +kernel) (by decide +kernel)
set_option maxRecDepth 20000 in
theorem gL_law_X8_of : GoodIn wsL_law (wsV RL 32 RX8 yX8_of wsX8_of) := goodIn_app (goodIn_of _ (by decide +kernel)) ggL_law_X8_of
set_option maxRecDepth 20000 in
theorem ggL_law_X9_of : GoodIn wsL_law wsX9_of := goodIn_r _ [262, 155, 263, 264, 265, 5, 266, 111, 159, 160, 161, 166, 167, 168, 169, 112, 267, 268, 269, 270, 231, 232, 233, 271, 272, 273, 274, 275, 276, 277, 278, 279, 280, 281, 282, 283, 284, 285, 286, 287, 288, 289, 1117, 1118, 1119, 1120, 1121, 1122, 1123, 1124, 1125, 1126, 1127, 1128, 1129, 1130, 1131, 1132, 1133, 1134, 1135, 1136] (by decide +kernel) (by decide +kernel)
set_option maxRecDepth 20000 in
theorem gL_law_X9_of : GoodIn wsL_law (wsV RL 35 RX9 yX9_of wsX9_of) := goodIn_app (goodIn_of _ (by decide +kernel)) ggL_law_X9_of
set_option maxRecDepth 20000 in
theorem ggL_law_X8_layer : GoodIn wsL_law wsX8_layer := goodIn_r _ [293, 16, 130, 238, 240, 294, 295, 242, 243, 244, 15, 245, 210, 137, 2, 138, 139, 140, 141, 142, 48, 136, 1106, 1107, 1108, 1109, 1110, 1111, 1112, 1113, 1114, 1115, 1116, 1137, 1138, 1139, 1144, 1145, 1146, 1147, 1148] (by decide +kernel) (by decide +kernel)
set_option maxRecDepth 20000 in
theorem gL_law_X8_layer : GoodIn wsL_law (wsV RL 36 RX8 yX8_layer wsX8_layer) := goodIn_app (goodIn_of _ (by decide +kernel)) ggL_law_X8_layer
set_option maxRecDepth 20000 in
theorem ggL_law_X9_layer : GoodIn wsL_law wsX9_layer := goodIn_r _ [299, 155, 300, 263, 264, 265, 5, 266, 111, 159, 160, 161, 166, 167, 168, 169, 112, 271, 272, 273, 274, 231, 232, 233, 279, 280, 281, 282, 1117, 1118, 1119, 1120, 1121, 1122, 1123, 1124, 1125, 1126, 1127, 1128, 1129, 1130, 1131, 1132, 1133, 1134, 1135, 1136] (by decide +kernel) (by decide +kernel)
set_option maxRecDepth 20000 in
theorem gL_law_X9_layer : GoodIn wsL_law (wsV RL 39 RX9 yX9_layer wsX9_layer) := goodIn_app (goodIn_of _ (by decide +kernel)) ggL_law_X9_layer
set_option maxRecDepth 20000 in
theorem ggL_law_X8_turn : GoodIn wsL_law wsX8_turn := goodIn_r _ [304, 16, 130, 238, 239, 242, 243, 244, 15, 245, 210, 137, 2, 138, 203, 204, 205, 136, 139, 140, 141, 142, 48, 1106, 1107, 1108, 1109, 1110, 1111, 1112, 1113, 1114, 1115, 1116, 1137, 1138, 1139, 1144, 1145, 1146, 1147, 1148] (by decide +kernel) (by decide +kernel)
set_option maxRecDepth 20000 in
theorem gL_law_X8_turn : GoodIn wsL_law (wsV RL 40 RX8 yX8_turn wsX8_turn) := goodIn_app (goodIn_of _ (by decide +kernel)) ggL_law_X8_turn
set_option maxRecDepth 20000 in
theorem ggL_law_X9_turn : GoodIn wsL_law wsX9_turn := goodIn_r _ [308, 155, 111, 263, 264, 265, 5, 266, 159, 160, 161, 224, 225, 226, 166, 167, 168, 169, 112, 267, 268, 269, 270, 231, 232, 233, 1117, 1118, 1119, 1120, 1121, 1122, 1123, 1124, 1125, 1126, 1127, 1128, 1129, 1130, 1131, 1132, 1133, 1134, 1135, 1136] (by decide +kernel) (by decide +kernel)
set_option maxRecDepth 20000 in
theorem gL_law_X9_turn : GoodIn wsL_law (wsV RL 43 RX9 yX9_turn wsX9_turn) := goodIn_app (goodIn_of _ (by decide +kernel)) ggL_law_X9_turn
set_option maxRecDepth 20000 in
theorem ggL_law_X8_as : GoodIn wsL_law wsX8_as := goodIn_r _ [312, 16, 130, 238, 239, 313, 242, 243, 244, 15, 245, 210, 137, 2, 138, 203, 204, 205, 136, 139, 140, 141, 142, 48, 314, 315, 316, 317, 250, 251, 252, 25, 253, 217, 218, 254, 255, 256, 257, 258, 1106, 1107, 1108, 1109, 1110, 1111, 1112, 1113, 1114, 1115, 1116, 1137, 1138, 1139, 1144, 1145, 1146, 1147, 1148] (by decide +kernel) (by decide +kernel)
set_option maxRecDepth 20000 in
theorem gL_law_X8_as : GoodIn wsL_law (wsV RL 44 RX8 yX8_as wsX8_as) := goodIn_app (goodIn_of _ (by decide +kernel)) ggL_law_X8_as
set_option maxRecDepth 20000 in
theorem ggL_law_X9_as : GoodIn wsL_law wsX9_as := goodIn_r _ [321, 155, 322, 263, 264, 265, 5, 266, 111, 159, 160, 161, 224, 225, 226, 166, 167, 168, 169, 112, 267, 268, 269, 270, 231, 232, 233, 323, 324, 325, 283, 284, 285, 286, 275, 276, 277, 278, 271, 272, 273, 274, 279, 280, 281, 282, 287, 288, 289, 1117, 1118, 1119, 1120, 1121, 1122, 1123, 1124, 1125, 1126, 1127, 1128, 1129, 1130, 1131, 1132, 1133, 1134, 1135, 1136] (by decide +kernel) (by decide +kernel)
set_option maxRecDepth 20000 in
theorem gL_law_X9_as : GoodIn wsL_law (wsV RL 47 RX9 yX9_as wsX9_as) := goodIn_app (goodIn_of _ (by decide +kernel)) ggL_law_X9_as
set_option maxRecDepth 20000 in
theorem ggL_law_X8_takes : GoodIn wsL_law wsX8_takes := goodIn_r _ [329, 16, 130, 238, 131, 132, 330, 242, 243, 244, 15, 245, 210, 137, 2, 138, 133, 134, 135, 136, 139, 140, 141, 142, 48, 331, 332, 333, 25, 334, 254, 216, 335, 336, 337, 338, 339, 340, 1106, 1107, 1108, 1109, 1110, 1111, 1112, 1113, 1114, 1115, 1116, 1137, 1138, 1139, 1140, 1141, 1142, 1143, 1149, 1150, 1151, 1152, 1144, 1145, 1146, 1147, 1148] (by decide +kernel) (by decide +kernel)
set_option maxRecDepth 20000 in
theorem gL_law_X8_takes : GoodIn wsL_law (wsV RL 48 RX8 yX8_takes wsX8_takes) := goodIn_app (goodIn_of _ (by decide +kernel)) ggL_law_X8_takes
set_option maxRecDepth 20000 in
theorem ggL_law_X9_takes : GoodIn wsL_law wsX9_takes := goodIn_r _ [344, 155, 263, 264, 265, 5, 266, 111, 159, 160, 161, 156, 157, 158, 162, 163, 164, 165, 345, 346, 347, 348, 349, 350, 351, 267, 268, 269, 270, 231, 232, 233, 271, 272, 273, 274, 166, 167, 168, 169, 112, 1117, 1118, 1119, 1120, 1121, 1122, 1123, 1124, 1125, 1126, 1127, 1128, 1129, 1130, 1131, 1132, 1133, 1134, 1135, 1136] (by decide +kernel) (by decide +kernel)
set_option maxRecDepth 20000 in
theorem gL_law_X9_takes : GoodIn wsL_law (wsV RL 51 RX9 yX9_takes wsX9_takes) := goodIn_app (goodIn_of _ (by decide +kernel)) ggL_law_X9_takes
set_option maxRecDepth 20000 in
theorem ggL_law_X8_dip : GoodIn wsL_law wsX8_dip := goodIn_r _ [355, 16, 130, 238, 356, 131, 132, 242, 243, 244, 15, 245, 210, 137, 2, 138, 133, 134, 135, 136, 139, 140, 141, 142, 48, 357, 358, 359, 25, 360, 216, 361, 362, 363, 364, 365, 366, 367, 368, 332, 333, 334, 254, 335, 336, 337, 338, 339, 340, 369, 370, 371, 29, 372, 149, 373, 256, 257, 258, 374, 375, 376, 377, 218, 75, 217, 378, 379, 380, 381, 382, 383, 384, 255, 385, 386, 387, 388, 389, 390, 391, 392, 393, 394, 395, 396, 397, 148, 398, 399, 400, 246, 247, 248, 249, 1106, 1107, 1108, 1109, 1110, 1111, 1112, 1113, 1114, 1115, 1116, 1137, 1138, 1139, 1140, 1141, 1142, 1143, 1144, 1145, 1146, 1147, 1148, 1149, 1150, 1151, 1152] (by decide +kernel) (by decide +kernel)
set_option maxRecDepth 20000 in
theorem gL_law_X8_dip : GoodIn wsL_law (wsV RL 52 RX8 yX8_dip wsX8_dip) := goodIn_app (goodIn_of _ (by decide +kernel)) ggL_law_X8_dip
set_option maxRecDepth 20000 in
theorem ggL_law_X9_dip : GoodIn wsL_law wsX9_dip := goodIn_r _ [404, 155, 405, 263, 264, 265, 5, 266, 111, 159, 160, 161, 156, 157, 158, 166, 167, 168, 169, 112, 271, 272, 273, 274, 231, 232, 233, 406, 407, 408, 409, 162, 163, 164, 165, 345, 346, 347, 348, 349, 350, 351, 267, 268, 269, 270, 122, 123, 124, 125, 410, 411, 412, 413, 279, 280, 281, 282, 414, 415, 416, 417, 186, 275, 276, 277, 278, 1117, 1118, 1119, 1120, 1121, 1122, 1123, 1124, 1125, 1126, 1127, 1128, 1129, 1130, 1131, 1132, 1133, 1134, 1135, 1136] (by decide +kernel) (by decide +kernel)
set_option maxRecDepth 20000 in
theorem gL_law_X9_dip : GoodIn wsL_law (wsV RL 55 RX9 yX9_dip wsX9_dip) := goodIn_app (goodIn_of _ (by decide +kernel)) ggL_law_X9_dip
set_option maxRecDepth 20000 in
theorem ggL_law_X8_melt : GoodIn wsL_law wsX8_melt := goodIn_r _ [421, 16, 130, 238, 131, 132, 242, 243, 244, 15, 245, 210, 137, 2, 138, 133, 134, 135, 136, 139, 140, 141, 142, 48, 246, 247, 248, 25, 249, 217, 218, 422, 390, 391, 29, 392, 393, 149, 373, 256, 257, 258, 423, 213, 214, 215, 216, 1106, 1107, 1108, 1109, 1110, 1111, 1112, 1113, 1114, 1115, 1116, 1137, 1138, 1139, 1140, 1141, 1142, 1143, 1144, 1145, 1146, 1147, 1148, 1149, 1150, 1151, 1152] (by decide +kernel) (by decide +kernel)
set_option maxRecDepth 20000 in
theorem gL_law_X8_melt : GoodIn wsL_law (wsV RL 56 RX8 yX8_melt wsX8_melt) := goodIn_app (goodIn_of _ (by decide +kernel)) ggL_law_X8_melt
set_option maxRecDepth 20000 in
theorem ggL_law_X9_melt : GoodIn wsL_law wsX9_melt := goodIn_r _ [427, 155, 111, 263, 264, 265, 5, 266, 159, 160, 161, 156, 157, 158, 166, 167, 168, 169, 112, 275, 276, 277, 278, 271, 272, 273, 274, 231, 232, 233, 279, 280, 281, 282, 414, 415, 416, 417, 186, 162, 163, 164, 165, 122, 123, 124, 125, 1117, 1118, 1119, 1120, 1121, 1122, 1123, 1124, 1125, 1126, 1127, 1128, 1129, 1130, 1131, 1132, 1133, 1134, 1135, 1136] (by decide +kernel) (by decide +kernel)
set_option maxRecDepth 20000 in
theorem gL_law_X9_melt : GoodIn wsL_law (wsV RL 59 RX9 yX9_melt wsX9_melt) := goodIn_app (goodIn_of _ (by decide +kernel)) ggL_law_X9_melt
set_option maxRecDepth 20000 in
theorem ggL_law_X8_burn : GoodIn wsL_law wsX8_burn := goodIn_r _ [431, 16, 130, 238, 242, 243, 244, 15, 245, 210, 137, 2, 138, 136, 139, 140, 141, 142, 48, 432, 433, 434, 25, 435, 216, 75, 382, 383, 257, 384, 255, 256, 258, 385, 386, 387, 388, 218, 217, 246, 247, 248, 249, 1106, 1107, 1108, 1109, 1110, 1111, 1112, 1113, 1114, 1115, 1116, 1137, 1138, 1139, 1144, 1145, 1146, 1147, 1148] (by decide +kernel) (by decide +kernel)
set_option maxRecDepth 20000 in
theorem gL_law_X8_burn : GoodIn wsL_law (wsV RL 60 RX8 yX8_burn wsX8_burn) := goodIn_app (goodIn_of _ (by decide +kernel)) ggL_law_X8_burn
set_option maxRecDepth 20000 in
theorem ggL_law_X9_burn : GoodIn wsL_law wsX9_burn := goodIn_r _ [439, 155, 263, 264, 265, 5, 266, 111, 159, 160, 161, 166, 167, 168, 169, 112, 271, 272, 273, 274, 231, 232, 233, 279, 280, 281, 282, 410, 411, 412, 413, 275, 276, 277, 278, 1117, 1118, 1119, 1120, 1121, 1122, 1123, 1124, 1125, 1126, 1127, 1128, 1129, 1130, 1131, 1132, 1133, 1134, 1135, 1136] (by decide +kernel) (by decide +kernel)
set_option maxRecDepth 20000 in
theorem gL_law_X9_burn : GoodIn wsL_law (wsV RL 63 RX9 yX9_burn wsX9_burn) := goodIn_app (goodIn_of _ (by decide +kernel)) ggL_law_X9_burn
set_option maxRecDepth 20000 in
theorem ggL_law_X8_hours : GoodIn wsL_law wsX8_hours := goodIn_r _ [443, 130, 16, 131, 444, 356, 191, 136, 137, 2, 138, 139, 140, 141, 142, 48, 445, 446, 447, 21, 448, 62, 449, 450, 451, 452, 453, 454, 66, 67, 455, 456, 457, 29, 458, 148, 373, 256, 257, 258, 459, 395, 396, 397, 398, 399, 400, 1106, 1107, 1108, 1109, 1110, 1111, 1112, 1113, 1114, 1115, 1116, 1137, 1138, 1139, 1140, 1141, 1142, 1143, 1149, 1150, 1151, 1152] (by decide +kernel) (by decide +kernel)
set_option maxRecDepth 20000 in
theorem gL_law_X8_hours : GoodIn wsL_law (wsV RL 64 RX8 yX8_hours wsX8_hours) := goodIn_app (goodIn_of _ (by decide +kernel)) ggL_law_X8_hours
set_option maxRecDepth 20000 in
theorem ggL_law_X9_hours : GoodIn wsL_law wsX9_hours := goodIn_r _ [463, 155, 111, 405, 159, 160, 5, 161, 166, 167, 168, 169, 112, 464, 465, 466, 467, 468, 469, 470, 471, 162, 163, 164, 165, 122, 123, 124, 125, 1117, 1118, 1119, 1120, 1121, 1122, 1123, 1124, 1125, 1126, 1127, 1128, 1129, 1130, 1131, 1132, 1133, 1134, 1135, 1136] (by decide +kernel) (by decide +kernel)
set_option maxRecDepth 20000 in
theorem gL_law_X9_hours : GoodIn wsL_law (wsV RL 67 RX9 yX9_hours wsX9_hours) := goodIn_app (goodIn_of _ (by decide +kernel)) ggL_law_X9_hours
set_option maxRecDepth 20000 in
theorem ggL_law_X8_now : GoodIn wsL_law wsX8_now := goodIn_r _ [475, 16, 131, 444, 191, 192, 130, 476, 477, 478, 21, 479, 62, 65, 480, 481, 482, 15, 483, 210, 56, 484, 247, 248, 25, 249, 217, 218, 139, 140, 141, 2, 142, 48, 136, 137, 138, 1106, 1107, 1108, 1109, 1110, 1111, 1112, 1113, 1114, 1115, 1116, 1137, 1138, 1139, 1140, 1141, 1142, 1143, 1149, 1150, 1151, 1152, 1144, 1145, 1146, 1147, 1148] (by decide +kernel) (by decide +kernel)
set_option maxRecDepth 20000 in
theorem gL_law_X8_now : GoodIn wsL_law (wsV RL 68 RX8 yX8_now wsX8_now) := goodIn_app (goodIn_of _ (by decide +kernel)) ggL_law_X8_now
set_option maxRecDepth 20000 in
theorem ggL_law_X9_now : GoodIn wsL_law wsX9_now := goodIn_r _ [488, 111, 155, 162, 163, 164, 5, 165, 275, 276, 277, 278, 271, 272, 273, 274, 231, 232, 233, 279, 280, 281, 282, 166, 167, 168, 169, 112, 1117, 1118, 1119, 1120, 1121, 1122, 1123, 1124, 1125, 1126, 1127, 1128, 1129, 1130, 1131, 1132, 1133, 1134, 1135, 1136] (by decide +kernel) (by decide +kernel)
set_option maxRecDepth 20000 in
theorem gL_law_X9_now : GoodIn wsL_law (wsV RL 71 RX9 yX9_now wsX9_now) := goodIn_app (goodIn_of _ (by decide +kernel)) ggL_law_X9_now
set_option maxRecDepth 20000 in
theorem ggL_law_X8_warm : GoodIn wsL_law wsX8_warm := goodIn_r _ [492, 130, 16, 131, 444, 356, 22, 132, 330, 133, 134, 2, 135, 136, 137, 138, 139, 140, 141, 142, 48, 493, 494, 495, 21, 496, 62, 66, 67, 449, 497, 498, 499, 29, 500, 147, 148, 149, 150, 445, 446, 447, 448, 450, 451, 452, 453, 454, 455, 456, 457, 458, 373, 256, 257, 258, 459, 395, 396, 397, 398, 399, 400, 1106, 1107, 1108, 1109, 1110, 1111, 1112, 1113, 1114, 1115, 1116, 1137, 1138, 1139, 1140, 1141, 1142, 1143, 1149, 1150, 1151, 1152] (by decide +kernel) (by decide +kernel)
set_option maxRecDepth 20000 in
theorem gL_law_X8_warm : GoodIn wsL_law (wsV RL 72 RX8 yX8_warm wsX8_warm) := goodIn_app (goodIn_of _ (by decide +kernel)) ggL_law_X8_warm
set_option maxRecDepth 20000 in
theorem ggL_law_X9_warm : GoodIn wsL_law wsX9_warm := goodIn_r _ [504, 155, 111, 405, 113, 156, 157, 5, 158, 159, 160, 161, 166, 167, 168, 169, 112, 505, 506, 507, 508, 464, 465, 466, 467, 468, 469, 470, 471, 162, 163, 164, 165, 122, 123, 124, 125, 1117, 1118, 1119, 1120, 1121, 1122, 1123, 1124, 1125, 1126, 1127, 1128, 1129, 1130, 1131, 1132, 1133, 1134, 1135, 1136] (by decide +kernel) (by decide +kernel)
set_option maxRecDepth 20000 in
theorem gL_law_X9_warm : GoodIn wsL_law (wsV RL 75 RX9 yX9_warm wsX9_warm) := goodIn_app (goodIn_of _ (by decide +kernel)) ggL_law_X9_warm
set_option maxRecDepth 20000 in
theorem ggL_law_X8_when : GoodIn wsL_law wsX8_when := goodIn_r _ [512, 130, 16, 131, 444, 356, 22, 132, 330, 294, 133, 134, 2, 135, 136, 137, 138, 139, 140, 141, 142, 48, 493, 494, 495, 21, 496, 62, 66, 67, 449, 497, 498, 499, 29, 500, 147, 148, 149, 150, 445, 446, 447, 448, 450, 451, 452, 453, 454, 455, 456, 457, 458, 373, 256, 257, 258, 459, 395, 396, 397, 398, 399, 400, 1106, 1107, 1108, 1109, 1110, 1111, 1112, 1113, 1114, 1115, 1116, 1137, 1138, 1139, 1140, 1141, 1142, 1143, 1149, 1150, 1151, 1152] (by decide +kernel) (by decide +kernel)
set_option maxRecDepth 20000 in
theorem gL_law_X8_when : GoodIn wsL_law (wsV RL 76 RX8 yX8_when wsX8_when) := goodIn_app (goodIn_of _ (by decide +kernel)) ggL_law_X8_when
set_option maxRecDepth 20000 in
theorem ggL_law_X9_when : GoodIn wsL_law wsX9_when := goodIn_r _ [516, 155, 111, 405, 113, 300, 156, 157, 5, 158, 159, 160, 161, 166, 167, 168, 169, 112, 505, 506, 507, 508, 162, 163, 164, 165, 468, 469, 470, 471, 122, 123, 124, 125, 1117, 1118, 1119, 1120, 1121, 1122, 1123, 1124, 1125, 1126, 1127, 1128, 1129, 1130, 1131, 1132, 1133, 1134, 1135, 1136] (by decide +kernel) (by decide +kernel)
set_option maxRecDepth 20000 in
theorem gL_law_X9_when : GoodIn wsL_law (wsV RL 79 RX9 yX9_when wsX9_when) := goodIn_app (goodIn_of _ (by decide +kernel)) ggL_law_X9_when
set_option maxRecDepth 20000 in
theorem ggL_law_X8_takesIn : GoodIn wsL_law wsX8_takesIn := goodIn_r _ [520, 16, 130, 131, 444, 356, 238, 22, 132, 330, 294, 242, 243, 244, 15, 245, 210, 137, 2, 138, 133, 134, 135, 136, 139, 140, 141, 142, 48, 493, 494, 495, 21, 496, 62, 66, 67, 449, 497, 498, 499, 29, 500, 147, 148, 149, 150, 331, 332, 333, 25, 334, 254, 216, 335, 336, 337, 338, 339, 340, 445, 446, 447, 448, 450, 451, 452, 453, 454, 455, 456, 457, 458, 373, 256, 257, 258, 459, 395, 396, 397, 398, 399, 400, 1106, 1107, 1108, 1109, 1110, 1111, 1112, 1113, 1114, 1115, 1116, 1137, 1138, 1139, 1140, 1141, 1142, 1143, 1149, 1150, 1151, 1152, 1144, 1145, 1146, 1147, 1148] (by decide +kernel) (by decide +kernel)
set_option maxRecDepth 20000 in
theorem gL_law_X8_takesIn : GoodIn wsL_law (wsV RL 80 RX8 yX8_takesIn wsX8_takesIn) := goodIn_app (goodIn_of _ (by decide +kernel)) ggL_law_X8_takesIn
set_option maxRecDepth 20000 in
theorem ggL_law_X9_takesIn : GoodIn wsL_law wsX9_takesIn := goodIn_r _ [524, 155, 111, 405, 113, 300, 263, 264, 265, 5, 266, 159, 160, 161, 156, 157, 158, 166, 167, 168, 169, 112, 505, 506, 507, 508, 162, 163, 164, 165, 345, 346, 347, 348, 349, 350, 351, 267, 268, 269, 270, 231, 232, 233, 271, 272, 273, 274, 468, 469, 470, 471, 122, 123, 124, 125, 1117, 1118, 1119, 1120, 1121, 1122, 1123, 1124, 1125, 1126, 1127, 1128, 1129, 1130, 1131, 1132, 1133, 1134, 1135, 1136] (by decide +kernel) (by decide +kernel)
set_option maxRecDepth 20000 in
theorem gL_law_X9_takesIn : GoodIn wsL_law (wsV RL 83 RX9 yX9_takesIn wsX9_takesIn) := goodIn_app (goodIn_of _ (by decide +kernel)) ggL_law_X9_takesIn
set_option maxRecDepth 20000 in
theorem ggL_law_X8_burns : GoodIn wsL_law wsX8_burns := goodIn_r _ [528, 16, 130, 238, 239, 131, 132, 242, 243, 244, 15, 245, 210, 137, 2, 138, 133, 134, 135, 136, 139, 140, 141, 142, 48, 529, 530, 531, 532, 26, 30, 533, 534, 535, 25, 536, 254, 216, 217, 218, 75, 537, 538, 539, 540, 541, 498, 499, 29, 500, 147, 148, 149, 150, 361, 362, 363, 364, 365, 366, 367, 358, 359, 360, 368, 332, 333, 334, 335, 336, 337, 338, 339, 340, 369, 370, 371, 372, 373, 256, 257, 258, 374, 375, 376, 377, 378, 379, 380, 381, 382, 383, 384, 255, 385, 386, 387, 388, 389, 390, 391, 392, 393, 394, 395, 396, 397, 398, 399, 400, 250, 251, 252, 253, 1106, 1107, 1108, 1109, 1110, 1111, 1112, 1113, 1114, 1115, 1116, 1137, 1138, 1139, 1144, 1145, 1146, 1147, 1148, 1140, 1141, 1142, 1143, 1149, 1150, 1151, 1152] (by decide +kernel) (by decide +kernel)
set_option maxRecDepth 20000 in
theorem gL_law_X8_burns : GoodIn wsL_law (wsV RL 84 RX8 yX8_burns wsX8_burns) := goodIn_app (goodIn_of _ (by decide +kernel)) ggL_law_X8_burns
set_option maxRecDepth 20000 in
theorem ggL_law_X9_burns : GoodIn wsL_law wsX9_burns := goodIn_r _ [545, 155, 263, 264, 265, 5, 266, 111, 159, 160, 161, 156, 157, 158, 166, 167, 168, 169, 112, 546, 547, 548, 549, 114, 231, 232, 233, 550, 551, 552, 553, 406, 407, 408, 409, 271, 272, 273, 274, 162, 163, 164, 165, 345, 346, 347, 348, 349, 350, 351, 267, 268, 269, 270, 122, 123, 124, 125, 410, 411, 412, 413, 279, 280, 281, 282, 414, 415, 416, 417, 186, 283, 284, 285, 286, 275, 276, 277, 278, 287, 288, 289, 554, 555, 556, 557, 1117, 1118, 1119, 1120, 1121, 1122, 1123, 1124, 1125, 1126, 1127, 1128, 1129, 1130, 1131, 1132, 1133, 1134, 1135, 1136] (by decide +kernel) (by decide +kernel)
set_option maxRecDepth 20000 in
theorem gL_law_X9_burns : GoodIn wsL_law (wsV RL 87 RX9 yX9_burns wsX9_burns) := goodIn_app (goodIn_of _ (by decide +kernel)) ggL_law_X9_burns
set_option maxRecDepth 20000 in
theorem ggL_law_X8_fewest : GoodIn wsL_law wsX8_fewest := goodIn_r _ [561, 16, 130, 238, 294, 242, 243, 244, 15, 245, 210, 137, 2, 138, 136, 139, 140, 141, 142, 48, 562, 563, 564, 565, 34, 131, 566, 567, 568, 569, 33, 570, 83, 85, 571, 572, 573, 574, 575, 576, 494, 495, 21, 496, 62, 66, 67, 449, 497, 498, 499, 29, 500, 147, 148, 149, 150, 577, 534, 535, 25, 536, 254, 216, 217, 218, 75, 537, 538, 539, 540, 578, 579, 580, 581, 582, 583, 584, 585, 251, 252, 253, 255, 256, 257, 258, 586, 587, 588, 589, 590, 591, 592, 593, 594, 362, 363, 364, 365, 366, 367, 358, 359, 360, 368, 332, 333, 334, 335, 336, 337, 338, 339, 340, 369, 370, 371, 372, 373, 374, 375, 376, 377, 378, 379, 380, 381, 382, 383, 384, 385, 386, 387, 388, 389, 390, 391, 392, 393, 394, 395, 396, 397, 398, 399, 400, 1106, 1107, 1108, 1109, 1110, 1111, 1112, 1113, 1114, 1115, 1116, 1137, 1138, 1139, 1153, 1154, 1155, 1156, 1157, 1158, 1159, 1140, 1141, 1142, 1143, 1149, 1150, 1151, 1152, 1144, 1145, 1146, 1147, 1148] (by decide +kernel) (by decide +kernel)
set_option maxRecDepth 20000 in
theorem gL_law_X8_fewest : GoodIn wsL_law (wsV RL 88 RX8 yX8_fewest wsX8_fewest) := goodIn_app (goodIn_of _ (by decide +kernel)) ggL_law_X8_fewest
set_option maxRecDepth 20000 in
theorem ggL_law_X9_fewest : GoodIn wsL_law wsX9_fewest := goodIn_r _ [598, 155, 300, 263, 264, 265, 5, 266, 111, 159, 160, 161, 599, 600, 601, 166, 167, 168, 169, 112, 602, 603, 604, 605, 606, 546, 547, 548, 549, 114, 231, 232, 233, 607, 608, 609, 610, 611, 612, 613, 614, 406, 407, 408, 409, 271, 272, 273, 274, 162, 163, 164, 165, 345, 346, 347, 348, 349, 350, 351, 267, 268, 269, 270, 122, 123, 124, 125, 410, 411, 412, 413, 279, 280, 281, 282, 414, 415, 416, 417, 186, 283, 284, 285, 286, 275, 276, 277, 278, 287, 288, 289, 554, 555, 556, 557, 1117, 1118, 1119, 1120, 1121, 1122, 1123, 1124, 1125, 1126, 1127, 1128, 1129, 1130, 1131, 1132, 1133, 1134, 1135, 1136] (by decide +kernel) (by decide +kernel)
set_option maxRecDepth 20000 in
theorem gL_law_X9_fewest : GoodIn wsL_law (wsV RL 91 RX9 yX9_fewest wsX9_fewest) := goodIn_app (goodIn_of _ (by decide +kernel)) ggL_law_X9_fewest
set_option maxRecDepth 20000 in
theorem ggL_law_X8_ith : GoodIn wsL_law wsX8_ith := goodIn_r _ [618, 16, 130, 238, 294, 34, 566, 242, 243, 244, 15, 245, 210, 137, 2, 138, 136, 139, 140, 141, 142, 48, 562, 563, 564, 565, 131, 567, 568, 569, 33, 570, 83, 85, 571, 572, 573, 574, 575, 576, 494, 495, 21, 496, 62, 66, 67, 449, 497, 498, 499, 29, 500, 147, 148, 149, 150, 577, 534, 535, 25, 536, 254, 216, 217, 218, 75, 537, 538, 539, 540, 578, 579, 580, 581, 582, 583, 584, 585, 251, 252, 253, 255, 256, 257, 258, 586, 587, 588, 589, 590, 591, 592, 593, 594, 362, 363, 364, 365, 366, 367, 358, 359, 360, 368, 332, 333, 334, 335, 336, 337, 338, 339, 340, 369, 370, 371, 372, 373, 374, 375, 376, 377, 378, 379, 380, 381, 382, 383, 384, 385, 386, 387, 388, 389, 390, 391, 392, 393, 394, 395, 396, 397, 398, 399, 400, 1106, 1107, 1108, 1109, 1110, 1111, 1112, 1113, 1114, 1115, 1116, 1137, 1138, 1139, 1153, 1154, 1155, 1156, 1157, 1158, 1159, 1140, 1141, 1142, 1143, 1149, 1150, 1151, 1152, 1144, 1145, 1146, 1147, 1148] (by decide +kernel) (by decide +kernel)
set_option maxRecDepth 20000 in
theorem gL_law_X8_ith : GoodIn wsL_law (wsV RL 92 RX8 yX8_ith wsX8_ith) := goodIn_app (goodIn_of _ (by decide +kernel)) ggL_law_X8_ith
