set_option maxRecDepth 20000 in
theorem ggL_law_X9_ith : GoodIn wsL_law wsX9_ith := goodIn_r _ [623, 155, 300, 607, 263, 264, 265, 5, 266, 111, 159, 160, 161, 600, 601, 602, 166, 167, 168, 169, 112, 603, 604, 605, 606, 547, 548, 549, 550, 114, 231, 232, 233, 608, 609, 610, 611, 612, 613, 614, 615, 407, 408, 409, 410, 271, 272, 273, 274, 162, 163, 164, 165, 346, 347, 348, 349, 350, 351, 352, 267, 268, 269, 270, 122, 123, 124, 125, 411, 412, 413, 414, 279, 280, 281, 282, 415, 416, 417, 418, 186, 283, 284, 285, 286, 275, 276, 277, 278, 287, 288, 289, 555, 556, 557, 558, 1118, 1119, 1120, 1121, 1122, 1123, 1124, 1125, 1126, 1127, 1128, 1129, 1130, 1131, 1132, 1133, 1134, 1135, 1136, 1137] (by decide +kernel) (by decide +kernel)
set_option maxRecDepth 20000 in
theorem gL_law_X9_ith : GoodIn wsL_law (wsV RL 95 RX9 yX9_ith wsX9_ith) := goodIn_app (goodIn_of _ (by decide +kernel)) ggL_law_X9_ith
set_option maxRecDepth 20000 in
theorem ggL_law_X8_ways : GoodIn wsL_law wsX8_ways := goodIn_r _ [627, 16, 130, 34, 131, 238, 628, 242, 243, 244, 15, 245, 210, 137, 2, 138, 136, 139, 140, 141, 142, 48, 568, 569, 570, 33, 571, 83, 85, 572, 573, 574, 575, 576, 577, 495, 496, 21, 497, 62, 66, 67, 450, 498, 499, 500, 29, 501, 147, 148, 149, 150, 578, 535, 536, 25, 537, 254, 216, 217, 218, 75, 538, 539, 540, 541, 579, 580, 581, 582, 583, 584, 585, 586, 251, 252, 253, 255, 256, 257, 258, 587, 588, 589, 590, 591, 592, 593, 594, 595, 363, 364, 365, 366, 367, 368, 359, 360, 361, 369, 332, 333, 334, 335, 336, 337, 338, 339, 340, 341, 370, 371, 372, 373, 374, 375, 376, 377, 378, 379, 380, 381, 382, 383, 384, 385, 386, 387, 388, 389, 390, 391, 392, 393, 394, 395, 396, 397, 398, 399, 400, 401, 1107, 1108, 1109, 1110, 1111, 1112, 1113, 1114, 1115, 1116, 1117, 1138, 1139, 1140, 1154, 1155, 1156, 1157, 1158, 1159, 1160, 1141, 1142, 1143, 1144, 1150, 1151, 1152, 1153, 1145, 1146, 1147, 1148, 1149] (by decide +kernel) (by decide +kernel)
set_option maxRecDepth 20000 in
theorem gL_law_X8_ways : GoodIn wsL_law (wsV RL 96 RX8 yX8_ways wsX8_ways) := goodIn_app (goodIn_of _ (by decide +kernel)) ggL_law_X8_ways
set_option maxRecDepth 20000 in
theorem ggL_law_X9_ways : GoodIn wsL_law wsX9_ways := goodIn_r _ [632, 155, 263, 264, 265, 5, 266, 111, 159, 160, 161, 600, 601, 602, 166, 167, 168, 169, 112, 547, 548, 549, 550, 114, 231, 232, 233, 612, 613, 614, 615, 407, 408, 409, 410, 271, 272, 273, 274, 162, 163, 164, 165, 346, 347, 348, 349, 350, 351, 352, 267, 268, 269, 270, 122, 123, 124, 125, 411, 412, 413, 414, 279, 280, 281, 282, 415, 416, 417, 418, 186, 283, 284, 285, 286, 275, 276, 277, 278, 287, 288, 289, 555, 556, 557, 558, 1118, 1119, 1120, 1121, 1122, 1123, 1124, 1125, 1126, 1127, 1128, 1129, 1130, 1131, 1132, 1133, 1134, 1135, 1136, 1137] (by decide +kernel) (by decide +kernel)
set_option maxRecDepth 20000 in
theorem gL_law_X9_ways : GoodIn wsL_law (wsV RL 99 RX9 yX9_ways wsX9_ways) := goodIn_app (goodIn_of _ (by decide +kernel)) ggL_law_X9_ways
set_option maxRecDepth 20000 in
theorem ggL_law_X8_most : GoodIn wsL_law wsX8_most := goodIn_r _ [636, 16, 130, 34, 131, 238, 637, 242, 243, 244, 15, 245, 210, 137, 2, 138, 136, 139, 140, 141, 142, 48, 568, 569, 570, 33, 571, 83, 85, 572, 573, 574, 575, 576, 577, 495, 496, 21, 497, 62, 66, 67, 450, 498, 499, 500, 29, 501, 147, 148, 149, 150, 578, 535, 536, 25, 537, 254, 216, 217, 218, 75, 538, 539, 540, 541, 579, 580, 581, 582, 583, 584, 585, 586, 251, 252, 253, 255, 256, 257, 258, 587, 588, 589, 590, 591, 592, 593, 594, 595, 363, 364, 365, 366, 367, 368, 359, 360, 361, 369, 332, 333, 334, 335, 336, 337, 338, 339, 340, 341, 370, 371, 372, 373, 374, 375, 376, 377, 378, 379, 380, 381, 382, 383, 384, 385, 386, 387, 388, 389, 390, 391, 392, 393, 394, 395, 396, 397, 398, 399, 400, 401, 1107, 1108, 1109, 1110, 1111, 1112, 1113, 1114, 1115, 1116, 1117, 1138, 1139, 1140, 1154, 1155, 1156, 1157, 1158, 1159, 1160, 1141, 1142, 1143, 1144, 1150, 1151, 1152, 1153, 1145, 1146, 1147, 1148, 1149] (by decide +kernel) (by decide +kernel)
set_option maxRecDepth 20000 in
theorem gL_law_X8_most : GoodIn wsL_law (wsV RL 100 RX8 yX8_most wsX8_most) := goodIn_app (goodIn_of _ (by decide +kernel)) ggL_law_X8_most
set_option maxRecDepth 20000 in
theorem ggL_law_X9_most : GoodIn wsL_law wsX9_most := goodIn_r _ [641, 155, 263, 264, 265, 5, 266, 111, 159, 160, 161, 166, 167, 168, 169, 112, 547, 548, 549, 550, 114, 231, 232, 233, 612, 613, 614, 615, 407, 408, 409, 410, 271, 272, 273, 274, 162, 163, 164, 165, 346, 347, 348, 349, 350, 351, 352, 267, 268, 269, 270, 122, 123, 124, 125, 411, 412, 413, 414, 279, 280, 281, 282, 415, 416, 417, 418, 186, 283, 284, 285, 286, 275, 276, 277, 278, 287, 288, 289, 555, 556, 557, 558, 1118, 1119, 1120, 1121, 1122, 1123, 1124, 1125, 1126, 1127, 1128, 1129, 1130, 1131, 1132, 1133, 1134, 1135, 1136, 1137] (by decide +kernel) (by decide +kernel)
set_option maxRecDepth 20000 in
theorem gL_law_X9_most : GoodIn wsL_law (wsV RL 103 RX9 yX9_most wsX9_most) := goodIn_app (goodIn_of _ (by decide +kernel)) ggL_law_X9_most
set_option maxRecDepth 20000 in
theorem ggL_law_X8_best : GoodIn wsL_law wsX8_best := goodIn_r _ [645, 16, 130, 238, 357, 239, 131, 132, 242, 243, 244, 15, 245, 210, 137, 2, 138, 139, 140, 141, 142, 48, 136, 358, 359, 360, 25, 361, 216, 530, 531, 532, 533, 26, 30, 534, 535, 536, 537, 254, 217, 218, 75, 538, 539, 540, 541, 542, 499, 500, 29, 501, 147, 148, 149, 150, 362, 363, 364, 365, 366, 367, 368, 369, 332, 333, 334, 335, 336, 337, 338, 339, 340, 341, 370, 371, 372, 373, 374, 256, 257, 258, 375, 376, 377, 378, 379, 380, 381, 382, 383, 384, 385, 255, 386, 387, 388, 389, 390, 391, 392, 393, 394, 395, 396, 397, 398, 399, 400, 401, 250, 251, 252, 253, 1107, 1108, 1109, 1110, 1111, 1112, 1113, 1114, 1115, 1116, 1117, 1138, 1139, 1140, 1145, 1146, 1147, 1148, 1149, 1141, 1142, 1143, 1144, 1150, 1151, 1152, 1153] (by decide +kernel) (by decide +kernel)
set_option maxRecDepth 20000 in
theorem gL_law_X8_best : GoodIn wsL_law (wsV RL 104 RX8 yX8_best wsX8_best) := goodIn_app (goodIn_of _ (by decide +kernel)) ggL_law_X8_best
set_option maxRecDepth 20000 in
theorem ggL_law_X9_best : GoodIn wsL_law wsX9_best := goodIn_r _ [649, 155, 406, 263, 264, 265, 5, 266, 111, 159, 160, 161, 166, 167, 168, 169, 112, 271, 272, 273, 274, 231, 232, 233, 547, 548, 549, 550, 114, 551, 552, 553, 554, 407, 408, 409, 410, 162, 163, 164, 165, 346, 347, 348, 349, 350, 351, 352, 267, 268, 269, 270, 122, 123, 124, 125, 411, 412, 413, 414, 279, 280, 281, 282, 415, 416, 417, 418, 186, 283, 284, 285, 286, 275, 276, 277, 278, 287, 288, 289, 555, 556, 557, 558, 1118, 1119, 1120, 1121, 1122, 1123, 1124, 1125, 1126, 1127, 1128, 1129, 1130, 1131, 1132, 1133, 1134, 1135, 1136, 1137] (by decide +kernel) (by decide +kernel)
set_option maxRecDepth 20000 in
theorem gL_law_X9_best : GoodIn wsL_law (wsV RL 107 RX9 yX9_best wsX9_best) := goodIn_app (goodIn_of _ (by decide +kernel)) ggL_law_X9_best
set_option maxRecDepth 20000 in
theorem ggL_law_X8_kind : GoodIn wsL_law wsX8_kind := goodIn_r _ [653, 16, 130, 238, 131, 132, 242, 243, 244, 15, 245, 210, 137, 2, 138, 133, 134, 135, 136, 139, 140, 141, 142, 48, 530, 531, 532, 533, 26, 239, 30, 534, 535, 536, 25, 537, 254, 216, 217, 218, 75, 538, 539, 540, 541, 542, 499, 500, 29, 501, 147, 148, 149, 150, 362, 363, 364, 365, 366, 367, 368, 359, 360, 361, 369, 332, 333, 334, 335, 336, 337, 338, 339, 340, 341, 370, 371, 372, 373, 374, 256, 257, 258, 375, 376, 377, 378, 379, 380, 381, 382, 383, 384, 385, 255, 386, 387, 388, 389, 390, 391, 392, 393, 394, 395, 396, 397, 398, 399, 400, 401, 250, 251, 252, 253, 1107, 1108, 1109, 1110, 1111, 1112, 1113, 1114, 1115, 1116, 1117, 1138, 1139, 1140, 1141, 1142, 1143, 1144, 1145, 1146, 1147, 1148, 1149, 1150, 1151, 1152, 1153] (by decide +kernel) (by decide +kernel)
set_option maxRecDepth 20000 in
theorem gL_law_X8_kind : GoodIn wsL_law (wsV RL 108 RX8 yX8_kind wsX8_kind) := goodIn_app (goodIn_of _ (by decide +kernel)) ggL_law_X8_kind
set_option maxRecDepth 20000 in
theorem ggL_law_X9_kind : GoodIn wsL_law wsX9_kind := goodIn_r _ [657, 155, 111, 263, 264, 265, 5, 266, 159, 160, 161, 156, 157, 158, 166, 167, 168, 169, 112, 547, 548, 549, 550, 114, 231, 232, 233, 551, 552, 553, 554, 407, 408, 409, 410, 271, 272, 273, 274, 162, 163, 164, 165, 346, 347, 348, 349, 350, 351, 352, 267, 268, 269, 270, 122, 123, 124, 125, 411, 412, 413, 414, 279, 280, 281, 282, 415, 416, 417, 418, 186, 283, 284, 285, 286, 275, 276, 277, 278, 287, 288, 289, 555, 556, 557, 558, 1118, 1119, 1120, 1121, 1122, 1123, 1124, 1125, 1126, 1127, 1128, 1129, 1130, 1131, 1132, 1133, 1134, 1135, 1136, 1137] (by decide +kernel) (by decide +kernel)
set_option maxRecDepth 20000 in
theorem gL_law_X9_kind : GoodIn wsL_law (wsV RL 111 RX9 yX9_kind wsX9_kind) := goodIn_app (goodIn_of _ (by decide +kernel)) ggL_law_X9_kind
set_option maxRecDepth 20000 in
theorem ggL_law_X8_fires : GoodIn wsL_law wsX8_fires := goodIn_r _ [661, 130, 16, 131, 445, 357, 22, 191, 294, 136, 137, 2, 138, 139, 140, 141, 142, 48, 494, 495, 496, 21, 497, 62, 66, 67, 450, 498, 499, 500, 29, 501, 147, 148, 149, 150, 662, 663, 664, 665, 455, 446, 447, 448, 449, 451, 452, 453, 454, 456, 457, 458, 459, 374, 256, 257, 258, 460, 396, 397, 398, 399, 400, 401, 666, 667, 668, 669, 64, 670, 1107, 1108, 1109, 1110, 1111, 1112, 1113, 1114, 1115, 1116, 1117, 1138, 1139, 1140, 1141, 1142, 1143, 1144, 1150, 1151, 1152, 1153] (by decide +kernel) (by decide +kernel)
set_option maxRecDepth 20000 in
theorem gL_law_X8_fires : GoodIn wsL_law (wsV RL 112 RX8 yX8_fires wsX8_fires) := goodIn_app (goodIn_of _ (by decide +kernel)) ggL_law_X8_fires
set_option maxRecDepth 20000 in
theorem ggL_law_X9_fires : GoodIn wsL_law wsX9_fires := goodIn_r _ [674, 155, 111, 406, 113, 300, 159, 160, 5, 161, 166, 167, 168, 169, 112, 506, 507, 508, 509, 122, 123, 124, 125, 465, 466, 467, 468, 469, 470, 471, 472, 162, 163, 164, 165, 675, 676, 677, 678, 1118, 1119, 1120, 1121, 1122, 1123, 1124, 1125, 1126, 1127, 1128, 1129, 1130, 1131, 1132, 1133, 1134, 1135, 1136, 1137] (by decide +kernel) (by decide +kernel)
set_option maxRecDepth 20000 in
theorem gL_law_X9_fires : GoodIn wsL_law (wsV RL 115 RX9 yX9_fires wsX9_fires) := goodIn_app (goodIn_of _ (by decide +kernel)) ggL_law_X9_fires
set_option maxRecDepth 20000 in
theorem ggL_law_X8_enough : GoodIn wsL_law wsX8_enough := goodIn_r _ [682, 130, 16, 202, 238, 136, 137, 2, 138, 139, 140, 141, 142, 48, 250, 251, 252, 25, 253, 217, 218, 254, 255, 256, 257, 258, 1107, 1108, 1109, 1110, 1111, 1112, 1113, 1114, 1115, 1116, 1117, 1138, 1139, 1140, 1145, 1146, 1147, 1148, 1149] (by decide +kernel) (by decide +kernel)
set_option maxRecDepth 20000 in
theorem gL_law_X8_enough : GoodIn wsL_law (wsV RL 116 RX8 yX8_enough wsX8_enough) := goodIn_app (goodIn_of _ (by decide +kernel)) ggL_law_X8_enough
set_option maxRecDepth 20000 in
theorem ggL_law_X9_enough : GoodIn wsL_law wsX9_enough := goodIn_r _ [686, 155, 111, 600, 601, 5, 602, 159, 160, 161, 166, 167, 168, 169, 112, 283, 284, 285, 286, 275, 276, 277, 278, 271, 272, 273, 274, 231, 232, 233, 279, 280, 281, 282, 267, 268, 269, 270, 287, 288, 289, 1118, 1119, 1120, 1121, 1122, 1123, 1124, 1125, 1126, 1127, 1128, 1129, 1130, 1131, 1132, 1133, 1134, 1135, 1136, 1137] (by decide +kernel) (by decide +kernel)
set_option maxRecDepth 20000 in
theorem gL_law_X9_enough : GoodIn wsL_law (wsV RL 119 RX9 yX9_enough wsX9_enough) := goodIn_app (goodIn_of _ (by decide +kernel)) ggL_law_X9_enough
set_option maxRecDepth 20000 in
theorem ggL_law_X8_feed : GoodIn wsL_law wsX8_feed := goodIn_r _ [690, 130, 38, 691, 201, 136, 137, 2, 138, 139, 140, 141, 142, 48, 692, 693, 694, 37, 695, 696, 92, 1107, 1108, 1109, 1110, 1111, 1112, 1113, 1114, 1115, 1116, 1117, 1161, 1162] (by decide +kernel) (by decide +kernel)
set_option maxRecDepth 20000 in
theorem gL_law_X8_feed : GoodIn wsL_law (wsV RL 120 RX8 yX8_feed wsX8_feed) := goodIn_app (goodIn_of _ (by decide +kernel)) ggL_law_X8_feed
set_option maxRecDepth 20000 in
theorem ggL_law_X9_feed : GoodIn wsL_law wsX9_feed := goodIn_r _ [700, 155, 701, 223, 115, 159, 160, 5, 161, 166, 167, 168, 169, 112, 1118, 1119, 1120, 1121, 1122, 1123, 1124, 1125, 1126, 1127, 1128, 1129, 1130, 1131, 1132, 1133, 1134, 1135, 1136, 1137] (by decide +kernel) (by decide +kernel)
set_option maxRecDepth 20000 in
theorem gL_law_X9_feed : GoodIn wsL_law (wsV RL 123 RX9 yX9_feed wsX9_feed) := goodIn_app (goodIn_of _ (by decide +kernel)) ggL_law_X9_feed
set_option maxRecDepth 20000 in
theorem ggL_law_X8_wipe : GoodIn wsL_law wsX8_wipe := goodIn_r _ [705, 38, 691, 1107, 1108, 1109, 1110, 1111, 1112, 1113, 1114, 1115, 1116, 1117, 1161, 1162] (by decide +kernel) (by decide +kernel)
set_option maxRecDepth 20000 in
theorem gL_law_X8_wipe : GoodIn wsL_law (wsV RL 124 RX8 yX8_wipe wsX8_wipe) := goodIn_app (goodIn_of _ (by decide +kernel)) ggL_law_X8_wipe
set_option maxRecDepth 20000 in
theorem ggL_law_X9_wipe : GoodIn wsL_law wsX9_wipe := goodIn_r _ [709, 701, 1118, 1119, 1120, 1121, 1122, 1123, 1124, 1125, 1126, 1127, 1128, 1129, 1130, 1131, 1132, 1133, 1134, 1135, 1136, 1137] (by decide +kernel) (by decide +kernel)
set_option maxRecDepth 20000 in
theorem gL_law_X9_wipe : GoodIn wsL_law (wsV RL 128 RX9 yX9_wipe wsX9_wipe) := goodIn_app (goodIn_of _ (by decide +kernel)) ggL_law_X9_wipe
set_option maxRecDepth 20000 in
theorem ggL_law_X8_text : GoodIn wsL_law wsX8_text := goodIn_r _ [713, 42, 16, 714, 38, 691, 715, 716, 717, 41, 718, 99, 719, 720, 721, 722, 723, 724, 15, 725, 54, 210, 56, 726, 495, 496, 21, 497, 62, 66, 67, 450, 498, 499, 500, 29, 501, 147, 148, 149, 150, 727, 535, 536, 25, 537, 254, 216, 217, 218, 75, 538, 539, 540, 541, 728, 729, 730, 731, 97, 732, 733, 734, 735, 736, 737, 137, 2, 138, 738, 739, 740, 741, 742, 743, 744, 745, 746, 747, 748, 749, 750, 751, 752, 753, 754, 256, 257, 258, 755, 756, 757, 758, 759, 760, 761, 762, 763, 764, 765, 766, 767, 768, 769, 770, 771, 772, 773, 774, 775, 776, 777, 778, 779, 780, 781, 782, 783, 784, 785, 786, 787, 788, 789, 790, 791, 792, 793, 794, 795, 796, 797, 798, 799, 800, 801, 802, 803, 804, 805, 806, 807, 808, 809, 810, 811, 812, 813, 814, 815, 816, 817, 818, 819, 820, 821, 822, 823, 207, 208, 209, 211, 212, 213, 214, 215, 824, 825, 826, 827, 828, 829, 830, 831, 832, 833, 834, 835, 836, 837, 838, 839, 840, 841, 842, 843, 176, 177, 178, 844, 845, 846, 847, 848, 849, 850, 363, 364, 365, 366, 367, 368, 359, 360, 361, 369, 332, 333, 334, 335, 336, 337, 338, 339, 340, 341, 370, 371, 372, 373, 374, 375, 376, 377, 378, 379, 380, 381, 382, 383, 384, 385, 255, 386, 387, 388, 389, 390, 391, 392, 393, 394, 395, 396, 397, 398, 399, 400, 401, 851, 1107, 1108, 1109, 1110, 1111, 1112, 1113, 1114, 1115, 1116, 1117, 1163, 1164, 1165, 1166, 1167, 1168, 1161, 1162, 1138, 1139, 1140, 1141, 1142, 1143, 1144, 1150, 1151, 1152, 1153, 1145, 1146, 1147, 1148, 1149] (by decide +kernel) (by decide +kernel)
set_option maxRecDepth 20000 in
theorem gL_law_X8_text : GoodIn wsL_law (wsV RL 129 RX8 yX8_text wsX8_text) := goodIn_app (goodIn_of _ (by decide +kernel)) ggL_law_X8_text
set_option maxRecDepth 20000 in
theorem ggL_law_X9_text : GoodIn wsL_law wsX9_text := goodIn_r _ [855, 121, 856, 857, 858, 859, 701, 860, 506, 507, 508, 5, 509, 111, 861, 862, 863, 864, 865, 866, 867, 868, 869, 870, 871, 872, 873, 115, 874, 875, 876, 159, 160, 161, 877, 878, 879, 880, 881, 882, 883, 884, 885, 886, 887, 888, 889, 890, 891, 892, 893, 894, 895, 896, 897, 898, 899, 900, 901, 902, 903, 904, 905, 227, 228, 229, 230, 231, 232, 233, 906, 907, 908, 909, 910, 911, 912, 913, 186, 914, 915, 916, 917, 918, 919, 162, 163, 164, 165, 920, 921, 922, 923, 924, 925, 926, 927, 122, 123, 124, 125, 928, 929, 930, 931, 932, 933, 934, 935, 936, 407, 408, 409, 410, 271, 272, 273, 274, 346, 347, 348, 349, 350, 351, 352, 267, 268, 269, 270, 411, 412, 413, 414, 279, 280, 281, 282, 415, 416, 417, 418, 937, 938, 939, 940, 1118, 1119, 1120, 1121, 1122, 1123, 1124, 1125, 1126, 1127, 1128, 1129, 1130, 1131, 1132, 1133, 1134, 1135, 1136, 1137] (by decide +kernel) (by decide +kernel)
set_option maxRecDepth 20000 in
theorem gL_law_X9_text : GoodIn wsL_law (wsV RL 132 RX9 yX9_text wsX9_text) := goodIn_app (goodIn_of _ (by decide +kernel)) ggL_law_X9_text
set_option maxRecDepth 20000 in
theorem ggL_law_X8_sheet : GoodIn wsL_law wsX8_sheet := goodIn_r _ [944, 130, 945, 44, 946, 947, 948, 2, 949, 136, 137, 138, 139, 140, 141, 142, 48, 950, 951, 952, 46, 953, 954, 955, 106, 956, 957, 958, 959, 1107, 1108, 1109, 1110, 1111, 1112, 1113, 1114, 1115, 1116, 1117, 1169, 1170, 1171] (by decide +kernel) (by decide +kernel)
set_option maxRecDepth 20000 in
theorem gL_law_X8_sheet : GoodIn wsL_law (wsV RL 133 RX8 yX8_sheet wsX8_sheet) := goodIn_app (goodIn_of _ (by decide +kernel)) ggL_law_X8_sheet
set_option maxRecDepth 20000 in
theorem ggL_law_X9_sheet : GoodIn wsL_law wsX9_sheet := goodIn_r _ [963, 155, 964, 116, 117, 118, 965, 966, 5, 967, 159, 160, 161, 166, 167, 168, 169, 112, 1118, 1119, 1120, 1121, 1122, 1123, 1124, 1125, 1126, 1127, 1128, 1129, 1130, 1131, 1132, 1133, 1134, 1135, 1136, 1137] (by decide +kernel) (by decide +kernel)
set_option maxRecDepth 20000 in
theorem gL_law_X9_sheet : GoodIn wsL_law (wsV RL 136 RX9 yX9_sheet wsX9_sheet) := goodIn_app (goodIn_of _ (by decide +kernel)) ggL_law_X9_sheet
set_option maxRecDepth 20000 in
theorem ggL_law_X8_write : GoodIn wsL_law wsX8_write := goodIn_r _ [971, 130, 44, 972, 946, 973, 947, 948, 2, 949, 136, 137, 138, 139, 140, 141, 142, 48, 974, 975, 976, 46, 977, 954, 978, 979, 980, 981, 955, 106, 1107, 1108, 1109, 1110, 1111, 1112, 1113, 1114, 1115, 1116, 1117, 1169, 1170, 1171] (by decide +kernel) (by decide +kernel)
set_option maxRecDepth 20000 in
theorem gL_law_X8_write : GoodIn wsL_law (wsV RL 139 RX8 yX8_write wsX8_write) := goodIn_app (goodIn_of _ (by decide +kernel)) ggL_law_X8_write
set_option maxRecDepth 20000 in
theorem ggL_law_X9_write : GoodIn wsL_law wsX9_write := goodIn_r _ [985, 155, 116, 986, 117, 118, 965, 966, 5, 967, 159, 160, 161, 166, 167, 168, 169, 112, 987, 988, 989, 1118, 1119, 1120, 1121, 1122, 1123, 1124, 1125, 1126, 1127, 1128, 1129, 1130, 1131, 1132, 1133, 1134, 1135, 1136, 1137] (by decide +kernel) (by decide +kernel)
set_option maxRecDepth 20000 in
theorem gL_law_X9_write : GoodIn wsL_law (wsV RL 143 RX9 yX9_write wsX9_write) := goodIn_app (goodIn_of _ (by decide +kernel)) ggL_law_X9_write
set_option maxRecDepth 20000 in
theorem ggL_law_X8_copy : GoodIn wsL_law wsX8_copy := goodIn_r _ [993, 130, 44, 972, 994, 313, 973, 995, 539, 540, 541, 947, 948, 2, 949, 136, 137, 138, 139, 140, 141, 142, 48, 974, 975, 976, 46, 977, 954, 996, 997, 998, 999, 955, 1107, 1108, 1109, 1110, 1111, 1112, 1113, 1114, 1115, 1116, 1117, 1169, 1170, 1171] (by decide +kernel) (by decide +kernel)
set_option maxRecDepth 20000 in
theorem gL_law_X8_copy : GoodIn wsL_law (wsV RL 144 RX8 yX8_copy wsX8_copy) := goodIn_app (goodIn_of _ (by decide +kernel)) ggL_law_X8_copy
set_option maxRecDepth 20000 in
theorem ggL_law_X9_copy : GoodIn wsL_law wsX9_copy := goodIn_r _ [1003, 155, 116, 986, 322, 119, 118, 965, 966, 5, 967, 159, 160, 161, 166, 167, 168, 169, 112, 1004, 1005, 1006, 1007, 117, 1118, 1119, 1120, 1121, 1122, 1123, 1124, 1125, 1126, 1127, 1128, 1129, 1130, 1131, 1132, 1133, 1134, 1135, 1136, 1137] (by decide +kernel) (by decide +kernel)
set_option maxRecDepth 20000 in
theorem gL_law_X9_copy : GoodIn wsL_law (wsV RL 148 RX9 yX9_copy wsX9_copy) := goodIn_app (goodIn_of _ (by decide +kernel)) ggL_law_X9_copy
set_option maxRecDepth 20000 in
theorem ggL_law_X8_lays : GoodIn wsL_law wsX8_lays := goodIn_r _ [1011, 16, 130, 44, 238, 946, 973, 1012, 131, 132, 1013, 1014, 1015, 2, 1016, 972, 947, 948, 949, 136, 137, 138, 974, 975, 976, 46, 977, 954, 139, 140, 141, 142, 48, 242, 243, 244, 15, 245, 210, 358, 359, 360, 25, 361, 216, 362, 363, 364, 365, 366, 367, 368, 369, 332, 333, 334, 254, 335, 336, 337, 338, 339, 340, 341, 370, 371, 372, 29, 373, 149, 374, 256, 257, 258, 375, 376, 377, 378, 218, 75, 217, 379, 380, 381, 382, 383, 384, 385, 255, 386, 387, 388, 389, 390, 391, 392, 393, 394, 395, 396, 397, 398, 148, 399, 400, 401, 1107, 1108, 1109, 1110, 1111, 1112, 1113, 1114, 1115, 1116, 1117, 1138, 1139, 1140, 1169, 1170, 1171, 1141, 1142, 1143, 1144, 1145, 1146, 1147, 1148, 1149, 1150, 1151, 1152, 1153] (by decide +kernel) (by decide +kernel)
set_option maxRecDepth 20000 in
theorem gL_law_X8_lays : GoodIn wsL_law (wsV RL 149 RX8 yX8_lays wsX8_lays) := goodIn_app (goodIn_of _ (by decide +kernel)) ggL_law_X8_lays
set_option maxRecDepth 20000 in
theorem ggL_law_X9_lays : GoodIn wsL_law wsX9_lays := goodIn_r _ [1020, 155, 116, 986, 117, 118, 1021, 965, 966, 5, 967, 159, 160, 161, 263, 264, 265, 266, 111, 166, 167, 168, 169, 112, 271, 272, 273, 274, 231, 232, 233, 407, 408, 409, 410, 162, 163, 164, 165, 346, 347, 348, 349, 350, 351, 352, 267, 268, 269, 270, 122, 123, 124, 125, 411, 412, 413, 414, 279, 280, 281, 282, 415, 416, 417, 418, 186, 1118, 1119, 1120, 1121, 1122, 1123, 1124, 1125, 1126, 1127, 1128, 1129, 1130, 1131, 1132, 1133, 1134, 1135, 1136, 1137] (by decide +kernel) (by decide +kernel)
set_option maxRecDepth 20000 in
theorem gL_law_X9_lays : GoodIn wsL_law (wsV RL 152 RX9 yX9_lays wsX9_lays) := goodIn_app (goodIn_of _ (by decide +kernel)) ggL_law_X9_lays
set_option maxRecDepth 20000 in
theorem ggL_law_X8_show : GoodIn wsL_law wsX8_show := goodIn_r _ [1025, 16, 130, 44, 238, 240, 946, 1026, 256, 257, 258, 295, 1013, 1014, 1015, 2, 1016, 972, 947, 948, 949, 136, 137, 138, 974, 975, 976, 46, 977, 954, 139, 140, 141, 142, 48, 242, 243, 244, 15, 245, 210, 978, 979, 980, 981, 955, 106, 1107, 1108, 1109, 1110, 1111, 1112, 1113, 1114, 1115, 1116, 1117, 1138, 1139, 1140, 1145, 1146, 1147, 1148, 1149, 1169, 1170, 1171] (by decide +kernel) (by decide +kernel)
set_option maxRecDepth 20000 in
theorem gL_law_X8_show : GoodIn wsL_law (wsV RL 153 RX8 yX8_show wsX8_show) := goodIn_app (goodIn_of _ (by decide +kernel)) ggL_law_X8_show
set_option maxRecDepth 20000 in
theorem ggL_law_X9_show : GoodIn wsL_law wsX9_show := goodIn_r _ [1030, 155, 116, 986, 117, 118, 965, 966, 5, 967, 159, 160, 161, 263, 264, 265, 266, 111, 166, 167, 168, 169, 112, 271, 272, 273, 274, 231, 232, 233, 279, 280, 281, 282, 987, 988, 989, 1118, 1119, 1120, 1121, 1122, 1123, 1124, 1125, 1126, 1127, 1128, 1129, 1130, 1131, 1132, 1133, 1134, 1135, 1136, 1137] (by decide +kernel) (by decide +kernel)
set_option maxRecDepth 20000 in
theorem gL_law_X9_show : GoodIn wsL_law (wsV RL 156 RX9 yX9_show wsX9_show) := goodIn_app (goodIn_of _ (by decide +kernel)) ggL_law_X9_show
set_option maxRecDepth 20000 in
theorem ggL_law_X8_read : GoodIn wsL_law wsX8_read := goodIn_r _ [1034, 130, 44, 946, 945, 34, 16, 131, 294, 1013, 1014, 1015, 2, 1016, 972, 947, 948, 949, 136, 137, 138, 974, 975, 976, 46, 977, 954, 139, 140, 141, 142, 48, 203, 204, 205, 1035, 1036, 1037, 33, 1038, 83, 85, 1039, 577, 495, 496, 21, 497, 62, 66, 67, 450, 498, 499, 500, 29, 501, 147, 148, 149, 150, 1040, 213, 214, 25, 215, 216, 217, 218, 1041, 1042, 1043, 1044, 1045, 583, 584, 585, 1046, 1047, 1048, 591, 592, 593, 594, 578, 535, 536, 537, 254, 75, 538, 539, 540, 541, 595, 363, 364, 365, 366, 367, 368, 359, 360, 361, 369, 332, 333, 334, 335, 336, 337, 338, 339, 340, 341, 370, 371, 372, 373, 374, 256, 257, 258, 375, 376, 377, 378, 379, 380, 381, 382, 383, 384, 385, 255, 386, 387, 388, 389, 390, 391, 392, 393, 394, 395, 396, 397, 398, 399, 400, 401, 1107, 1108, 1109, 1110, 1111, 1112, 1113, 1114, 1115, 1116, 1117, 1169, 1170, 1171, 1138, 1139, 1140, 1154, 1155, 1156, 1157, 1158, 1159, 1160, 1145, 1146, 1147, 1148, 1149, 1141, 1142, 1143, 1144, 1150, 1151, 1152, 1153] (by decide +kernel) (by decide +kernel)
set_option maxRecDepth 20000 in
theorem gL_law_X8_read : GoodIn wsL_law (wsV RL 157 RX8 yX8_read wsX8_read) := goodIn_app (goodIn_of _ (by decide +kernel)) ggL_law_X8_read
set_option maxRecDepth 20000 in
theorem ggL_law_X9_read : GoodIn wsL_law wsX9_read := goodIn_r _ [1052, 155, 116, 986, 117, 964, 113, 111, 300, 965, 966, 5, 967, 159, 160, 161, 224, 225, 226, 166, 167, 168, 169, 112, 506, 507, 508, 509, 231, 232, 233, 547, 548, 549, 550, 114, 612, 613, 614, 615, 407, 408, 409, 410, 271, 272, 273, 274, 162, 163, 164, 165, 346, 347, 348, 349, 350, 351, 352, 267, 268, 269, 270, 122, 123, 124, 125, 411, 412, 413, 414, 279, 280, 281, 282, 415, 416, 417, 418, 186, 1053, 1054, 1055, 1056, 118, 555, 556, 557, 558, 1118, 1119, 1120, 1121, 1122, 1123, 1124, 1125, 1126, 1127, 1128, 1129, 1130, 1131, 1132, 1133, 1134, 1135, 1136, 1137] (by decide +kernel) (by decide +kernel)
set_option maxRecDepth 20000 in
theorem gL_law_X9_read : GoodIn wsL_law (wsV RL 160 RX9 yX9_read wsX9_read) := goodIn_app (goodIn_of _ (by decide +kernel)) ggL_law_X9_read
set_option maxRecDepth 20000 in
theorem ggL_law_X8_image : GoodIn wsL_law wsX8_image := goodIn_r _ [1060, 17, 16, 18, 851, 723, 724, 15, 725, 54, 210, 56, 726, 495, 496, 21, 497, 62, 66, 67, 450, 498, 499, 500, 29, 501, 147, 148, 149, 150, 727, 535, 536, 25, 537, 254, 216, 217, 218, 75, 538, 539, 540, 541, 1107, 1108, 1109, 1110, 1111, 1112, 1113, 1114, 1115, 1116, 1117, 1138, 1139, 1140, 1141, 1142, 1143, 1144, 1150, 1151, 1152, 1153, 1145, 1146, 1147, 1148, 1149] (by decide +kernel) (by decide +kernel)
set_option maxRecDepth 20000 in
theorem gL_law_X8_image : GoodIn wsL_law (wsV RL 161 RX8 yX8_image wsX8_image) := goodIn_app (goodIn_of _ (by decide +kernel)) ggL_law_X8_image
set_option maxRecDepth 20000 in
theorem ggL_law_X9_image : GoodIn wsL_law wsX9_image := goodIn_r _ [1064, 120, 1065, 506, 507, 508, 5, 509, 111, 1118, 1119, 1120, 1121, 1122, 1123, 1124, 1125, 1126, 1127, 1128, 1129, 1130, 1131, 1132, 1133, 1134, 1135, 1136, 1137] (by decide +kernel) (by decide +kernel)
set_option maxRecDepth 20000 in
theorem gL_law_X9_image : GoodIn wsL_law (wsV RL 164 RX9 yX9_image wsX9_image) := goodIn_app (goodIn_of _ (by decide +kernel)) ggL_law_X9_image
set_option maxRecDepth 20000 in
theorem ggL_law_X8_undo : GoodIn wsL_law wsX8_undo := goodIn_r _ [1069, 18, 294, 16, 17, 202, 139, 140, 141, 2, 142, 130, 48, 136, 137, 138, 851, 723, 724, 15, 725, 54, 210, 56, 726, 495, 496, 21, 497, 62, 66, 67, 450, 498, 499, 500, 29, 501, 147, 148, 149, 150, 727, 535, 536, 25, 537, 254, 216, 217, 218, 75, 538, 539, 540, 541, 1107, 1108, 1109, 1110, 1111, 1112, 1113, 1114, 1115, 1116, 1117, 1138, 1139, 1140, 1141, 1142, 1143, 1144, 1150, 1151, 1152, 1153, 1145, 1146, 1147, 1148, 1149] (by decide +kernel) (by decide +kernel)
set_option maxRecDepth 20000 in
theorem gL_law_X8_undo : GoodIn wsL_law (wsV RL 165 RX8 yX8_undo wsX8_undo) := goodIn_app (goodIn_of _ (by decide +kernel)) ggL_law_X8_undo
set_option maxRecDepth 20000 in
theorem ggL_law_X9_undo : GoodIn wsL_law wsX9_undo := goodIn_r _ [1073, 1065, 300, 120, 111, 166, 167, 168, 5, 169, 112, 155, 506, 507, 508, 509, 1118, 1119, 1120, 1121, 1122, 1123, 1124, 1125, 1126, 1127, 1128, 1129, 1130, 1131, 1132, 1133, 1134, 1135, 1136, 1137] (by decide +kernel) (by decide +kernel)
set_option maxRecDepth 20000 in
theorem gL_law_X9_undo : GoodIn wsL_law (wsV RL 168 RX9 yX9_undo wsX9_undo) := goodIn_app (goodIn_of _ (by decide +kernel)) ggL_law_X9_undo
set_option maxRecDepth 20000 in
theorem ggL_law_X8_tear : GoodIn wsL_law wsX8_tear := goodIn_r _ [1077, 18, 1107, 1108, 1109, 1110, 1111, 1112, 1113, 1114, 1115, 1116, 1117] (by decide +kernel) (by decide +kernel)
set_option maxRecDepth 20000 in
theorem gL_law_X8_tear : GoodIn wsL_law (wsV RL 169 RX8 yX8_tear wsX8_tear) := goodIn_app (goodIn_of _ (by decide +kernel)) ggL_law_X8_tear
set_option maxRecDepth 20000 in
theorem ggL_law_X9_tear : GoodIn wsL_law wsX9_tear := goodIn_r _ [1081, 1065, 1118, 1119, 1120, 1121, 1122, 1123, 1124, 1125, 1126, 1127, 1128, 1129, 1130, 1131, 1132, 1133, 1134, 1135, 1136, 1137] (by decide +kernel) (by decide +kernel)
set_option maxRecDepth 20000 in
theorem gL_law_X9_tear : GoodIn wsL_law (wsV RL 172 RX9 yX9_tear wsX9_tear) := goodIn_app (goodIn_of _ (by decide +kernel)) ggL_law_X9_tear
set_option maxRecDepth 20000 in
theorem ggL_law_X8_count : GoodIn wsL_law wsX8_count := goodIn_r _ [1085, 16, 202, 38, 691, 131, 130, 1086, 1087, 1088, 15, 1089, 210, 56, 1090, 1091, 1092, 1093, 21, 1094, 62, 455, 139, 140, 141, 2, 142, 48, 136, 137, 138, 1107, 1108, 1109, 1110, 1111, 1112, 1113, 1114, 1115, 1116, 1117, 1138, 1139, 1140, 1161, 1162, 1145, 1146, 1147, 1148, 1149, 1141, 1142, 1143, 1144, 1150, 1151, 1152, 1153] (by decide +kernel) (by decide +kernel)
set_option maxRecDepth 20000 in
theorem gL_law_X8_count : GoodIn wsL_law (wsV RL 173 RX8 yX8_count wsX8_count) := goodIn_app (goodIn_of _ (by decide +kernel)) ggL_law_X8_count
set_option maxRecDepth 20000 in
theorem ggL_law_X9_count : GoodIn wsL_law wsX9_count := goodIn_r _ [1098, 111, 701, 155, 271, 272, 273, 5, 274, 231, 232, 233, 162, 163, 164, 165, 166, 167, 168, 169, 112, 1118, 1119, 1120, 1121, 1122, 1123, 1124, 1125, 1126, 1127, 1128, 1129, 1130, 1131, 1132, 1133, 1134, 1135, 1136, 1137] (by decide +kernel) (by decide +kernel)
set_option maxRecDepth 20000 in
theorem gL_law_X9_count : GoodIn wsL_law (wsV RL 176 RX9 yX9_count wsX9_count) := goodIn_app (goodIn_of _ (by decide +kernel)) ggL_law_X9_count
set_option maxRecDepth 20000 in
theorem ggL_law_X8_status : GoodIn wsL_law wsX8_status := goodIn_r _ [1102, 130, 48, 136, 137, 2, 138, 139, 140, 141, 142, 1107, 1108, 1109, 1110, 1111, 1112, 1113, 1114, 1115, 1116, 1117] (by decide +kernel) (by decide +kernel)
set_option maxRecDepth 20000 in
theorem gL_law_X8_status : GoodIn wsL_law (wsV RL 177 RX8 yX8_status wsX8_status) := goodIn_app (goodIn_of _ (by decide +kernel)) ggL_law_X8_status
set_option maxRecDepth 20000 in
theorem ggL_law_X9_status : GoodIn wsL_law wsX9_status := goodIn_r _ [1106, 155, 112, 159, 160, 5, 161, 166, 167, 168, 169, 1118, 1119, 1120, 1121, 1122, 1123, 1124, 1125, 1126, 1127, 1128, 1129, 1130, 1131, 1132, 1133, 1134, 1135, 1136, 1137] (by decide +kernel) (by decide +kernel)
set_option maxRecDepth 20000 in
theorem gL_law_X9_status : GoodIn wsL_law (wsV RL 180 RX9 yX9_status wsX9_status) := goodIn_app (goodIn_of _ (by decide +kernel)) ggL_law_X9_status
