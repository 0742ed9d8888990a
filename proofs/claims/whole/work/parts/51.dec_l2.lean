set_option maxRecDepth 20000 in
theorem ggL_law_X9_ith : GoodIn wsL_law wsX9_ith := goodIn_r _ [622, 155, 300, 606, 263, 264, 265, 5, 266, 111, 159, 160, 161, 599, 600, 601, 166, 167, 168, 169, 112, 602, 603, 604, 605, 546, 547, 548, 549, 114, 231, 232, 233, 607, 608, 609, 610, 611, 612, 613, 614, 406, 407, 408, 409, 271, 272, 273, 274, 162, 163, 164, 165, 345, 346, 347, 348, 349, 350, 351, 267, 268, 269, 270, 122, 123, 124, 125, 410, 411, 412, 413, 279, 280, 281, 282, 414, 415, 416, 417, 186, 283, 284, 285, 286, 275, 276, 277, 278, 287, 288, 289, 554, 555, 556, 557, 1117, 1118, 1119, 1120, 1121, 1122, 1123, 1124, 1125, 1126, 1127, 1128, 1129, 1130, 1131, 1132, 1133, 1134, 1135, 1136] (by decide +kernel) (by decide +kernel)
set_option maxRecDepth 20000 in
theorem gL_law_X9_ith : GoodIn wsL_law (wsV RL 95 RX9 yX9_ith wsX9_ith) := goodIn_app (goodIn_of _ (by decide +kernel)) ggL_law_X9_ith
set_option maxRecDepth 20000 in
theorem ggL_law_X8_ways : GoodIn wsL_law wsX8_ways := goodIn_r _ [626, 16, 130, 34, 131, 238, 627, 242, 243, 244, 15, 245, 210, 137, 2, 138, 136, 139, 140, 141, 142, 48, 567, 568, 569, 33, 570, 83, 85, 571, 572, 573, 574, 575, 576, 494, 495, 21, 496, 62, 66, 67, 449, 497, 498, 499, 29, 500, 147, 148, 149, 150, 577, 534, 535, 25, 536, 254, 216, 217, 218, 75, 537, 538, 539, 540, 578, 579, 580, 581, 582, 583, 584, 585, 251, 252, 253, 255, 256, 257, 258, 586, 587, 588, 589, 590, 591, 592, 593, 594, 362, 363, 364, 365, 366, 367, 358, 359, 360, 368, 332, 333, 334, 335, 336, 337, 338, 339, 340, 369, 370, 371, 372, 373, 374, 375, 376, 377, 378, 379, 380, 381, 382, 383, 384, 385, 386, 387, 388, 389, 390, 391, 392, 393, 394, 395, 396, 397, 398, 399, 400, 1106, 1107, 1108, 1109, 1110, 1111, 1112, 1113, 1114, 1115, 1116, 1137, 1138, 1139, 1153, 1154, 1155, 1156, 1157, 1158, 1159, 1140, 1141, 1142, 1143, 1149, 1150, 1151, 1152, 1144, 1145, 1146, 1147, 1148] (by decide +kernel) (by decide +kernel)
set_option maxRecDepth 20000 in
theorem gL_law_X8_ways : GoodIn wsL_law (wsV RL 96 RX8 yX8_ways wsX8_ways) := goodIn_app (goodIn_of _ (by decide +kernel)) ggL_law_X8_ways
set_option maxRecDepth 20000 in
theorem ggL_law_X9_ways : GoodIn wsL_law wsX9_ways := goodIn_r _ [631, 155, 263, 264, 265, 5, 266, 111, 159, 160, 161, 599, 600, 601, 166, 167, 168, 169, 112, 546, 547, 548, 549, 114, 231, 232, 233, 611, 612, 613, 614, 406, 407, 408, 409, 271, 272, 273, 274, 162, 163, 164, 165, 345, 346, 347, 348, 349, 350, 351, 267, 268, 269, 270, 122, 123, 124, 125, 410, 411, 412, 413, 279, 280, 281, 282, 414, 415, 416, 417, 186, 283, 284, 285, 286, 275, 276, 277, 278, 287, 288, 289, 554, 555, 556, 557, 1117, 1118, 1119, 1120, 1121, 1122, 1123, 1124, 1125, 1126, 1127, 1128, 1129, 1130, 1131, 1132, 1133, 1134, 1135, 1136] (by decide +kernel) (by decide +kernel)
set_option maxRecDepth 20000 in
theorem gL_law_X9_ways : GoodIn wsL_law (wsV RL 99 RX9 yX9_ways wsX9_ways) := goodIn_app (goodIn_of _ (by decide +kernel)) ggL_law_X9_ways
set_option maxRecDepth 20000 in
theorem ggL_law_X8_most : GoodIn wsL_law wsX8_most := goodIn_r _ [635, 16, 130, 34, 131, 238, 636, 242, 243, 244, 15, 245, 210, 137, 2, 138, 136, 139, 140, 141, 142, 48, 567, 568, 569, 33, 570, 83, 85, 571, 572, 573, 574, 575, 576, 494, 495, 21, 496, 62, 66, 67, 449, 497, 498, 499, 29, 500, 147, 148, 149, 150, 577, 534, 535, 25, 536, 254, 216, 217, 218, 75, 537, 538, 539, 540, 578, 579, 580, 581, 582, 583, 584, 585, 251, 252, 253, 255, 256, 257, 258, 586, 587, 588, 589, 590, 591, 592, 593, 594, 362, 363, 364, 365, 366, 367, 358, 359, 360, 368, 332, 333, 334, 335, 336, 337, 338, 339, 340, 369, 370, 371, 372, 373, 374, 375, 376, 377, 378, 379, 380, 381, 382, 383, 384, 385, 386, 387, 388, 389, 390, 391, 392, 393, 394, 395, 396, 397, 398, 399, 400, 1106, 1107, 1108, 1109, 1110, 1111, 1112, 1113, 1114, 1115, 1116, 1137, 1138, 1139, 1153, 1154, 1155, 1156, 1157, 1158, 1159, 1140, 1141, 1142, 1143, 1149, 1150, 1151, 1152, 1144, 1145, 1146, 1147, 1148] (by decide +kernel) (by decide +kernel)
set_option maxRecDepth 20000 in
theorem gL_law_X8_most : GoodIn wsL_law (wsV RL 100 RX8 yX8_most wsX8_most) := goodIn_app (goodIn_of _ (by decide +kernel)) ggL_law_X8_most
set_option maxRecDepth 20000 in
theorem ggL_law_X9_most : GoodIn wsL_law wsX9_most := goodIn_r _ [640, 155, 263, 264, 265, 5, 266, 111, 159, 160, 161, 166, 167, 168, 169, 112, 546, 547, 548, 549, 114, 231, 232, 233, 611, 612, 613, 614, 406, 407, 408, 409, 271, 272, 273, 274, 162, 163, 164, 165, 345, 346, 347, 348, 349, 350, 351, 267, 268, 269, 270, 122, 123, 124, 125, 410, 411, 412, 413, 279, 280, 281, 282, 414, 415, 416, 417, 186, 283, 284, 285, 286, 275, 276, 277, 278, 287, 288, 289, 554, 555, 556, 557, 1117, 1118, 1119, 1120, 1121, 1122, 1123, 1124, 1125, 1126, 1127, 1128, 1129, 1130, 1131, 1132, 1133, 1134, 1135, 1136] (by decide +kernel) (by decide +kernel)
set_option maxRecDepth 20000 in
theorem gL_law_X9_most : GoodIn wsL_law (wsV RL 103 RX9 yX9_most wsX9_most) := goodIn_app (goodIn_of _ (by decide +kernel)) ggL_law_X9_most
set_option maxRecDepth 20000 in
theorem ggL_law_X8_best : GoodIn wsL_law wsX8_best := goodIn_r _ [644, 16, 130, 238, 356, 239, 131, 132, 242, 243, 244, 15, 245, 210, 137, 2, 138, 139, 140, 141, 142, 48, 136, 357, 358, 359, 25, 360, 216, 529, 530, 531, 532, 26, 30, 533, 534, 535, 536, 254, 217, 218, 75, 537, 538, 539, 540, 541, 498, 499, 29, 500, 147, 148, 149, 150, 361, 362, 363, 364, 365, 366, 367, 368, 332, 333, 334, 335, 336, 337, 338, 339, 340, 369, 370, 371, 372, 373, 256, 257, 258, 374, 375, 376, 377, 378, 379, 380, 381, 382, 383, 384, 255, 385, 386, 387, 388, 389, 390, 391, 392, 393, 394, 395, 396, 397, 398, 399, 400, 250, 251, 252, 253, 1106, 1107, 1108, 1109, 1110, 1111, 1112, 1113, 1114, 1115, 1116, 1137, 1138, 1139, 1144, 1145, 1146, 1147, 1148, 1140, 1141, 1142, 1143, 1149, 1150, 1151, 1152] (by decide +kernel) (by decide +kernel)
set_option maxRecDepth 20000 in
theorem gL_law_X8_best : GoodIn wsL_law (wsV RL 104 RX8 yX8_best wsX8_best) := goodIn_app (goodIn_of _ (by decide +kernel)) ggL_law_X8_best
set_option maxRecDepth 20000 in
theorem ggL_law_X9_best : GoodIn wsL_law wsX9_best := goodIn_r _ [648, 155, 405, 263, 264, 265, 5, 266, 111, 159, 160, 161, 166, 167, 168, 169, 112, 271, 272, 273, 274, 231, 232, 233, 546, 547, 548, 549, 114, 550, 551, 552, 553, 406, 407, 408, 409, 162, 163, 164, 165, 345, 346, 347, 348, 349, 350, 351, 267, 268, 269, 270, 122, 123, 124, 125, 410, 411, 412, 413, 279, 280, 281, 282, 414, 415, 416, 417, 186, 283, 284, 285, 286, 275, 276, 277, 278, 287, 288, 289, 554, 555, 556, 557, 1117, 1118, 1119, 1120, 1121, 1122, 1123, 1124, 1125, 1126, 1127, 1128, 1129, 1130, 1131, 1132, 1133, 1134, 1135, 1136] (by decide +kernel) (by decide +kernel)
set_option maxRecDepth 20000 in
theorem gL_law_X9_best : GoodIn wsL_law (wsV RL 107 RX9 yX9_best wsX9_best) := goodIn_app (goodIn_of _ (by decide +kernel)) ggL_law_X9_best
set_option maxRecDepth 20000 in
theorem ggL_law_X8_kind : GoodIn wsL_law wsX8_kind := goodIn_r _ [652, 16, 130, 238, 131, 132, 242, 243, 244, 15, 245, 210, 137, 2, 138, 133, 134, 135, 136, 139, 140, 141, 142, 48, 529, 530, 531, 532, 26, 239, 30, 533, 534, 535, 25, 536, 254, 216, 217, 218, 75, 537, 538, 539, 540, 541, 498, 499, 29, 500, 147, 148, 149, 150, 361, 362, 363, 364, 365, 366, 367, 358, 359, 360, 368, 332, 333, 334, 335, 336, 337, 338, 339, 340, 369, 370, 371, 372, 373, 256, 257, 258, 374, 375, 376, 377, 378, 379, 380, 381, 382, 383, 384, 255, 385, 386, 387, 388, 389, 390, 391, 392, 393, 394, 395, 396, 397, 398, 399, 400, 250, 251, 252, 253, 1106, 1107, 1108, 1109, 1110, 1111, 1112, 1113, 1114, 1115, 1116, 1137, 1138, 1139, 1140, 1141, 1142, 1143, 1144, 1145, 1146, 1147, 1148, 1149, 1150, 1151, 1152] (by decide +kernel) (by decide +kernel)
set_option maxRecDepth 20000 in
theorem gL_law_X8_kind : GoodIn wsL_law (wsV RL 108 RX8 yX8_kind wsX8_kind) := goodIn_app (goodIn_of _ (by decide +kernel)) ggL_law_X8_kind
set_option maxRecDepth 20000 in
theorem ggL_law_X9_kind : GoodIn wsL_law wsX9_kind := goodIn_r _ [656, 155, 111, 263, 264, 265, 5, 266, 159, 160, 161, 156, 157, 158, 166, 167, 168, 169, 112, 546, 547, 548, 549, 114, 231, 232, 233, 550, 551, 552, 553, 406, 407, 408, 409, 271, 272, 273, 274, 162, 163, 164, 165, 345, 346, 347, 348, 349, 350, 351, 267, 268, 269, 270, 122, 123, 124, 125, 410, 411, 412, 413, 279, 280, 281, 282, 414, 415, 416, 417, 186, 283, 284, 285, 286, 275, 276, 277, 278, 287, 288, 289, 554, 555, 556, 557, 1117, 1118, 1119, 1120, 1121, 1122, 1123, 1124, 1125, 1126, 1127, 1128, 1129, 1130, 1131, 1132, 1133, 1134, 1135, 1136] (by decide +kernel) (by decide +kernel)
set_option maxRecDepth 20000 in
theorem gL_law_X9_kind : GoodIn wsL_law (wsV RL 111 RX9 yX9_kind wsX9_kind) := goodIn_app (goodIn_of _ (by decide +kernel)) ggL_law_X9_kind
set_option maxRecDepth 20000 in
theorem ggL_law_X8_fires : GoodIn wsL_law wsX8_fires := goodIn_r _ [660, 130, 16, 131, 444, 356, 22, 191, 294, 136, 137, 2, 138, 139, 140, 141, 142, 48, 493, 494, 495, 21, 496, 62, 66, 67, 449, 497, 498, 499, 29, 500, 147, 148, 149, 150, 661, 662, 663, 664, 454, 445, 446, 447, 448, 450, 451, 452, 453, 455, 456, 457, 458, 373, 256, 257, 258, 459, 395, 396, 397, 398, 399, 400, 665, 666, 667, 668, 64, 669, 1106, 1107, 1108, 1109, 1110, 1111, 1112, 1113, 1114, 1115, 1116, 1137, 1138, 1139, 1140, 1141, 1142, 1143, 1149, 1150, 1151, 1152] (by decide +kernel) (by decide +kernel)
set_option maxRecDepth 20000 in
theorem gL_law_X8_fires : GoodIn wsL_law (wsV RL 112 RX8 yX8_fires wsX8_fires) := goodIn_app (goodIn_of _ (by decide +kernel)) ggL_law_X8_fires
set_option maxRecDepth 20000 in
theorem ggL_law_X9_fires : GoodIn wsL_law wsX9_fires := goodIn_r _ [673, 155, 111, 405, 113, 300, 159, 160, 5, 161, 166, 167, 168, 169, 112, 505, 506, 507, 508, 122, 123, 124, 125, 464, 465, 466, 467, 468, 469, 470, 471, 162, 163, 164, 165, 674, 675, 676, 677, 1117, 1118, 1119, 1120, 1121, 1122, 1123, 1124, 1125, 1126, 1127, 1128, 1129, 1130, 1131, 1132, 1133, 1134, 1135, 1136] (by decide +kernel) (by decide +kernel)
set_option maxRecDepth 20000 in
theorem gL_law_X9_fires : GoodIn wsL_law (wsV RL 115 RX9 yX9_fires wsX9_fires) := goodIn_app (goodIn_of _ (by decide +kernel)) ggL_law_X9_fires
set_option maxRecDepth 20000 in
theorem ggL_law_X8_enough : GoodIn wsL_law wsX8_enough := goodIn_r _ [681, 130, 16, 202, 238, 136, 137, 2, 138, 139, 140, 141, 142, 48, 250, 251, 252, 25, 253, 217, 218, 254, 255, 256, 257, 258, 1106, 1107, 1108, 1109, 1110, 1111, 1112, 1113, 1114, 1115, 1116, 1137, 1138, 1139, 1144, 1145, 1146, 1147, 1148] (by decide +kernel) (by decide +kernel)
set_option maxRecDepth 20000 in
theorem gL_law_X8_enough : GoodIn wsL_law (wsV RL 116 RX8 yX8_enough wsX8_enough) := goodIn_app (goodIn_of _ (by decide +kernel)) ggL_law_X8_enough
set_option maxRecDepth 20000 in
theorem ggL_law_X9_enough : GoodIn wsL_law wsX9_enough := goodIn_r _ [685, 155, 111, 599, 600, 5, 601, 159, 160, 161, 166, 167, 168, 169, 112, 283, 284, 285, 286, 275, 276, 277, 278, 271, 272, 273, 274, 231, 232, 233, 279, 280, 281, 282, 267, 268, 269, 270, 287, 288, 289, 1117, 1118, 1119, 1120, 1121, 1122, 1123, 1124, 1125, 1126, 1127, 1128, 1129, 1130, 1131, 1132, 1133, 1134, 1135, 1136] (by decide +kernel) (by decide +kernel)
set_option maxRecDepth 20000 in
theorem gL_law_X9_enough : GoodIn wsL_law (wsV RL 119 RX9 yX9_enough wsX9_enough) := goodIn_app (goodIn_of _ (by decide +kernel)) ggL_law_X9_enough
set_option maxRecDepth 20000 in
theorem ggL_law_X8_feed : GoodIn wsL_law wsX8_feed := goodIn_r _ [689, 130, 38, 690, 201, 136, 137, 2, 138, 139, 140, 141, 142, 48, 691, 692, 693, 37, 694, 695, 92, 1106, 1107, 1108, 1109, 1110, 1111, 1112, 1113, 1114, 1115, 1116, 1160, 1161] (by decide +kernel) (by decide +kernel)
set_option maxRecDepth 20000 in
theorem gL_law_X8_feed : GoodIn wsL_law (wsV RL 120 RX8 yX8_feed wsX8_feed) := goodIn_app (goodIn_of _ (by decide +kernel)) ggL_law_X8_feed
set_option maxRecDepth 20000 in
theorem ggL_law_X9_feed : GoodIn wsL_law wsX9_feed := goodIn_r _ [699, 155, 700, 223, 115, 159, 160, 5, 161, 166, 167, 168, 169, 112, 1117, 1118, 1119, 1120, 1121, 1122, 1123, 1124, 1125, 1126, 1127, 1128, 1129, 1130, 1131, 1132, 1133, 1134, 1135, 1136] (by decide +kernel) (by decide +kernel)
set_option maxRecDepth 20000 in
theorem gL_law_X9_feed : GoodIn wsL_law (wsV RL 123 RX9 yX9_feed wsX9_feed) := goodIn_app (goodIn_of _ (by decide +kernel)) ggL_law_X9_feed
set_option maxRecDepth 20000 in
theorem ggL_law_X8_wipe : GoodIn wsL_law wsX8_wipe := goodIn_r _ [704, 38, 690, 1106, 1107, 1108, 1109, 1110, 1111, 1112, 1113, 1114, 1115, 1116, 1160, 1161] (by decide +kernel) (by decide +kernel)
set_option maxRecDepth 20000 in
theorem gL_law_X8_wipe : GoodIn wsL_law (wsV RL 124 RX8 yX8_wipe wsX8_wipe) := goodIn_app (goodIn_of _ (by decide +kernel)) ggL_law_X8_wipe
set_option maxRecDepth 20000 in
theorem ggL_law_X9_wipe : GoodIn wsL_law wsX9_wipe := goodIn_r _ [708, 700, 1117, 1118, 1119, 1120, 1121, 1122, 1123, 1124, 1125, 1126, 1127, 1128, 1129, 1130, 1131, 1132, 1133, 1134, 1135, 1136] (by decide +kernel) (by decide +kernel)
set_option maxRecDepth 20000 in
theorem gL_law_X9_wipe : GoodIn wsL_law (wsV RL 128 RX9 yX9_wipe wsX9_wipe) := goodIn_app (goodIn_of _ (by decide +kernel)) ggL_law_X9_wipe
set_option maxRecDepth 20000 in
theorem ggL_law_X8_text : GoodIn wsL_law wsX8_text := goodIn_r _ [712, 42, 16, 713, 38, 690, 714, 715, 716, 41, 717, 99, 718, 719, 720, 721, 722, 723, 15, 724, 54, 210, 56, 725, 494, 495, 21, 496, 62, 66, 67, 449, 497, 498, 499, 29, 500, 147, 148, 149, 150, 726, 534, 535, 25, 536, 254, 216, 217, 218, 75, 537, 538, 539, 540, 727, 728, 729, 730, 97, 731, 732, 733, 734, 735, 736, 737, 738, 739, 740, 741, 742, 743, 744, 745, 746, 747, 748, 749, 750, 751, 752, 753, 256, 257, 258, 754, 755, 756, 757, 758, 759, 760, 761, 762, 763, 764, 765, 766, 767, 768, 769, 770, 771, 772, 773, 774, 775, 776, 777, 778, 779, 780, 781, 782, 783, 784, 785, 786, 787, 788, 789, 790, 791, 792, 793, 794, 795, 796, 797, 798, 799, 800, 801, 802, 803, 804, 805, 806, 807, 808, 809, 810, 811, 812, 813, 814, 815, 816, 817, 818, 819, 820, 821, 822, 207, 208, 209, 211, 212, 213, 214, 215, 823, 824, 825, 826, 827, 828, 829, 830, 831, 832, 833, 834, 835, 836, 837, 838, 839, 840, 841, 842, 176, 177, 178, 843, 844, 845, 846, 847, 848, 849, 362, 363, 364, 365, 366, 367, 358, 359, 360, 368, 332, 333, 334, 335, 2, 336, 337, 338, 339, 340, 369, 370, 371, 372, 373, 374, 375, 376, 377, 378, 379, 380, 381, 382, 383, 384, 255, 385, 386, 387, 388, 389, 390, 391, 392, 393, 394, 395, 396, 397, 398, 399, 400, 850, 1106, 1107, 1108, 1109, 1110, 1111, 1112, 1113, 1114, 1115, 1116, 1162, 1163, 1164, 1165, 1166, 1167, 1160, 1161, 1137, 1138, 1139, 1140, 1141, 1142, 1143, 1149, 1150, 1151, 1152, 1144, 1145, 1146, 1147, 1148] (by decide +kernel) (by decide +kernel)
set_option maxRecDepth 20000 in
theorem gL_law_X8_text : GoodIn wsL_law (wsV RL 129 RX8 yX8_text wsX8_text) := goodIn_app (goodIn_of _ (by decide +kernel)) ggL_law_X8_text
set_option maxRecDepth 20000 in
theorem ggL_law_X9_text : GoodIn wsL_law wsX9_text := goodIn_r _ [854, 121, 855, 856, 857, 858, 700, 859, 505, 506, 507, 5, 508, 111, 860, 861, 862, 863, 864, 865, 866, 867, 868, 869, 870, 871, 872, 115, 873, 874, 875, 159, 160, 161, 876, 877, 878, 879, 880, 881, 882, 883, 884, 885, 886, 887, 888, 889, 890, 891, 892, 893, 894, 895, 896, 897, 898, 899, 900, 901, 902, 903, 904, 227, 228, 229, 230, 231, 232, 233, 905, 906, 907, 908, 909, 910, 911, 912, 186, 913, 914, 915, 916, 917, 918, 162, 163, 164, 165, 919, 920, 921, 922, 923, 924, 925, 926, 122, 123, 124, 125, 927, 928, 929, 930, 931, 932, 933, 934, 935, 406, 407, 408, 409, 271, 272, 273, 274, 345, 346, 347, 348, 349, 350, 351, 267, 268, 269, 270, 410, 411, 412, 413, 279, 280, 281, 282, 414, 415, 416, 417, 936, 937, 938, 939, 1117, 1118, 1119, 1120, 1121, 1122, 1123, 1124, 1125, 1126, 1127, 1128, 1129, 1130, 1131, 1132, 1133, 1134, 1135, 1136] (by decide +kernel) (by decide +kernel)
set_option maxRecDepth 20000 in
theorem gL_law_X9_text : GoodIn wsL_law (wsV RL 132 RX9 yX9_text wsX9_text) := goodIn_app (goodIn_of _ (by decide +kernel)) ggL_law_X9_text
set_option maxRecDepth 20000 in
theorem ggL_law_X8_sheet : GoodIn wsL_law wsX8_sheet := goodIn_r _ [943, 130, 944, 44, 945, 946, 947, 2, 948, 136, 137, 138, 139, 140, 141, 142, 48, 949, 950, 951, 46, 952, 953, 954, 106, 955, 956, 957, 958, 1106, 1107, 1108, 1109, 1110, 1111, 1112, 1113, 1114, 1115, 1116, 1168, 1169, 1170] (by decide +kernel) (by decide +kernel)
set_option maxRecDepth 20000 in
theorem gL_law_X8_sheet : GoodIn wsL_law (wsV RL 133 RX8 yX8_sheet wsX8_sheet) := goodIn_app (goodIn_of _ (by decide +kernel)) ggL_law_X8_sheet
set_option maxRecDepth 20000 in
theorem ggL_law_X9_sheet : GoodIn wsL_law wsX9_sheet := goodIn_r _ [962, 155, 963, 116, 117, 118, 964, 965, 5, 966, 159, 160, 161, 166, 167, 168, 169, 112, 1117, 1118, 1119, 1120, 1121, 1122, 1123, 1124, 1125, 1126, 1127, 1128, 1129, 1130, 1131, 1132, 1133, 1134, 1135, 1136] (by decide +kernel) (by decide +kernel)
set_option maxRecDepth 20000 in
theorem gL_law_X9_sheet : GoodIn wsL_law (wsV RL 136 RX9 yX9_sheet wsX9_sheet) := goodIn_app (goodIn_of _ (by decide +kernel)) ggL_law_X9_sheet
set_option maxRecDepth 20000 in
theorem ggL_law_X8_write : GoodIn wsL_law wsX8_write := goodIn_r _ [970, 130, 44, 971, 945, 972, 946, 947, 2, 948, 136, 137, 138, 139, 140, 141, 142, 48, 973, 974, 975, 46, 976, 953, 977, 978, 979, 980, 954, 106, 1106, 1107, 1108, 1109, 1110, 1111, 1112, 1113, 1114, 1115, 1116, 1168, 1169, 1170] (by decide +kernel) (by decide +kernel)
set_option maxRecDepth 20000 in
theorem gL_law_X8_write : GoodIn wsL_law (wsV RL 139 RX8 yX8_write wsX8_write) := goodIn_app (goodIn_of _ (by decide +kernel)) ggL_law_X8_write
set_option maxRecDepth 20000 in
theorem ggL_law_X9_write : GoodIn wsL_law wsX9_write := goodIn_r _ [984, 155, 116, 985, 117, 118, 964, 965, 5, 966, 159, 160, 161, 166, 167, 168, 169, 112, 986, 987, 988, 1117, 1118, 1119, 1120, 1121, 1122, 1123, 1124, 1125, 1126, 1127, 1128, 1129, 1130, 1131, 1132, 1133, 1134, 1135, 1136] (by decide +kernel) (by decide +kernel)
set_option maxRecDepth 20000 in
theorem gL_law_X9_write : GoodIn wsL_law (wsV RL 143 RX9 yX9_write wsX9_write) := goodIn_app (goodIn_of _ (by decide +kernel)) ggL_law_X9_write
set_option maxRecDepth 20000 in
theorem ggL_law_X8_copy : GoodIn wsL_law wsX8_copy := goodIn_r _ [992, 130, 44, 971, 993, 313, 972, 994, 538, 539, 540, 946, 947, 2, 948, 136, 137, 138, 139, 140, 141, 142, 48, 973, 974, 975, 46, 976, 953, 995, 996, 997, 998, 954, 1106, 1107, 1108, 1109, 1110, 1111, 1112, 1113, 1114, 1115, 1116, 1168, 1169, 1170] (by decide +kernel) (by decide +kernel)
set_option maxRecDepth 20000 in
theorem gL_law_X8_copy : GoodIn wsL_law (wsV RL 144 RX8 yX8_copy wsX8_copy) := goodIn_app (goodIn_of _ (by decide +kernel)) ggL_law_X8_copy
set_option maxRecDepth 20000 in
theorem ggL_law_X9_copy : GoodIn wsL_law wsX9_copy := goodIn_r _ [1002, 155, 116, 985, 322, 119, 118, 964, 965, 5, 966, 159, 160, 161, 166, 167, 168, 169, 112, 1003, 1004, 1005, 1006, 117, 1117, 1118, 1119, 1120, 1121, 1122, 1123, 1124, 1125, 1126, 1127, 1128, 1129, 1130, 1131, 1132, 1133, 1134, 1135, 1136] (by decide +kernel) (by decide +kernel)
set_option maxRecDepth 20000 in
theorem gL_law_X9_copy : GoodIn wsL_law (wsV RL 148 RX9 yX9_copy wsX9_copy) := goodIn_app (goodIn_of _ (by decide +kernel)) ggL_law_X9_copy
set_option maxRecDepth 20000 in
theorem ggL_law_X8_lays : GoodIn wsL_law wsX8_lays := goodIn_r _ [1010, 16, 130, 44, 238, 945, 972, 1011, 131, 132, 1012, 1013, 1014, 2, 1015, 971, 946, 947, 948, 136, 137, 138, 973, 974, 975, 46, 976, 953, 139, 140, 141, 142, 48, 242, 243, 244, 15, 245, 210, 357, 358, 359, 25, 360, 216, 361, 362, 363, 364, 365, 366, 367, 368, 332, 333, 334, 254, 335, 336, 337, 338, 339, 340, 369, 370, 371, 29, 372, 149, 373, 256, 257, 258, 374, 375, 376, 377, 218, 75, 217, 378, 379, 380, 381, 382, 383, 384, 255, 385, 386, 387, 388, 389, 390, 391, 392, 393, 394, 395, 396, 397, 148, 398, 399, 400, 1106, 1107, 1108, 1109, 1110, 1111, 1112, 1113, 1114, 1115, 1116, 1137, 1138, 1139, 1168, 1169, 1170, 1140, 1141, 1142, 1143, 1144, 1145, 1146, 1147, 1148, 1149, 1150, 1151, 1152] (by decide +kernel) (by decide +kernel)
set_option maxRecDepth 20000 in
theorem gL_law_X8_lays : GoodIn wsL_law (wsV RL 149 RX8 yX8_lays wsX8_lays) := goodIn_app (goodIn_of _ (by decide +kernel)) ggL_law_X8_lays
set_option maxRecDepth 20000 in
theorem ggL_law_X9_lays : GoodIn wsL_law wsX9_lays := goodIn_r _ [1019, 155, 116, 985, 117, 118, 1020, 964, 965, 5, 966, 159, 160, 161, 263, 264, 265, 266, 111, 166, 167, 168, 169, 112, 271, 272, 273, 274, 231, 232, 233, 406, 407, 408, 409, 162, 163, 164, 165, 345, 346, 347, 348, 349, 350, 351, 267, 268, 269, 270, 122, 123, 124, 125, 410, 411, 412, 413, 279, 280, 281, 282, 414, 415, 416, 417, 186, 1117, 1118, 1119, 1120, 1121, 1122, 1123, 1124, 1125, 1126, 1127, 1128, 1129, 1130, 1131, 1132, 1133, 1134, 1135, 1136] (by decide +kernel) (by decide +kernel)
set_option maxRecDepth 20000 in
theorem gL_law_X9_lays : GoodIn wsL_law (wsV RL 152 RX9 yX9_lays wsX9_lays) := goodIn_app (goodIn_of _ (by decide +kernel)) ggL_law_X9_lays
set_option maxRecDepth 20000 in
theorem ggL_law_X8_show : GoodIn wsL_law wsX8_show := goodIn_r _ [1024, 16, 130, 44, 238, 240, 945, 1025, 256, 257, 258, 295, 1012, 1013, 1014, 2, 1015, 971, 946, 947, 948, 136, 137, 138, 973, 974, 975, 46, 976, 953, 139, 140, 141, 142, 48, 242, 243, 244, 15, 245, 210, 977, 978, 979, 980, 954, 106, 1106, 1107, 1108, 1109, 1110, 1111, 1112, 1113, 1114, 1115, 1116, 1137, 1138, 1139, 1144, 1145, 1146, 1147, 1148, 1168, 1169, 1170] (by decide +kernel) (by decide +kernel)
set_option maxRecDepth 20000 in
theorem gL_law_X8_show : GoodIn wsL_law (wsV RL 153 RX8 yX8_show wsX8_show) := goodIn_app (goodIn_of _ (by decide +kernel)) ggL_law_X8_show
set_option maxRecDepth 20000 in
theorem ggL_law_X9_show : GoodIn wsL_law wsX9_show := goodIn_r _ [1029, 155, 116, 985, 117, 118, 964, 965, 5, 966, 159, 160, 161, 263, 264, 265, 266, 111, 166, 167, 168, 169, 112, 271, 272, 273, 274, 231, 232, 233, 279, 280, 281, 282, 986, 987, 988, 1117, 1118, 1119, 1120, 1121, 1122, 1123, 1124, 1125, 1126, 1127, 1128, 1129, 1130, 1131, 1132, 1133, 1134, 1135, 1136] (by decide +kernel) (by decide +kernel)
set_option maxRecDepth 20000 in
theorem gL_law_X9_show : GoodIn wsL_law (wsV RL 156 RX9 yX9_show wsX9_show) := goodIn_app (goodIn_of _ (by decide +kernel)) ggL_law_X9_show
set_option maxRecDepth 20000 in
theorem ggL_law_X8_read : GoodIn wsL_law wsX8_read := goodIn_r _ [1033, 130, 44, 945, 944, 34, 16, 131, 294, 1012, 1013, 1014, 2, 1015, 971, 946, 947, 948, 136, 137, 138, 973, 974, 975, 46, 976, 953, 139, 140, 141, 142, 48, 203, 204, 205, 1034, 1035, 1036, 33, 1037, 83, 85, 1038, 576, 494, 495, 21, 496, 62, 66, 67, 449, 497, 498, 499, 29, 500, 147, 148, 149, 150, 1039, 213, 214, 25, 215, 216, 217, 218, 1040, 1041, 1042, 1043, 1044, 582, 583, 584, 1045, 1046, 1047, 590, 591, 592, 593, 577, 534, 535, 536, 254, 75, 537, 538, 539, 540, 594, 362, 363, 364, 365, 366, 367, 358, 359, 360, 368, 332, 333, 334, 335, 336, 337, 338, 339, 340, 369, 370, 371, 372, 373, 256, 257, 258, 374, 375, 376, 377, 378, 379, 380, 381, 382, 383, 384, 255, 385, 386, 387, 388, 389, 390, 391, 392, 393, 394, 395, 396, 397, 398, 399, 400, 1106, 1107, 1108, 1109, 1110, 1111, 1112, 1113, 1114, 1115, 1116, 1168, 1169, 1170, 1137, 1138, 1139, 1153, 1154, 1155, 1156, 1157, 1158, 1159, 1144, 1145, 1146, 1147, 1148, 1140, 1141, 1142, 1143, 1149, 1150, 1151, 1152] (by decide +kernel) (by decide +kernel)
set_option maxRecDepth 20000 in
theorem gL_law_X8_read : GoodIn wsL_law (wsV RL 157 RX8 yX8_read wsX8_read) := goodIn_app (goodIn_of _ (by decide +kernel)) ggL_law_X8_read
set_option maxRecDepth 20000 in
theorem ggL_law_X9_read : GoodIn wsL_law wsX9_read := goodIn_r _ [1051, 155, 116, 985, 117, 963, 113, 111, 300, 964, 965, 5, 966, 159, 160, 161, 224, 225, 226, 166, 167, 168, 169, 112, 505, 506, 507, 508, 231, 232, 233, 546, 547, 548, 549, 114, 611, 612, 613, 614, 406, 407, 408, 409, 271, 272, 273, 274, 162, 163, 164, 165, 345, 346, 347, 348, 349, 350, 351, 267, 268, 269, 270, 122, 123, 124, 125, 410, 411, 412, 413, 279, 280, 281, 282, 414, 415, 416, 417, 186, 1052, 1053, 1054, 1055, 118, 554, 555, 556, 557, 1117, 1118, 1119, 1120, 1121, 1122, 1123, 1124, 1125, 1126, 1127, 1128, 1129, 1130, 1131, 1132, 1133, 1134, 1135, 1136] (by decide +kernel) (by decide +kernel)
set_option maxRecDepth 20000 in
theorem gL_law_X9_read : GoodIn wsL_law (wsV RL 160 RX9 yX9_read wsX9_read) := goodIn_app (goodIn_of _ (by decide +kernel)) ggL_law_X9_read
set_option maxRecDepth 20000 in
theorem ggL_law_X8_image : GoodIn wsL_law wsX8_image := goodIn_r _ [1059, 17, 16, 18, 850, 722, 723, 15, 724, 54, 210, 56, 725, 494, 495, 21, 496, 62, 66, 67, 449, 497, 498, 499, 29, 500, 147, 148, 149, 150, 726, 534, 535, 25, 536, 254, 216, 217, 218, 75, 537, 538, 539, 540, 1106, 1107, 1108, 1109, 1110, 1111, 1112, 1113, 1114, 1115, 1116, 1137, 1138, 1139, 1140, 1141, 1142, 1143, 1149, 1150, 1151, 1152, 1144, 1145, 1146, 1147, 1148] (by decide +kernel) (by decide +kernel)
set_option maxRecDepth 20000 in
theorem gL_law_X8_image : GoodIn wsL_law (wsV RL 161 RX8 yX8_image wsX8_image) := goodIn_app (goodIn_of _ (by decide +kernel)) ggL_law_X8_image
set_option maxRecDepth 20000 in
theorem ggL_law_X9_image : GoodIn wsL_law wsX9_image := goodIn_r _ [1063, 120, 1064, 505, 506, 507, 5, 508, 111, 1117, 1118, 1119, 1120, 1121, 1122, 1123, 1124, 1125, 1126, 1127, 1128, 1129, 1130, 1131, 1132, 1133, 1134, 1135, 1136] (by decide +kernel) (by decide +kernel)
set_option maxRecDepth 20000 in
theorem gL_law_X9_image : GoodIn wsL_law (wsV RL 164 RX9 yX9_image wsX9_image) := goodIn_app (goodIn_of _ (by decide +kernel)) ggL_law_X9_image
set_option maxRecDepth 20000 in
theorem ggL_law_X8_undo : GoodIn wsL_law wsX8_undo := goodIn_r _ [1068, 18, 294, 16, 17, 202, 139, 140, 141, 2, 142, 130, 48, 136, 137, 138, 850, 722, 723, 15, 724, 54, 210, 56, 725, 494, 495, 21, 496, 62, 66, 67, 449, 497, 498, 499, 29, 500, 147, 148, 149, 150, 726, 534, 535, 25, 536, 254, 216, 217, 218, 75, 537, 538, 539, 540, 1106, 1107, 1108, 1109, 1110, 1111, 1112, 1113, 1114, 1115, 1116, 1137, 1138, 1139, 1140, 1141, 1142, 1143, 1149, 1150, 1151, 1152, 1144, 1145, 1146, 1147, 1148] (by decide +kernel) (by decide +kernel)
set_option maxRecDepth 20000 in
theorem gL_law_X8_undo : GoodIn wsL_law (wsV RL 165 RX8 yX8_undo wsX8_undo) := goodIn_app (goodIn_of _ (by decide +kernel)) ggL_law_X8_undo
set_option maxRecDepth 20000 in
theorem ggL_law_X9_undo : GoodIn wsL_law wsX9_undo := goodIn_r _ [1072, 1064, 300, 120, 111, 166, 167, 168, 5, 169, 112, 155, 505, 506, 507, 508, 1117, 1118, 1119, 1120, 1121, 1122, 1123, 1124, 1125, 1126, 1127, 1128, 1129, 1130, 1131, 1132, 1133, 1134, 1135, 1136] (by decide +kernel) (by decide +kernel)
set_option maxRecDepth 20000 in
theorem gL_law_X9_undo : GoodIn wsL_law (wsV RL 168 RX9 yX9_undo wsX9_undo) := goodIn_app (goodIn_of _ (by decide +kernel)) ggL_law_X9_undo
set_option maxRecDepth 20000 in
theorem ggL_law_X8_tear : GoodIn wsL_law wsX8_tear := goodIn_r _ [1076, 18, 1106, 1107, 1108, 1109, 1110, 1111, 1112, 1113, 1114, 1115, 1116] (by decide +kernel) (by decide +kernel)
set_option maxRecDepth 20000 in
theorem gL_law_X8_tear : GoodIn wsL_law (wsV RL 169 RX8 yX8_tear wsX8_tear) := goodIn_app (goodIn_of _ (by decide +kernel)) ggL_law_X8_tear
set_option maxRecDepth 20000 in
theorem ggL_law_X9_tear : GoodIn wsL_law wsX9_tear := goodIn_r _ [1080, 1064, 1117, 1118, 1119, 1120, 1121, 1122, 1123, 1124, 1125, 1126, 1127, 1128, 1129, 1130, 1131, 1132, 1133, 1134, 1135, 1136] (by decide +kernel) (by decide +kernel)
set_option maxRecDepth 20000 in
theorem gL_law_X9_tear : GoodIn wsL_law (wsV RL 172 RX9 yX9_tear wsX9_tear) := goodIn_app (goodIn_of _ (by decide +kernel)) ggL_law_X9_tear
set_option maxRecDepth 20000 in
theorem ggL_law_X8_count : GoodIn wsL_law wsX8_count := goodIn_r _ [1084, 16, 202, 38, 690, 131, 130, 1085, 1086, 1087, 15, 1088, 210, 56, 1089, 1090, 1091, 1092, 21, 1093, 62, 454, 139, 140, 141, 2, 142, 48, 136, 137, 138, 1106, 1107, 1108, 1109, 1110, 1111, 1112, 1113, 1114, 1115, 1116, 1137, 1138, 1139, 1160, 1161, 1144, 1145, 1146, 1147, 1148, 1140, 1141, 1142, 1143, 1149, 1150, 1151, 1152] (by decide +kernel) (by decide +kernel)
set_option maxRecDepth 20000 in
theorem gL_law_X8_count : GoodIn wsL_law (wsV RL 173 RX8 yX8_count wsX8_count) := goodIn_app (goodIn_of _ (by decide +kernel)) ggL_law_X8_count
set_option maxRecDepth 20000 in
theorem ggL_law_X9_count : GoodIn wsL_law wsX9_count := goodIn_r _ [1097, 111, 700, 155, 271, 272, 273, 5, 274, 231, 232, 233, 162, 163, 164, 165, 166, 167, 168, 169, 112, 1117, 1118, 1119, 1120, 1121, 1122, 1123, 1124, 1125, 1126, 1127, 1128, 1129, 1130, 1131, 1132, 1133, 1134, 1135, 1136] (by decide +kernel) (by decide +kernel)
set_option maxRecDepth 20000 in
theorem gL_law_X9_count : GoodIn wsL_law (wsV RL 176 RX9 yX9_count wsX9_count) := goodIn_app (goodIn_of _ (by decide +kernel)) ggL_law_X9_count
set_option maxRecDepth 20000 in
theorem ggL_law_X8_status : GoodIn wsL_law wsX8_status := goodIn_r _ [1101, 130, 48, 136, 137, 2, 138, 139, 140, 141, 142, 1106, 1107, 1108, 1109, 1110, 1111, 1112, 1113, 1114, 1115, 1116] (by decide +kernel) (by decide +kernel)
set_option maxRecDepth 20000 in
theorem gL_law_X8_status : GoodIn wsL_law (wsV RL 177 RX8 yX8_status wsX8_status) := goodIn_app (goodIn_of _ (by decide +kernel)) ggL_law_X8_status
set_option maxRecDepth 20000 in
theorem ggL_law_X9_status : GoodIn wsL_law wsX9_status := goodIn_r _ [1105, 155, 112, 159, 160, 5, 161, 166, 167, 168, 169, 1117, 1118, 1119, 1120, 1121, 1122, 1123, 1124, 1125, 1126, 1127, 1128, 1129, 1130, 1131, 1132, 1133, 1134, 1135, 1136] (by decide +kernel) (by decide +kernel)
set_option maxRecDepth 20000 in
theorem gL_law_X9_status : GoodIn wsL_law (wsV RL 180 RX9 yX9_status wsX9_status) := goodIn_app (goodIn_of _ (by decide +kernel)) ggL_law_X9_status
